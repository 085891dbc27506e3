section
-- ===== PART A: goes FIRST, ahead of the names: the tables' words, and 'selects' of the private methods out of them =====
/-- a private method of a class that the tables say can be made, by its rows of tables_1 -/
def lw_okq (q : MethodName × Nat) : Prop := (q.1.cls ≠ "java/lang/invoke/MethodHandle" ∧ q.1.cls ≠ "java/lang/invoke/VarHandle") ∧ Cond.instantiable q.1.cls q.2 ∈ tables_1 ∧ Cond.privateMethod q.1 ∈ tables_1 ∧ Cond.instanceMethod q.1 ∈ tables_1
theorem lw_p0 : lw_okq (⟨"PromiseClocks", "greatestStep", "(LPromiseClocks$Case;)I"⟩, 5) := ⟨⟨by decide +kernel, by decide +kernel⟩, List.mem_of_getElem? (i := 14) (by decide +kernel), List.mem_of_getElem? (i := 94) (by decide +kernel), List.mem_of_getElem? (i := 95) (by decide +kernel)⟩
theorem lw_p1 : lw_okq (⟨"PromiseClocks", "stepOfStage", "(LPromiseClocks$Case;I)I"⟩, 5) := ⟨⟨by decide +kernel, by decide +kernel⟩, List.mem_of_getElem? (i := 14) (by decide +kernel), List.mem_of_getElem? (i := 98) (by decide +kernel), List.mem_of_getElem? (i := 99) (by decide +kernel)⟩
theorem lw_p2 : lw_okq (⟨"PromiseClocks", "promiseFor", "(LPromiseClocks$Case;I)I"⟩, 5) := ⟨⟨by decide +kernel, by decide +kernel⟩, List.mem_of_getElem? (i := 14) (by decide +kernel), List.mem_of_getElem? (i := 106) (by decide +kernel), List.mem_of_getElem? (i := 107) (by decide +kernel)⟩
theorem lw_p3 : lw_okq (⟨"PromiseClocks", "siteAt", "(I)LPromiseClocks$Site;"⟩, 5) := ⟨⟨by decide +kernel, by decide +kernel⟩, List.mem_of_getElem? (i := 14) (by decide +kernel), List.mem_of_getElem? (i := 122) (by decide +kernel), List.mem_of_getElem? (i := 123) (by decide +kernel)⟩
theorem lw_p4 : lw_okq (⟨"java/lang/Throwable", "fillInStackTrace", "(I)Ljava/lang/Throwable;"⟩, 6) := ⟨⟨by decide +kernel, by decide +kernel⟩, List.mem_of_getElem? (i := 164) (by decide +kernel), List.mem_of_getElem? (i := 162) (by decide +kernel), List.mem_of_getElem? (i := 163) (by decide +kernel)⟩
theorem lw_p5 : lw_okq (⟨"PromiseClocks$Site", "countBefore", "(I)I"⟩, 9) := ⟨⟨by decide +kernel, by decide +kernel⟩, List.mem_of_getElem? (i := 25) (by decide +kernel), List.mem_of_getElem? (i := 292) (by decide +kernel), List.mem_of_getElem? (i := 293) (by decide +kernel)⟩
theorem lw_p6 : lw_okq (⟨"PromiseClocks", "caseAt", "(I)LPromiseClocks$Case;"⟩, 5) := ⟨⟨by decide +kernel, by decide +kernel⟩, List.mem_of_getElem? (i := 14) (by decide +kernel), List.mem_of_getElem? (i := 382) (by decide +kernel), List.mem_of_getElem? (i := 383) (by decide +kernel)⟩
theorem lw_p7 : lw_okq (⟨"PromiseClocks", "countMissedOfReached", "(LPromiseClocks$Case;)I"⟩, 5) := ⟨⟨by decide +kernel, by decide +kernel⟩, List.mem_of_getElem? (i := 14) (by decide +kernel), List.mem_of_getElem? (i := 387) (by decide +kernel), List.mem_of_getElem? (i := 388) (by decide +kernel)⟩
theorem lw_p8 : lw_okq (⟨"PromiseClocks", "misses", "(LPromiseClocks$Case;I)Z"⟩, 5) := ⟨⟨by decide +kernel, by decide +kernel⟩, List.mem_of_getElem? (i := 14) (by decide +kernel), List.mem_of_getElem? (i := 391) (by decide +kernel), List.mem_of_getElem? (i := 392) (by decide +kernel)⟩
theorem lw_p9 : lw_okq (⟨"PromiseClocks", "closeMended", "(LPromiseClocks$Case;I)V"⟩, 5) := ⟨⟨by decide +kernel, by decide +kernel⟩, List.mem_of_getElem? (i := 14) (by decide +kernel), List.mem_of_getElem? (i := 395) (by decide +kernel), List.mem_of_getElem? (i := 396) (by decide +kernel)⟩
theorem lw_p10 : lw_okq (⟨"PromiseClocks", "isCoveredToday", "(LPromiseClocks$Case;)Z"⟩, 5) := ⟨⟨by decide +kernel, by decide +kernel⟩, List.mem_of_getElem? (i := 14) (by decide +kernel), List.mem_of_getElem? (i := 403) (by decide +kernel), List.mem_of_getElem? (i := 404) (by decide +kernel)⟩
theorem lw_p11 : lw_okq (⟨"PromiseClocks", "countJoinedTo", "(LPromiseClocks$Case;)I"⟩, 5) := ⟨⟨by decide +kernel, by decide +kernel⟩, List.mem_of_getElem? (i := 14) (by decide +kernel), List.mem_of_getElem? (i := 428) (by decide +kernel), List.mem_of_getElem? (i := 429) (by decide +kernel)⟩
theorem lw_p12 : lw_okq (⟨"PromiseClocksModel", "asked", "(ZZ)Z"⟩, 21) := ⟨⟨by decide +kernel, by decide +kernel⟩, List.mem_of_getElem? (i := 496) (by decide +kernel), List.mem_of_getElem? (i := 581) (by decide +kernel), List.mem_of_getElem? (i := 582) (by decide +kernel)⟩
theorem lw_p13 : lw_okq (⟨"PromiseClocksModel", "asked", "(ZZZ)Z"⟩, 21) := ⟨⟨by decide +kernel, by decide +kernel⟩, List.mem_of_getElem? (i := 496) (by decide +kernel), List.mem_of_getElem? (i := 589) (by decide +kernel), List.mem_of_getElem? (i := 590) (by decide +kernel)⟩
theorem lw_p14 : lw_okq (⟨"PromiseClocksModel", "asked", "(Z)Z"⟩, 21) := ⟨⟨by decide +kernel, by decide +kernel⟩, List.mem_of_getElem? (i := 496) (by decide +kernel), List.mem_of_getElem? (i := 597) (by decide +kernel), List.mem_of_getElem? (i := 598) (by decide +kernel)⟩
theorem lw_p15 : lw_okq (⟨"PromiseClocksModel", "covered", "(III)Z"⟩, 21) := ⟨⟨by decide +kernel, by decide +kernel⟩, List.mem_of_getElem? (i := 496) (by decide +kernel), List.mem_of_getElem? (i := 608) (by decide +kernel), List.mem_of_getElem? (i := 609) (by decide +kernel)⟩
def lw_privs_1 : List (MethodName × Nat) := [(⟨"PromiseClocks", "greatestStep", "(LPromiseClocks$Case;)I"⟩, 5), (⟨"PromiseClocks", "stepOfStage", "(LPromiseClocks$Case;I)I"⟩, 5), (⟨"PromiseClocks", "promiseFor", "(LPromiseClocks$Case;I)I"⟩, 5), (⟨"PromiseClocks", "siteAt", "(I)LPromiseClocks$Site;"⟩, 5), (⟨"java/lang/Throwable", "fillInStackTrace", "(I)Ljava/lang/Throwable;"⟩, 6), (⟨"PromiseClocks$Site", "countBefore", "(I)I"⟩, 9), (⟨"PromiseClocks", "caseAt", "(I)LPromiseClocks$Case;"⟩, 5), (⟨"PromiseClocks", "countMissedOfReached", "(LPromiseClocks$Case;)I"⟩, 5), (⟨"PromiseClocks", "misses", "(LPromiseClocks$Case;I)Z"⟩, 5), (⟨"PromiseClocks", "closeMended", "(LPromiseClocks$Case;I)V"⟩, 5), (⟨"PromiseClocks", "isCoveredToday", "(LPromiseClocks$Case;)Z"⟩, 5), (⟨"PromiseClocks", "countJoinedTo", "(LPromiseClocks$Case;)I"⟩, 5), (⟨"PromiseClocksModel", "asked", "(ZZ)Z"⟩, 21), (⟨"PromiseClocksModel", "asked", "(ZZZ)Z"⟩, 21), (⟨"PromiseClocksModel", "asked", "(Z)Z"⟩, 21), (⟨"PromiseClocksModel", "covered", "(III)Z"⟩, 21)]
theorem lw_r1 : ∀ q ∈ lw_privs_1, lw_okq q := List.forall_mem_cons.mpr ⟨lw_p0, List.forall_mem_cons.mpr ⟨lw_p1, List.forall_mem_cons.mpr ⟨lw_p2, List.forall_mem_cons.mpr ⟨lw_p3, List.forall_mem_cons.mpr ⟨lw_p4, List.forall_mem_cons.mpr ⟨lw_p5, List.forall_mem_cons.mpr ⟨lw_p6, List.forall_mem_cons.mpr ⟨lw_p7, List.forall_mem_cons.mpr ⟨lw_p8, List.forall_mem_cons.mpr ⟨lw_p9, List.forall_mem_cons.mpr ⟨lw_p10, List.forall_mem_cons.mpr ⟨lw_p11, List.forall_mem_cons.mpr ⟨lw_p12, List.forall_mem_cons.mpr ⟨lw_p13, List.forall_mem_cons.mpr ⟨lw_p14, List.forall_mem_cons.mpr ⟨lw_p15, fun _ h => absurd h List.not_mem_nil⟩⟩⟩⟩⟩⟩⟩⟩⟩⟩⟩⟩⟩⟩⟩⟩
theorem lw_p16 : lw_okq (⟨"PromiseClocksModel", "counts", "(II)Z"⟩, 21) := ⟨⟨by decide +kernel, by decide +kernel⟩, List.mem_of_getElem? (i := 496) (by decide +kernel), List.mem_of_getElem? (i := 620) (by decide +kernel), List.mem_of_getElem? (i := 621) (by decide +kernel)⟩
theorem lw_p17 : lw_okq (⟨"PromiseClocksModel", "told", "(I)I"⟩, 21) := ⟨⟨by decide +kernel, by decide +kernel⟩, List.mem_of_getElem? (i := 496) (by decide +kernel), List.mem_of_getElem? (i := 628) (by decide +kernel), List.mem_of_getElem? (i := 629) (by decide +kernel)⟩
theorem lw_p18 : lw_okq (⟨"PromiseClocksModel", "isCase", "(I)Z"⟩, 21) := ⟨⟨by decide +kernel, by decide +kernel⟩, List.mem_of_getElem? (i := 496) (by decide +kernel), List.mem_of_getElem? (i := 649) (by decide +kernel), List.mem_of_getElem? (i := 650) (by decide +kernel)⟩
theorem lw_p19 : lw_okq (⟨"PromiseClocksModel", "missedOf", "(I)I"⟩, 21) := ⟨⟨by decide +kernel, by decide +kernel⟩, List.mem_of_getElem? (i := 496) (by decide +kernel), List.mem_of_getElem? (i := 653) (by decide +kernel), List.mem_of_getElem? (i := 654) (by decide +kernel)⟩
theorem lw_p20 : lw_okq (⟨"PromiseClocksModel", "missed", "(II)Z"⟩, 21) := ⟨⟨by decide +kernel, by decide +kernel⟩, List.mem_of_getElem? (i := 496) (by decide +kernel), List.mem_of_getElem? (i := 657) (by decide +kernel), List.mem_of_getElem? (i := 658) (by decide +kernel)⟩
theorem lw_p21 : lw_okq (⟨"PromiseClocksModel", "joinedTo", "(I)I"⟩, 21) := ⟨⟨by decide +kernel, by decide +kernel⟩, List.mem_of_getElem? (i := 496) (by decide +kernel), List.mem_of_getElem? (i := 673) (by decide +kernel), List.mem_of_getElem? (i := 674) (by decide +kernel)⟩
theorem lw_p22 : lw_okq (⟨"PromiseClocksModel", "stepOf", "(I)I"⟩, 21) := ⟨⟨by decide +kernel, by decide +kernel⟩, List.mem_of_getElem? (i := 496) (by decide +kernel), List.mem_of_getElem? (i := 700) (by decide +kernel), List.mem_of_getElem? (i := 701) (by decide +kernel)⟩
def lw_privs_2 : List (MethodName × Nat) := [(⟨"PromiseClocksModel", "counts", "(II)Z"⟩, 21), (⟨"PromiseClocksModel", "told", "(I)I"⟩, 21), (⟨"PromiseClocksModel", "isCase", "(I)Z"⟩, 21), (⟨"PromiseClocksModel", "missedOf", "(I)I"⟩, 21), (⟨"PromiseClocksModel", "missed", "(II)Z"⟩, 21), (⟨"PromiseClocksModel", "joinedTo", "(I)I"⟩, 21), (⟨"PromiseClocksModel", "stepOf", "(I)I"⟩, 21)]
theorem lw_r2 : ∀ q ∈ lw_privs_2, lw_okq q := List.forall_mem_cons.mpr ⟨lw_p16, List.forall_mem_cons.mpr ⟨lw_p17, List.forall_mem_cons.mpr ⟨lw_p18, List.forall_mem_cons.mpr ⟨lw_p19, List.forall_mem_cons.mpr ⟨lw_p20, List.forall_mem_cons.mpr ⟨lw_p21, List.forall_mem_cons.mpr ⟨lw_p22, fun _ h => absurd h List.not_mem_nil⟩⟩⟩⟩⟩⟩⟩
def lw_privs : List (MethodName × Nat) := lw_privs_1 ++ (lw_privs_2)
def lw_tbl : List Cond := k2_sels lw_privs ++ tables_1
theorem lw_privs_ok : ∀ q ∈ lw_privs, lw_okq q := by
  show ∀ q ∈ lw_privs_1 ++ (lw_privs_2), lw_okq q
  exact List.forall_mem_append.mpr ⟨lw_r1, lw_r2⟩
end
section
/-! ===== BEGIN words of one list among another's, by their places ===== -/
theorem goodIn_r {big : List Cond} (ws : List Cond) (ps : List Nat) (hp : ws = ps.filterMap (fun i => big[i]?)) (h : ws.all goodWord = true) : GoodIn big ws := by
  intro w hw
  have h1 := List.all_eq_true.mp h w hw
  rw [hp] at hw
  obtain ⟨i, -, hi⟩ := List.mem_filterMap.mp hw
  have hm : w ∈ big := by first | exact List.mem_of_getElem? hi | exact List.getElem?_mem hi
  exact ⟨hm, good_of_word h1⟩
theorem goodIn_app {big a b : List Cond} (ha : GoodIn big a) (hb : GoodIn big b) : GoodIn big (a ++ b) := fun w h => (List.mem_append.mp h).elim (ha w) (hb w)
theorem goodIn_ca {big a b : List Cond} {c : Cond} (ha : GoodIn big (c :: a)) (hb : GoodIn big b) : GoodIn big (c :: (a ++ b)) := fun w h => (List.mem_cons.mp h).elim (fun e => ha w (List.mem_cons.mpr (Or.inl e))) (fun h => (List.mem_append.mp h).elim (fun h => ha w (List.mem_cons.mpr (Or.inr h))) (hb w))
theorem goodIn_sub {big ws : List Cond} (hm : ∀ w ∈ ws, w ∈ big) (h : ws.all goodWord = true) : GoodIn big ws := fun w hw => ⟨hm w hw, good_of_word (List.all_eq_true.mp h w hw)⟩
/-! ===== END ===== -/

/-! ===== BEGIN exceptions that leave a method, and their catching by the caller (launches without stack traces) ===== -/
section VXA
/-! The laws vx_back, vx_callV, vx_callS, vx_callSW, vx_throw0, vx_throwS follow proofs of the library, with one case more: JvmDerived/Free/Laws.lean (Back.of_free), Shelf42/LK1.lean (callV, callS), Shelf/KitTraced.lean (throwNew0V, throwNewS). -/
/-- where a method has thrown q: the class by its name, the cell, what was written, the world -/
def vx_T (XC : String → State → State → Prop) (st : State) (q : Addr) (t : State) (mc ms : Nat) (free : Addr → Prop) : Prop :=
  ∃ (E : String) (ce : Cell) (L : List Loc), XC E st t ∧ t.heap[q]? = some ce ∧ ce.vm = .none ∧ st.vm.findClass E = some ce.cls ∧ st.WarmedH t.vm ∧ st.sameButNew ({ t with vm := st.vm } : State) L mc ms ∧ ∀ z ∈ L, free z.base
def vx_Q (Qc : Array Value → State → Outcome → State → Prop) (XC : String → State → State → Prop) (mc ms : Nat) (free : Addr → Prop) : Array Value → State → Outcome → State → Prop := fun a st o t =>
  (Qc a st o t ∧ ∃ L, FrameEnd st o t L mc ms ∧ ∀ q ∈ L, free q.base) ∨ ∃ q, o = .threw q ∧ vx_T XC st q t mc ms free
/-- a callee that returns or throws -/
def vx_Met (l : Launch) (y : MethodName) (ws : List Cond) (rm : Room) (Pc : Array Value → State → Prop) (Qc : Array Value → State → Outcome → State → Prop) (XC : String → State → State → Prop) (mc ms : Nat) (free : Addr → Prop) : Prop :=
  MetFree l y (headSpec ws rm) Pc (fun _ _ _ _ _ => True) (vx_Q Qc XC mc ms free)
def vx_Post (XC : String → State → State → Prop) (mc ms : Nat) (free : Addr → Prop) : Pt → Array Value → Addr → Pt → Prop := fun A a q B =>
  ∃ (g : JFrame) (mk : MethodId) (t : State) (L : List Loc) (E : String) (ce : Cell), B.U.heap = t.heap ∧ B.U.vm = t.vm ∧ XC E (A.U.calling g mk a) t ∧ t.heap[q]? = some ce ∧ ce.vm = .none ∧ A.U.vm.findClass E = some ce.cls ∧ B.locs = A.locs ++ L ∧ (∀ z ∈ L, free z.base) ∧ B.cells = A.cells + mc ∧ B.slots = A.slots + ms
def vx_Back (l : Launch) (R : Room) (p : Program) (e : Env) (below : List Frame) (s : State) (sargs : Array Value) (y : MethodName) (len W9 : Nat)
    (Pre : Pt → Array Value → Prop) (Post : Pt → Array Value → Option Value → Pt → Prop) (PostX : Pt → Array Value → Addr → Pt → Prop) : Prop :=
  ∀ (m : MethodId) (meth : Method) (c : Code) (A : Pt) (g : JFrame) (ig : Instr) (mk : MethodId) (a : Array Value),
    Stand p l e R s m sargs below meth c A.U A.locs A.cells A.slots → g.method = m → g.locals.size = c.maxLocals → decode c.code g.pc = .ok (ig, len) →
    2 * g.monitorRoom + (g.stack.map fun v => v.category).sum ≤ W9 → A.U.methodNamed? y = some mk → Pre A a →
    (∃ (v : Option Value) (B : Pt), Stand p l e R s m sargs below meth c B.U B.locs B.cells B.slots ∧ Post A a v B ∧
      Steps p.tables e below (doInvoke e (A.U.setTop g) [] mk a).1 (B.U.setTop { g with pc := g.pc + len, stack := v.toList ++ g.stack })) ∨
    (∃ (q : Addr) (B : Pt), Stand p l e R s m sargs below meth c B.U B.locs B.cells B.slots ∧ PostX A a q B ∧
      Steps p.tables e below (doInvoke e (A.U.setTop g) [] mk a).1 ((B.U.setTop g).pushFrame (.throwing q)))
section Payer
variable {l : Launch} {R : Room} {p : Program} {e : Env} {below : List Frame} {s : State} {sargs : Array Value} {y : MethodName} {len W9 : Nat}
theorem vx_back {ws : List Cond} {rm : Room} {Pc : Array Value → State → Prop} {Qc : Array Value → State → Outcome → State → Prop} {XC : String → State → State → Prop} {mc ms : Nat} {free : Addr → Prop} {bytes : ByteArray} {maxL : Nat} {ret : Option FieldType}
    (hM : vx_Met l y ws rm Pc Qc XC mc ms free) (hblind : FrameBlind Pc) (hrc : rm.cells = mc) (hrs : rm.slots = ms)
    (hframes : rm.frames + 1 ≤ R.frames) (hlocals : W9 + (maxL + 11) + rm.locals ≤ R.locals)
    (hws : ∀ w ∈ ws, ∀ a' U, s.WarmedH U.vm → w.before a' U = true) (hcode : Cond.code y bytes maxL ret ∈ ws) (hinit : ∀ a' U, s.WarmedH U.vm → (Cond.initialized y.cls).before a' U = true) :
    vx_Back l R p e below s sargs y len W9 (PreOf R mc ms Pc) (PostOf Qc mc ms free) (vx_Post XC mc ms free) := by
  intro m meth c A g ig mk a X hg hsize hdg hW hn hp
  have h1 : (headSpec ws rm).pre.before a A.U = true := atoms_intro fun w hw => hws w hw _ _ X.warmed
  have h2 : (Cond.code y bytes maxL ret).before a A.U = true := hws _ hcode _ _ X.warmed
  have h3 : (Cond.initialized y.cls).before a A.U = true := hinit _ _ X.warmed
  have h4 : A.cells + (headSpec ws rm).room.cells ≤ R.cells := by rw [show (headSpec ws rm).room.cells = mc from hrc]; exact hp.1
  have h5 : A.slots + (headSpec ws rm).room.slots ≤ R.slots := by rw [show (headSpec ws rm).room.slots = ms from hrs]; exact hp.2.1
  have hPc : Pc a (A.U.calling g mk a) := hblind _ _ _ _ hp.2.2
  obtain ⟨U, Ls, c0, s0⟩ := A
  dsimp only [Pt.U, Pt.locs, Pt.cells, Pt.slots] at h1 h2 h3 h4 h5 X hn hPc ⊢
  obtain ⟨methY, cY, hmY, hcY, -, hlY, -, -, -, -⟩ := Cond.code_spec hn h2
  obtain ⟨kY, hkY, -⟩ := className_of_methodNamed hn
  have hinitY : kY.init = .initialized := Cond.initialized_spec (findClass_of_methodNamed hn) hkY h3
  have h : At U g.method c below := by rw [hg]; exact X.here
  have hlocals9 : W9 + (maxL + 11) + (headSpec ws rm).room.locals ≤ R.locals := hlocals
  have happ : (headSpec ws rm).appliesLoose y e.platform (U.calling g mk a) = true :=
    Spec.appliesLoose_calling (g := g) h hdg hn hkY hinitY
      (X.room_calling (g := g) (R' := (headSpec ws rm).room) hsize hmY hcY hframes (by rw [hlY]; omega) h4 h5) h1
  obtain ⟨mid, hmid⟩ := h.above
  have hfr : (U.setTop g).frames = (.java g :: mid) ++ below := by rw [State.frames_setTop' g h.top, hmid]; rfl
  obtain ⟨o, s₂, hsteps, -, hend, hq⟩ := Steps.callFree hM p X.admits X.cas X.clock (acts := []) hfr happ hPc trivial
  have hq' : vx_Q Qc XC mc ms free a (U.calling g mk a) o s₂ := hq
  rw [State.frames_setTop' g h.top] at hend
  obtain ⟨g₀, hg0⟩ := Option.isSome_iff_exists.mp h.top
  obtain ⟨r, hr⟩ := State.topJava?_eq_some.mp hg0
  have hr' : (({ U with heap := s₂.heap, slotsUsed := s₂.slotsUsed } : State).setVm s₂.vm).frames = .java g₀ :: r := hr
  rcases hq' with ⟨hqc, L, hfe, hL⟩ | ⟨q, rfl, E, ce, L, hx, hce, hcv, hcl, hW₂, hsm, hL⟩
  · obtain ⟨⟨v, rfl⟩, hW₂, e2, q2, q3, q4, q5, q6⟩ := id hfe
    have e3 : s₂ = ({ (U.calling g mk a).setFrames s₂.frames with heap := s₂.heap, slotsUsed := s₂.slotsUsed } : State).setVm s₂.vm := by
      have : s₂ = ({ s₂ with vm := (U.calling g mk a).vm } : State).setVm s₂.vm := rfl
      rw [e2] at this
      exact this
    obtain ⟨c₂, i₂, len₂, hc₂, hd₂, hf₂⟩ := hend
    have hW' : U.WarmedH s₂.vm := hW₂
    have hcc : c₂ = c := by
      have h1 : s₂.code? g.method = U.code? g.method := by
        rw [State.code?_eq, State.code?_eq, hW'.alike.method?]
      exact Option.some.inj (hc₂.symm.trans (h1.trans h.code))
    subst hcc
    have hlen : len₂ = len := by rw [hdg] at hd₂; cases hd₂; rfl
    subst hlen
    have hs₂ : s₂ = (({ U with heap := s₂.heap, slotsUsed := s₂.slotsUsed } : State).setVm s₂.vm).setTop { g with pc := g.pc + len₂, stack := v.toList ++ g.stack } := by
      refine e3.trans ?_
      rw [hf₂, State.calling_eq h.top, State.setFrames_setFrames, State.setTop_of_frames _ hr', hr]
      rfl
    have hsame : U.sameButNew ({ U with heap := s₂.heap, slotsUsed := s₂.slotsUsed } : State) L mc ms := by
      refine ⟨?_, q2, q3, q4, q5, q6⟩
      obtain ⟨t, ht, -⟩ := State.frames_cons hr
      show ({ U with heap := s₂.heap, slotsUsed := s₂.slotsUsed } : State) = { U.setFrames U.frames with heap := s₂.heap, slotsUsed := s₂.slotsUsed }
      rw [State.setFrames_self ht]
    subst hg
    refine Or.inl ⟨v, ⟨(({ U with heap := s₂.heap, slotsUsed := s₂.slotsUsed } : State).setVm s₂.vm), Ls ++ L, c0 + mc, s0 + ms⟩,
      ⟨X.admits, X.cas, X.clock, X.frames, X.room, X.hears, X.method, X.code, (X.here.setHeapUsed s₂.heap s₂.slotsUsed).setVm hW'.alike, X.tail, State.WarmedH.trans X.warmed hW', X.limits, X.bytes, X.same.trans (hsame.setVm s.vm)⟩,
      ⟨g, mk, s₂, L, rfl, rfl, hqc, rfl, hL, rfl, rfl⟩, ?_⟩
    show Steps p.tables e below _ ((({ U with heap := s₂.heap, slotsUsed := s₂.slotsUsed } : State).setVm s₂.vm).setTop { g with pc := g.pc + len₂, stack := v.toList ++ g.stack })
    rw [← hs₂]
    exact hsteps
  · obtain ⟨e2, q2, q3, q4, q5, q6⟩ := id hsm
    have e3 : s₂ = ({ (U.calling g mk a).setFrames s₂.frames with heap := s₂.heap, slotsUsed := s₂.slotsUsed } : State).setVm s₂.vm := by
      have : s₂ = ({ s₂ with vm := (U.calling g mk a).vm } : State).setVm s₂.vm := rfl
      rw [e2] at this
      exact this
    have hf₂ : s₂.frames = .throwing q :: .java g :: U.frames.tail := hend
    have hW' : U.WarmedH s₂.vm := hW₂
    have hs₂ : s₂ = ((({ U with heap := s₂.heap, slotsUsed := s₂.slotsUsed } : State).setVm s₂.vm).setTop g).pushFrame (.throwing q) := by
      refine e3.trans ?_
      rw [hf₂, State.calling_eq h.top, State.setFrames_setFrames, State.pushFrame, State.frames_setTop _ hr', State.setTop_of_frames _ hr', State.setFrames_setFrames, hr]
      rfl
    have hsame : U.sameButNew ({ U with heap := s₂.heap, slotsUsed := s₂.slotsUsed } : State) L mc ms := by
      refine ⟨?_, q2, q3, q4, q5, q6⟩
      obtain ⟨t, ht, -⟩ := State.frames_cons hr
      show ({ U with heap := s₂.heap, slotsUsed := s₂.slotsUsed } : State) = { U.setFrames U.frames with heap := s₂.heap, slotsUsed := s₂.slotsUsed }
      rw [State.setFrames_self ht]
    subst hg
    refine Or.inr ⟨q, ⟨(({ U with heap := s₂.heap, slotsUsed := s₂.slotsUsed } : State).setVm s₂.vm), Ls ++ L, c0 + mc, s0 + ms⟩,
      ⟨X.admits, X.cas, X.clock, X.frames, X.room, X.hears, X.method, X.code, (X.here.setHeapUsed s₂.heap s₂.slotsUsed).setVm hW'.alike, X.tail, State.WarmedH.trans X.warmed hW', X.limits, X.bytes, X.same.trans (hsame.setVm s.vm)⟩,
      ⟨g, mk, s₂, L, E, ce, rfl, rfl, hx, hce, hcv, hcl, rfl, hL, rfl, rfl⟩, ?_⟩
    show Steps p.tables e below _ (((({ U with heap := s₂.heap, slotsUsed := s₂.slotsUsed } : State).setVm s₂.vm).setTop g).pushFrame (.throwing q))
    rw [← hs₂]
    exact hsteps
end Payer
section Calls
variable {p : Program} {l : Launch} {e : Env} {R : Room} {s : State} {m : MethodId} {args : Array Value} {below : List Frame} {meth : Method} {c : Code} {T : State} {locs : List Loc} {cells slots : Nat}
theorem vx_callV (X : Stand p l e R s m args below meth c T locs cells slots) (hexec : p.tables.exec = Jvm.exec) {own C : String} {index : Nat} {y : MethodName} {bytes : ByteArray} {maxL : Nat} {ret : Option FieldType}
    (hown : s.vm.findClass own = some m.cls) (hlink : (Cond.methodLink own index y).before args s = true) (hinst : (Cond.instanceMethod y).before args s = true) (hsel : (Cond.selects C y y).before args s = true)
    (hcode : (Cond.code y bytes maxL ret).before args s = true) (hy : y.cls ≠ "java/lang/invoke/MethodHandle" ∧ y.cls ≠ "java/lang/invoke/VarHandle")
    {W9 : Nat} {Pre : Pt → Array Value → Prop} {Post : Pt → Array Value → Option Value → Pt → Prop} {PostX : Pt → Array Value → Addr → Pt → Prop} (hK : vx_Back l R p e below s args y 3 W9 Pre Post PostX)
    {b : Addr} {cellB : Cell} (hcell : T.heap[b]? = some cellB) (hobj : cellB.vm.isStatics = false) (hcls : s.vm.findClass C = some cellB.cls)
    {g : JFrame} (hg : g.method = m) (hsize : g.locals.size = c.maxLocals) {argsL rest : List Value} (hlen : ∀ sig, parseMethodDescriptor y.desc = some sig → argsL.length = sig.parameters.length)
    (hstack : g.stack = argsL.reverse ++ .ref b :: rest) (hW : 2 * g.monitorRoom + (rest.map fun v => v.category).sum ≤ W9) (hdg : decode c.code g.pc = .ok (.invokevirtual index, 3))
    (hpre : ∀ vm₁, s.WarmedH vm₁ → Pre ⟨T.setVm vm₁, locs, cells, slots⟩ (Value.ref b :: argsL).toArray) :
    (∃ (v : Option Value) (vm₁ : Vm) (B : Pt), s.WarmedH vm₁ ∧ Stand p l e R s m args below meth c B.U B.locs B.cells B.slots ∧ Post ⟨T.setVm vm₁, locs, cells, slots⟩ (Value.ref b :: argsL).toArray v B ∧
      ∀ target, Steps p.tables e below (B.U.setTop { g with pc := g.pc + 3, stack := v.toList ++ rest }) target → Steps p.tables e below (T.setTop g) target) ∨
    (∃ (q : Addr) (vm₁ : Vm) (B : Pt), s.WarmedH vm₁ ∧ Stand p l e R s m args below meth c B.U B.locs B.cells B.slots ∧ PostX ⟨T.setVm vm₁, locs, cells, slots⟩ (Value.ref b :: argsL).toArray q B ∧
      Steps p.tables e below (T.setTop g) ((B.U.setTop { g with stack := rest }).pushFrame (.throwing q))) := by
  obtain ⟨mk, methM, hnamed, hmethM, hstM, habM⟩ := Cond.instanceMethod_spec hinst
  obtain ⟨methM', cM, hmethM', -, -, -, -, -, -, hsigM⟩ := Cond.code_spec hnamed hcode
  cases hmethM.symm.trans hmethM'
  obtain ⟨c2, r2, m2, q1, q2, q3, q4, kP, hkP, hkPi⟩ := Cond.selects_spec hsel
  cases hcls.symm.trans q1
  cases (State.methodFound?_of_named hnamed hy).symm.trans q2
  cases hnamed.symm.trans q3
  have hselP : selectMethod e.platform s.vm cellB.cls mk = .method mk := by rw [Launch.admits_selectMethod X.admits]; exact q4
  obtain ⟨vm₁, X₁, hstep₁⟩ := X.invokevirtual hexec hown hlink hnamed hmethM hstM hkP hkPi hy (a := b) (cell := cellB) hcell
    (fun z h => by rw [h] at hobj; cases hobj) hselP hmethM habM hkP hkPi (g := g) hg (argsL := argsL) (rest := rest) (hlen _ hsigM) hstack hdg
  rcases hK m meth c ⟨T.setVm vm₁, locs, cells, slots⟩ { g with stack := rest } (.invokevirtual index) mk (Value.ref b :: argsL).toArray X₁ hg hsize hdg hW (X₁.named hnamed) (hpre vm₁ X₁.warmed) with ⟨v, B, X', hpost, hsteps⟩ | ⟨q, B, X', hpost, hsteps⟩
  · exact Or.inl ⟨v, vm₁, B, X₁.warmed, X', hpost, fun target h => hstep₁ _ fun acts => by rw [doInvoke_state]; exact hsteps.trans h⟩
  · exact Or.inr ⟨q, vm₁, B, X₁.warmed, X', hpost, hstep₁ _ fun acts => by rw [doInvoke_state]; exact hsteps⟩
theorem vx_callS (X : Stand p l e R s m args below meth c T locs cells slots) (hexec : p.tables.exec = Jvm.exec) {own : String} {index : Nat} {y : MethodName} {bytes : ByteArray} {maxL : Nat} {ret : Option FieldType}
    (hown : s.vm.findClass own = some m.cls) (hlink : (Cond.methodLink own index y).before args s = true) (hstat : (Cond.static y).before args s = true) (hinit : (Cond.initialized y.cls).before args s = true)
    (hcode : (Cond.code y bytes maxL ret).before args s = true) (hy : y.cls ≠ "java/lang/invoke/MethodHandle" ∧ y.cls ≠ "java/lang/invoke/VarHandle")
    {W9 : Nat} {Pre : Pt → Array Value → Prop} {Post : Pt → Array Value → Option Value → Pt → Prop} {PostX : Pt → Array Value → Addr → Pt → Prop} (hK : vx_Back l R p e below s args y 3 W9 Pre Post PostX)
    {g : JFrame} (hg : g.method = m) (hsize : g.locals.size = c.maxLocals) {argsL rest : List Value} (hlen : ∀ sig, parseMethodDescriptor y.desc = some sig → argsL.length = sig.parameters.length)
    (hstack : g.stack = argsL.reverse ++ rest) (hW : 2 * g.monitorRoom + (rest.map fun v => v.category).sum ≤ W9) (hdg : decode c.code g.pc = .ok (.invokestatic index, 3))
    (hpre : ∀ vm₁, s.WarmedH vm₁ → Pre ⟨T.setVm vm₁, locs, cells, slots⟩ argsL.toArray) :
    (∃ (v : Option Value) (vm₁ : Vm) (B : Pt), s.WarmedH vm₁ ∧ Stand p l e R s m args below meth c B.U B.locs B.cells B.slots ∧ Post ⟨T.setVm vm₁, locs, cells, slots⟩ argsL.toArray v B ∧
      ∀ target, Steps p.tables e below (B.U.setTop { g with pc := g.pc + 3, stack := v.toList ++ rest }) target → Steps p.tables e below (T.setTop g) target) ∨
    (∃ (q : Addr) (vm₁ : Vm) (B : Pt), s.WarmedH vm₁ ∧ Stand p l e R s m args below meth c B.U B.locs B.cells B.slots ∧ PostX ⟨T.setVm vm₁, locs, cells, slots⟩ argsL.toArray q B ∧
      Steps p.tables e below (T.setTop g) ((B.U.setTop { g with stack := rest }).pushFrame (.throwing q))) := by
  obtain ⟨mk, hnamed⟩ := Cond.code_named hcode
  obtain ⟨methM, cM, hmethM, -, -, -, -, -, -, hsigM⟩ := Cond.code_spec hnamed hcode
  have hstatic : methM.isStatic = true := Cond.static_spec hnamed hmethM hstat
  obtain ⟨kP, hkP, -⟩ := className_of_methodNamed hnamed
  have hinitP : kP.init = .initialized := Cond.initialized_spec (findClass_of_methodNamed hnamed) hkP hinit
  obtain ⟨vm₁, X₁, hstep₁⟩ := X.invokestatic hexec hown hlink hnamed hmethM hstatic hkP hinitP hy (g := g) hg (argsL := argsL) (rest := rest) (hlen _ hsigM) hstack hdg
  rcases hK m meth c ⟨T.setVm vm₁, locs, cells, slots⟩ { g with stack := rest } (.invokestatic index) mk argsL.toArray X₁ hg hsize hdg hW (X₁.named hnamed) (hpre vm₁ X₁.warmed) with ⟨v, B, X', hpost, hsteps⟩ | ⟨q, B, X', hpost, hsteps⟩
  · exact Or.inl ⟨v, vm₁, B, X₁.warmed, X', hpost, fun target h => hstep₁ _ fun acts => by rw [doInvoke_state]; exact hsteps.trans h⟩
  · exact Or.inr ⟨q, vm₁, B, X₁.warmed, X', hpost, hstep₁ _ fun acts => by rw [doInvoke_state]; exact hsteps⟩
end Calls
theorem vx_cls {s : State} {T : State} {vm₁ : Vm} {E : String} {k : ClassId} (hW : s.WarmedH vm₁) (h : (T.setVm vm₁).vm.findClass E = some k) : s.vm.findClass E = some k := by
  have h1 : vm₁.findClass E = some k := h
  rw [hW.alike.findClass] at h1
  exact h1
/-- the method's frame g, with q thrown over it -/
def vx_W (p : Program) (l : Launch) (e : Env) (R : Room) (s : State) (m : MethodId) (args : Array Value) (below : List Frame) (meth : Method) (c : Code) (H : Heap) (locs : List Loc) (cells slots : Nat) (Q : State → Prop) (g : JFrame) (q : Addr) : Prop :=
  ∀ T : State, T.heap = H → Stand p l e R s m args below meth c T locs cells slots → ∃ t, Steps p.tables e below ((T.setTop g).pushFrame (.throwing q)) t ∧ Q t
def vx_Run (p : Program) (l : Launch) (e : Env) (R : Room) (s : State) (m : MethodId) (args : Array Value) (below : List Frame) (meth : Method) (c : Code) (H : Heap) (locs : List Loc) (cells slots mc ms : Nat) (g : JFrame) (rest : List Value) (Qa : State → Outcome → State → Prop) (XC : String → State → State → Prop) (free : Addr → Prop) : Prop :=
  ∀ T : State, T.heap = H → Stand p l e R s m args below meth c T locs cells slots →
    (∃ (v : Option Value) (st₀ t T' : State) (L : List Loc), st₀.heap = H ∧ Stand p l e R s m args below meth c T' (locs ++ L) (cells + mc) (slots + ms) ∧ (∀ q ∈ L, free q.base) ∧ T'.heap = t.heap ∧ T'.vm = t.vm ∧ Qa st₀ (.returned v) t ∧
      Goes p e below T g T' { g with pc := g.pc + 3, stack := v.toList ++ rest }) ∨
    (∃ (q : Addr) (st₀ t T' : State) (L : List Loc) (E : String) (ce : Cell), st₀.heap = H ∧ Stand p l e R s m args below meth c T' (locs ++ L) (cells + mc) (slots + ms) ∧ (∀ z ∈ L, free z.base) ∧ T'.heap = t.heap ∧ T'.vm = t.vm ∧ XC E st₀ t ∧ t.heap[q]? = some ce ∧ ce.vm = .none ∧ s.vm.findClass E = some ce.cls ∧
      Steps p.tables e below (T.setTop g) ((T'.setTop { g with stack := rest }).pushFrame (.throwing q)))
def vx_X {S : Type} (px : S → Prop) (B : String → S → State → Prop) (A : Nat → Prop) : String → State → State → Prop := fun E st t => ∃ u : S, px u ∧ B E u t ∧ va_F A st t
section Runs
variable {p : Program} {l : Launch} {e : Env} {R : Room} {s : State} {m : MethodId} {args : Array Value} {below : List Frame} {meth : Method} {c : Code} {H : Heap} {locs : List Loc} {cells slots : Nat}
variable {y : MethodName} {bytes cc : ByteArray} {maxL nL mc ms n index : Nat} {ret : Option FieldType} {ws : List Cond} {rm : Room} {Pc : Array Value → State → Prop} {Qc : Array Value → State → Outcome → State → Prop} {XC : String → State → State → Prop} {free : Addr → Prop} {Ts : List Cond} {own C : String} {b : Addr} {As rest : List Value} {g : JFrame}
theorem vx_callBack (cb : CallB R s args own index y bytes maxL ret ws rm mc ms n) (hM : vx_Met l y ws rm Pc Qc XC mc ms free) (hbl : FrameBlind Pc) : vx_Back l R p e below s args y 3 8 (PreOf R mc ms Pc) (PostOf Qc mc ms free) (vx_Post XC mc ms free) := by
  obtain ⟨hrc, hrs, hfr, hlo, hws, hcw, -, hini, -⟩ := cb
  exact vx_back (bytes := bytes) (maxL := maxL) (ret := ret) hM hbl hrc hrs hfr hlo hws hcw (fun a' U hW => word_at hW (Or.inl (by first | rfl | simp [Cond.onTables, Cond.keeps, Cond.steady])) hini)
theorem vx_runV (S : CallFix p m c cc nL s args Ts own) (hM : vx_Met l y ws rm Pc Qc XC mc ms free) (cw : CallW R s args own C index y bytes maxL ret ws rm mc ms n) (hp : PreV s H C b Pc As)
    (hg : g.method = m) (hn : As.length = n) (hsize : g.locals.size = nL) (hstack : g.stack = As.reverse ++ .ref b :: rest) (hW : 2 * g.monitorRoom + (rest.map fun v => v.category).sum ≤ 8) (hdg : decode cc g.pc = .ok (.invokevirtual index, 3)) (hf : cells + mc ≤ R.cells ∧ slots + ms ≤ R.slots) :
    vx_Run p l e R s m args below meth c H locs cells slots mc ms g rest (Qc (Value.ref b :: As).toArray) XC free := by
  have hK : vx_Back l R p e below s args y 3 8 (PreOf R mc ms Pc) (PostOf Qc mc ms free) (vx_Post XC mc ms free) := vx_callBack cw.1 hM hp.1
  obtain ⟨⟨-, -, -, -, -, -, hcode, -, hy, hlen, hl⟩, hin, hse⟩ := cw
  obtain ⟨hx, hb, hml, ho, -⟩ := S
  obtain ⟨-, ⟨cellB, hcB, hoB, hclB⟩, hPc⟩ := hp
  intro T hT X
  rcases vx_callV X hx (C := C) (bytes := bytes) (maxL := maxL) (ret := ret) ho hl hin hse hcode hy hK (by rw [hT]; exact hcB) hoB hclB hg (hsize.trans hml.symm) (argsL := As) (rest := rest) (fun sig h => hn.trans (hlen sig h)) hstack hW (by rw [hb]; exact hdg)
    (fun vm₁ hW₁ => ⟨hf.1, hf.2, hPc (T.setVm vm₁) hT hW₁⟩) with ⟨v, vm₁, ⟨U', l2, c2, s2⟩, hW₁, X', ⟨g', mk, t, L, e1, e2, hq, h1, hL, h2, h3⟩, st⟩ | ⟨q, vm₁, ⟨U', l2, c2, s2⟩, hW₁, X', ⟨g', mk, t, L, E, ce, e1, e2, hq, hce, hcv, hcl, h1, hL, h2, h3⟩, st⟩
  · dsimp only [Pt.U, Pt.locs, Pt.cells, Pt.slots] at X' e1 e2 h1 h2 h3 st
    subst h1; subst h2; subst h3
    exact Or.inl ⟨v, (T.setVm vm₁).calling g' mk (Value.ref b :: As).toArray, t, U', L, hT, X', hL, e1, e2, hq, st⟩
  · dsimp only [Pt.U, Pt.locs, Pt.cells, Pt.slots] at X' e1 e2 h1 h2 h3 st hcl
    subst h1; subst h2; subst h3
    exact Or.inr ⟨q, (T.setVm vm₁).calling g' mk (Value.ref b :: As).toArray, t, U', L, E, ce, hT, X', hL, e1, e2, hq, hce, hcv, vx_cls hW₁ hcl, st⟩
theorem vx_runS (S : CallFix p m c cc nL s args Ts own) (hM : vx_Met l y ws rm Pc Qc XC mc ms free) (cw : CallB R s args own index y bytes maxL ret ws rm mc ms n ∧ (Cond.static y).before args s = true) (hp : PreS s H Pc As)
    (hg : g.method = m) (hn : As.length = n) (hsize : g.locals.size = nL) (hstack : g.stack = As.reverse ++ rest) (hW : 2 * g.monitorRoom + (rest.map fun v => v.category).sum ≤ 8) (hdg : decode cc g.pc = .ok (.invokestatic index, 3)) (hf : cells + mc ≤ R.cells ∧ slots + ms ≤ R.slots) :
    vx_Run p l e R s m args below meth c H locs cells slots mc ms g rest (Qc As.toArray) XC free := by
  have hK : vx_Back l R p e below s args y 3 8 (PreOf R mc ms Pc) (PostOf Qc mc ms free) (vx_Post XC mc ms free) := vx_callBack cw.1 hM hp.1
  obtain ⟨⟨-, -, -, -, -, -, hcode, hini, hy, hlen, hl⟩, hstt⟩ := cw
  obtain ⟨hx, hb, hml, ho, -⟩ := S
  intro T hT X
  rcases vx_callS X hx (bytes := bytes) (maxL := maxL) (ret := ret) ho hl hstt hini hcode hy hK hg (hsize.trans hml.symm) (argsL := As) (rest := rest) (fun sig h => hn.trans (hlen sig h)) hstack hW (by rw [hb]; exact hdg)
    (fun vm₁ hW₁ => ⟨hf.1, hf.2, hp.2 (T.setVm vm₁) hT hW₁⟩) with ⟨v, vm₁, ⟨U', l2, c2, s2⟩, hW₁, X', ⟨g', mk, t, L, e1, e2, hq, h1, hL, h2, h3⟩, st⟩ | ⟨q, vm₁, ⟨U', l2, c2, s2⟩, hW₁, X', ⟨g', mk, t, L, E, ce, e1, e2, hq, hce, hcv, hcl, h1, hL, h2, h3⟩, st⟩
  · dsimp only [Pt.U, Pt.locs, Pt.cells, Pt.slots] at X' e1 e2 h1 h2 h3 st
    subst h1; subst h2; subst h3
    exact Or.inl ⟨v, (T.setVm vm₁).calling g' mk As.toArray, t, U', L, hT, X', hL, e1, e2, hq, st⟩
  · dsimp only [Pt.U, Pt.locs, Pt.cells, Pt.slots] at X' e1 e2 h1 h2 h3 st hcl
    subst h1; subst h2; subst h3
    exact Or.inr ⟨q, (T.setVm vm₁).calling g' mk As.toArray, t, U', L, E, ce, hT, X', hL, e1, e2, hq, hce, hcv, vx_cls hW₁ hcl, st⟩
end Runs
section Rows
variable {p : Program} {l : Launch} {e : Env} {R : Room} {s : State} {m : MethodId} {args : Array Value} {below : List Frame} {meth : Method} {c : Code} {H : Heap} {locs : List Loc} {cells slots : Nat} {Q : State → Prop}
variable {mc ms : Nat} {free : Addr → Prop} {A0 A1 : Nat → Prop} {H0 : Heap} {a : Array Value} {pc : Nat} {ls : Array Slot} {st0 rest : List Value}
theorem vx_keep {st₀ t T' : State} {L : List Loc} (h0 : st₀.heap = H) (e1 : T'.heap = t.heap) (hS : va_S A0 H0 H locs) (hA : ∀ q, q < H.size → A1 q → A0 q) (hf : ∀ q, free q → A0 q) (hL : ∀ q ∈ L, free q.base) (hF : va_F A1 st₀ t) :
    H.size ≤ T'.heap.size ∧ (∀ q : Nat, q < H.size → ¬ A1 q → T'.heap[q]? = H[q]?) ∧ va_S A0 H0 T'.heap (locs ++ L) := by
  obtain ⟨hz, hk⟩ := hF
  rw [h0] at hz hk
  exact ⟨by rw [e1]; exact hz, fun q h1 h2 => by rw [e1]; exact hk q h1 h2,
    ⟨Nat.le_trans hS.1 (by rw [e1]; exact hz), fun q h1 h2 => by rw [e1, hk q (Nat.lt_of_lt_of_le h1 hS.1) (fun z => h2 (hA q (Nat.lt_of_lt_of_le h1 hS.1) z))]; exact hS.2.1 q h1 h2, fun q hq => by
      rcases List.mem_append.mp hq with h | h
      · exact hS.2.2 q h
      · exact hf _ (hL q h)⟩⟩
theorem vx_calli {S SX : Type} {post : Int32 → S → Prop} {px : SX → Prop} {B : S → State → Prop} {BX : String → SX → State → Prop} {AX : Nat → Prop} (hr : vx_Run p l e R s m args below meth c H locs cells slots mc ms (F0 m pc ls st0) rest (va_Qi post B A1 a) (vx_X px BX AX) free) (hS : va_S A0 H0 H locs) (hA : ∀ q, q < H.size → A1 q → A0 q) (hf : ∀ q, free q → A0 q) (hAX : ∀ q, q < H.size → AX q → A0 q)
    (kx : ∀ (E : String) (ce : Cell) (q9 : Addr) (u : SX) (t : State) (H1 : Heap) (locs1 : List Loc), t.heap = H1 → s.vm.Alike t.vm → px u → BX E u t → H.size ≤ H1.size → (∀ q : Nat, q < H.size → ¬ AX q → H1[q]? = H[q]?) → va_S A0 H0 H1 locs1 → H1[q9]? = some ce → ce.vm = .none → s.vm.findClass E = some ce.cls → vx_W p l e R s m args below meth c H1 locs1 (cells + mc) (slots + ms) Q (F0 m pc ls rest) q9)
    (kk : ∀ (r : Int32) (u : S) (t : State) (H1 : Heap) (locs1 : List Loc), t.heap = H1 → s.vm.Alike t.vm → post r u → B u t → H.size ≤ H1.size → (∀ q : Nat, q < H.size → ¬ A1 q → H1[q]? = H[q]?) → va_S A0 H0 H1 locs1 → W p l e R s m args below meth c H1 locs1 (cells + mc) (slots + ms) Q (F0 m (pc + 3) ls (.int r :: rest))) : W p l e R s m args below meth c H locs cells slots Q (F0 m pc ls st0) := by
  intro T hT X
  rcases hr T hT X with ⟨v, st₀, t, T', L, h0, X', hL, e1, e2, ⟨⟨r, u, hv, hp, hb⟩, hF⟩, st⟩ | ⟨q, st₀, t, T', L, E, ce, h0, X', hL, e1, e2, ⟨u, hp, hb, hF⟩, hce, hcv, hcl, st⟩
  · cases hv
    obtain ⟨k1, k2, k3⟩ := vx_keep h0 e1 hS hA hf hL hF
    obtain ⟨t2, a1, b1⟩ := kk r u t T'.heap (locs ++ L) e1.symm (by rw [← e2]; exact X'.warmed.alike) hp hb k1 k2 k3 T' rfl X'
    exact ⟨t2, st t2 a1, b1⟩
  · obtain ⟨k1, k2, k3⟩ := vx_keep h0 e1 hS hAX hf hL hF
    obtain ⟨t2, a1, b1⟩ := kx E ce q u t T'.heap (locs ++ L) e1.symm (by rw [← e2]; exact X'.warmed.alike) hp hb k1 k2 k3 (by rw [e1]; exact hce) hcv hcl T' rfl X'
    exact ⟨t2, st.trans a1, b1⟩
theorem vx_calll {S SX : Type} {post : Int64 → S → Prop} {px : SX → Prop} {B : S → State → Prop} {BX : String → SX → State → Prop} {AX : Nat → Prop} (hr : vx_Run p l e R s m args below meth c H locs cells slots mc ms (F0 m pc ls st0) rest (va_Ql post B A1 a) (vx_X px BX AX) free) (hS : va_S A0 H0 H locs) (hA : ∀ q, q < H.size → A1 q → A0 q) (hf : ∀ q, free q → A0 q) (hAX : ∀ q, q < H.size → AX q → A0 q)
    (kx : ∀ (E : String) (ce : Cell) (q9 : Addr) (u : SX) (t : State) (H1 : Heap) (locs1 : List Loc), t.heap = H1 → s.vm.Alike t.vm → px u → BX E u t → H.size ≤ H1.size → (∀ q : Nat, q < H.size → ¬ AX q → H1[q]? = H[q]?) → va_S A0 H0 H1 locs1 → H1[q9]? = some ce → ce.vm = .none → s.vm.findClass E = some ce.cls → vx_W p l e R s m args below meth c H1 locs1 (cells + mc) (slots + ms) Q (F0 m pc ls rest) q9)
    (kk : ∀ (r : Int64) (u : S) (t : State) (H1 : Heap) (locs1 : List Loc), t.heap = H1 → s.vm.Alike t.vm → post r u → B u t → H.size ≤ H1.size → (∀ q : Nat, q < H.size → ¬ A1 q → H1[q]? = H[q]?) → va_S A0 H0 H1 locs1 → W p l e R s m args below meth c H1 locs1 (cells + mc) (slots + ms) Q (F0 m (pc + 3) ls (.long r :: rest))) : W p l e R s m args below meth c H locs cells slots Q (F0 m pc ls st0) := by
  intro T hT X
  rcases hr T hT X with ⟨v, st₀, t, T', L, h0, X', hL, e1, e2, ⟨⟨r, u, hv, hp, hb⟩, hF⟩, st⟩ | ⟨q, st₀, t, T', L, E, ce, h0, X', hL, e1, e2, ⟨u, hp, hb, hF⟩, hce, hcv, hcl, st⟩
  · cases hv
    obtain ⟨k1, k2, k3⟩ := vx_keep h0 e1 hS hA hf hL hF
    obtain ⟨t2, a1, b1⟩ := kk r u t T'.heap (locs ++ L) e1.symm (by rw [← e2]; exact X'.warmed.alike) hp hb k1 k2 k3 T' rfl X'
    exact ⟨t2, st t2 a1, b1⟩
  · obtain ⟨k1, k2, k3⟩ := vx_keep h0 e1 hS hAX hf hL hF
    obtain ⟨t2, a1, b1⟩ := kx E ce q u t T'.heap (locs ++ L) e1.symm (by rw [← e2]; exact X'.warmed.alike) hp hb k1 k2 k3 (by rw [e1]; exact hce) hcv hcl T' rfl X'
    exact ⟨t2, st.trans a1, b1⟩
theorem vx_callf {S SX : Type} {post : UInt32 → S → Prop} {px : SX → Prop} {B : S → State → Prop} {BX : String → SX → State → Prop} {AX : Nat → Prop} (hr : vx_Run p l e R s m args below meth c H locs cells slots mc ms (F0 m pc ls st0) rest (va_Qf post B A1 a) (vx_X px BX AX) free) (hS : va_S A0 H0 H locs) (hA : ∀ q, q < H.size → A1 q → A0 q) (hf : ∀ q, free q → A0 q) (hAX : ∀ q, q < H.size → AX q → A0 q)
    (kx : ∀ (E : String) (ce : Cell) (q9 : Addr) (u : SX) (t : State) (H1 : Heap) (locs1 : List Loc), t.heap = H1 → s.vm.Alike t.vm → px u → BX E u t → H.size ≤ H1.size → (∀ q : Nat, q < H.size → ¬ AX q → H1[q]? = H[q]?) → va_S A0 H0 H1 locs1 → H1[q9]? = some ce → ce.vm = .none → s.vm.findClass E = some ce.cls → vx_W p l e R s m args below meth c H1 locs1 (cells + mc) (slots + ms) Q (F0 m pc ls rest) q9)
    (kk : ∀ (r : UInt32) (u : S) (t : State) (H1 : Heap) (locs1 : List Loc), t.heap = H1 → s.vm.Alike t.vm → post r u → B u t → H.size ≤ H1.size → (∀ q : Nat, q < H.size → ¬ A1 q → H1[q]? = H[q]?) → va_S A0 H0 H1 locs1 → W p l e R s m args below meth c H1 locs1 (cells + mc) (slots + ms) Q (F0 m (pc + 3) ls (.float r :: rest))) : W p l e R s m args below meth c H locs cells slots Q (F0 m pc ls st0) := by
  intro T hT X
  rcases hr T hT X with ⟨v, st₀, t, T', L, h0, X', hL, e1, e2, ⟨⟨r, u, hv, hp, hb⟩, hF⟩, st⟩ | ⟨q, st₀, t, T', L, E, ce, h0, X', hL, e1, e2, ⟨u, hp, hb, hF⟩, hce, hcv, hcl, st⟩
  · cases hv
    obtain ⟨k1, k2, k3⟩ := vx_keep h0 e1 hS hA hf hL hF
    obtain ⟨t2, a1, b1⟩ := kk r u t T'.heap (locs ++ L) e1.symm (by rw [← e2]; exact X'.warmed.alike) hp hb k1 k2 k3 T' rfl X'
    exact ⟨t2, st t2 a1, b1⟩
  · obtain ⟨k1, k2, k3⟩ := vx_keep h0 e1 hS hAX hf hL hF
    obtain ⟨t2, a1, b1⟩ := kx E ce q u t T'.heap (locs ++ L) e1.symm (by rw [← e2]; exact X'.warmed.alike) hp hb k1 k2 k3 (by rw [e1]; exact hce) hcv hcl T' rfl X'
    exact ⟨t2, st.trans a1, b1⟩
theorem vx_calld {S SX : Type} {post : UInt64 → S → Prop} {px : SX → Prop} {B : S → State → Prop} {BX : String → SX → State → Prop} {AX : Nat → Prop} (hr : vx_Run p l e R s m args below meth c H locs cells slots mc ms (F0 m pc ls st0) rest (va_Qd post B A1 a) (vx_X px BX AX) free) (hS : va_S A0 H0 H locs) (hA : ∀ q, q < H.size → A1 q → A0 q) (hf : ∀ q, free q → A0 q) (hAX : ∀ q, q < H.size → AX q → A0 q)
    (kx : ∀ (E : String) (ce : Cell) (q9 : Addr) (u : SX) (t : State) (H1 : Heap) (locs1 : List Loc), t.heap = H1 → s.vm.Alike t.vm → px u → BX E u t → H.size ≤ H1.size → (∀ q : Nat, q < H.size → ¬ AX q → H1[q]? = H[q]?) → va_S A0 H0 H1 locs1 → H1[q9]? = some ce → ce.vm = .none → s.vm.findClass E = some ce.cls → vx_W p l e R s m args below meth c H1 locs1 (cells + mc) (slots + ms) Q (F0 m pc ls rest) q9)
    (kk : ∀ (r : UInt64) (u : S) (t : State) (H1 : Heap) (locs1 : List Loc), t.heap = H1 → s.vm.Alike t.vm → post r u → B u t → H.size ≤ H1.size → (∀ q : Nat, q < H.size → ¬ A1 q → H1[q]? = H[q]?) → va_S A0 H0 H1 locs1 → W p l e R s m args below meth c H1 locs1 (cells + mc) (slots + ms) Q (F0 m (pc + 3) ls (.double r :: rest))) : W p l e R s m args below meth c H locs cells slots Q (F0 m pc ls st0) := by
  intro T hT X
  rcases hr T hT X with ⟨v, st₀, t, T', L, h0, X', hL, e1, e2, ⟨⟨r, u, hv, hp, hb⟩, hF⟩, st⟩ | ⟨q, st₀, t, T', L, E, ce, h0, X', hL, e1, e2, ⟨u, hp, hb, hF⟩, hce, hcv, hcl, st⟩
  · cases hv
    obtain ⟨k1, k2, k3⟩ := vx_keep h0 e1 hS hA hf hL hF
    obtain ⟨t2, a1, b1⟩ := kk r u t T'.heap (locs ++ L) e1.symm (by rw [← e2]; exact X'.warmed.alike) hp hb k1 k2 k3 T' rfl X'
    exact ⟨t2, st t2 a1, b1⟩
  · obtain ⟨k1, k2, k3⟩ := vx_keep h0 e1 hS hAX hf hL hF
    obtain ⟨t2, a1, b1⟩ := kx E ce q u t T'.heap (locs ++ L) e1.symm (by rw [← e2]; exact X'.warmed.alike) hp hb k1 k2 k3 (by rw [e1]; exact hce) hcv hcl T' rfl X'
    exact ⟨t2, st.trans a1, b1⟩
theorem vx_callv {S SX : Type} {post : S → Prop} {px : SX → Prop} {B : S → State → Prop} {BX : String → SX → State → Prop} {AX : Nat → Prop} (hr : vx_Run p l e R s m args below meth c H locs cells slots mc ms (F0 m pc ls st0) rest (va_Qv post B A1 a) (vx_X px BX AX) free) (hS : va_S A0 H0 H locs) (hA : ∀ q, q < H.size → A1 q → A0 q) (hf : ∀ q, free q → A0 q) (hAX : ∀ q, q < H.size → AX q → A0 q)
    (kx : ∀ (E : String) (ce : Cell) (q9 : Addr) (u : SX) (t : State) (H1 : Heap) (locs1 : List Loc), t.heap = H1 → s.vm.Alike t.vm → px u → BX E u t → H.size ≤ H1.size → (∀ q : Nat, q < H.size → ¬ AX q → H1[q]? = H[q]?) → va_S A0 H0 H1 locs1 → H1[q9]? = some ce → ce.vm = .none → s.vm.findClass E = some ce.cls → vx_W p l e R s m args below meth c H1 locs1 (cells + mc) (slots + ms) Q (F0 m pc ls rest) q9)
    (kk : ∀ (u : S) (t : State) (H1 : Heap) (locs1 : List Loc), t.heap = H1 → s.vm.Alike t.vm → post u → B u t → H.size ≤ H1.size → (∀ q : Nat, q < H.size → ¬ A1 q → H1[q]? = H[q]?) → va_S A0 H0 H1 locs1 → W p l e R s m args below meth c H1 locs1 (cells + mc) (slots + ms) Q (F0 m (pc + 3) ls (rest))) : W p l e R s m args below meth c H locs cells slots Q (F0 m pc ls st0) := by
  intro T hT X
  rcases hr T hT X with ⟨v, st₀, t, T', L, h0, X', hL, e1, e2, ⟨⟨u, hv, hp, hb⟩, hF⟩, st⟩ | ⟨q, st₀, t, T', L, E, ce, h0, X', hL, e1, e2, ⟨u, hp, hb, hF⟩, hce, hcv, hcl, st⟩
  · cases hv
    obtain ⟨k1, k2, k3⟩ := vx_keep h0 e1 hS hA hf hL hF
    obtain ⟨t2, a1, b1⟩ := kk u t T'.heap (locs ++ L) e1.symm (by rw [← e2]; exact X'.warmed.alike) hp hb k1 k2 k3 T' rfl X'
    exact ⟨t2, st t2 a1, b1⟩
  · obtain ⟨k1, k2, k3⟩ := vx_keep h0 e1 hS hAX hf hL hF
    obtain ⟨t2, a1, b1⟩ := kx E ce q u t T'.heap (locs ++ L) e1.symm (by rw [← e2]; exact X'.warmed.alike) hp hb k1 k2 k3 (by rw [e1]; exact hce) hcv hcl T' rfl X'
    exact ⟨t2, st.trans a1, b1⟩
/-- caught by the row x of this method's table; the rows ahead don't take it -/
theorem vx_catch {own name : String} {E : String} {ce : Cell} {q : Addr} (hown : s.vm.findClass own = some m.cls) (pre : List ExceptionTableEntry) (x : ExceptionTableEntry) (suf : List ExceptionTableEntry) (hsplit : c.exceptionTable.toList = pre ++ x :: suf)
    (hpass : ∀ z ∈ pre, covers z pc = false ∨ (z.catchType ≠ 0 ∧ ∃ nm : String, (Cond.classLink own z.catchType nm).before args s = true ∧ va_Nc E nm s)) (hx : covers x pc = true) (h0 : x.catchType ≠ 0)
    (hlink : (Cond.classLink own x.catchType name).before args s = true) (hcast : (Cond.castable E name).before args s = true) (hcell : H[q]? = some ce) (hv : ce.vm = .none) (hcl : s.vm.findClass E = some ce.cls)
    (kk : W p l e R s m args below meth c H locs cells slots Q (F0 m x.handlerPc ls [.ref q])) : vx_W p l e R s m args below meth c H locs cells slots Q (F0 m pc ls rest) q := by
  intro T hT X
  have hpl : e.platform.magicAccessors = ({} : Platform).magicAccessors := by rw [X.admits.platform]
  obtain ⟨c3, c4, hc3, hc4, hasg⟩ := Cond.castable_spec hcast
  cases Option.some.inj (hc3.symm.trans hcl)
  obtain ⟨c5, hc5, hcl5⟩ := Cond.classLink_spec hown hlink e.platform hpl
  cases Option.some.inj (hc4.symm.trans hc5)
  obtain ⟨vm', X', st⟩ := X.thenCaughtThrough q (g := F0 m pc ls rest) rfl (Steps.refl _) (by rw [hT]; exact hcell) (by rw [hv]; rfl) (by obtain ⟨k9, h9, -⟩ := Vm.findClass_spec hcl; exact ⟨k9, h9⟩) pre x suf hsplit
    (fun z hz => by
      rcases hpass z hz with h | ⟨hz0, nm, hl1, hn1⟩
      · exact Or.inl h
      · obtain ⟨c6, hc6, hcl6⟩ := Cond.classLink_spec hown hl1 e.platform hpl
        obtain ⟨a8, b8, h1, h2, h3⟩ := hn1
        cases Option.some.inj (h1.symm.trans hcl)
        cases Option.some.inj (h2.symm.trans hc6)
        exact Or.inr ⟨hz0, _, hcl6, h3⟩) hx (Or.inr ⟨h0, c4, hcl5, hasg⟩)
  obtain ⟨t, a1, b1⟩ := kk (T.setVm vm') hT X'
  exact ⟨t, st.trans a1, b1⟩
end Rows
section Ends
variable {p : Program} {l : Launch} {e : Env} {R : Room} {s : State} {m : MethodId} {args : Array Value} {below : List Frame} {meth : Method} {c : Code} {H : Heap} {locs : List Loc} {cells slots : Nat} {Q : State → Prop}
variable {mc ms : Nat} {free : Addr → Prop} {A0 A1 : Nat → Prop} {H0 : Heap} {a : Array Value} {ls : Array Slot} {st0 rest : List Value}
variable {Qc : Array Value → State → Outcome → State → Prop} {XC : String → State → State → Prop}
/-- what a body that may throw owes at its end -/
def vx_MQ (below : List Frame) (Qc : Array Value → State → Outcome → State → Prop) (XC : String → State → State → Prop) (a : Array Value) (s : State) (mc ms : Nat) (free : Addr → Prop) : State → Prop := fun t =>
  ∃ o, t.status = .running ∧ Ended t below o ∧ vx_Q Qc XC mc ms free a s o t
theorem vx_ret {g : JFrame} {mc ms : Nat} (k : W p l e R s m args below meth c H locs cells slots (MQ below Qc args s mc ms free) g) : W p l e R s m args below meth c H locs cells slots (vx_MQ below Qc XC args s mc ms free) g := by
  intro T hT X
  obtain ⟨t, a1, o, b1, b2, b3, b4⟩ := k T hT X
  exact ⟨t, a1, o, b1, b2, Or.inl ⟨b3, b4⟩⟩
/-- not caught here: it goes on to the caller -/
theorem vx_widen {g : JFrame} {q : Addr} {k n : Nat} (h1 : cells ≤ k) (h2 : slots ≤ n) (kk : vx_W p l e R s m args below meth c H locs k n Q g q) : vx_W p l e R s m args below meth c H locs cells slots Q g q := fun T hT X => kk T hT (stand_widen X h1 h2)
theorem vx_out {pc : Nat} {E : String} {ce : Cell} {q : Addr} {mc ms : Nat} (hout : ∀ x ∈ c.exceptionTable.toList, covers x pc = false) (hlocks : meth.locks = false) (hcell : H[q]? = some ce) (hv : ce.vm = .none) (hcl : s.vm.findClass E = some ce.cls)
    (hx : ∀ t : State, t.heap = H → s.vm.Alike t.vm → XC E s t) (hf : ∀ z ∈ locs, free z.base) (hc : cells ≤ mc) (hs : slots ≤ ms) :
    vx_W p l e R s m args below meth c H locs cells slots (vx_MQ below Qc XC args s mc ms free) (F0 m pc ls rest) q := by
  intro T hT X
  obtain ⟨st1, hrun, hend, hW, hsm⟩ := X.leaveThrown q (g := F0 m pc ls rest) rfl rfl rfl hout hlocks
  have hcell9 : (T.setFrames (.throwing q :: below)).heap[q]? = some ce := by
    show T.heap[q]? = some ce
    rw [hT]; exact hcell
  exact ⟨_, st1, .threw q, hrun, hend, Or.inr ⟨q, rfl, E, ce, locs, hx _ hT hW.alike, hcell9, hv, hcl, hW, hsm.mono hc hs, hf⟩⟩
theorem vx_frame {U : State} {k n : Nat} (h : s.sameButNew ({ U with vm := s.vm } : State) locs k n) : s.heap.size ≤ U.heap.size ∧ ∀ q : Nat, q < s.heap.size → (∀ z ∈ locs, z.base ≠ q) → U.heap[q]? = s.heap[q]? := by
  obtain ⟨-, h2, -, -, -, h6⟩ := h
  refine ⟨h2, fun q hq hz => ?_⟩
  obtain ⟨c9, e1, e2, e3, e4⟩ := h6 q _ (Array.getElem?_eq_getElem hq)
  have hs : c9.slots = (s.heap[q]).slots := Array.ext_getElem? fun i => e4 i fun hm => hz _ hm rfl
  have h9 : c9 = s.heap[q] := by
    rw [hs] at e2
    exact e2
  have e5 : U.heap[q]? = some c9 := e1
  rw [e5, h9, Array.getElem?_eq_getElem hq]
/-- the words of a throw but the four that speak of the heap -/
def vx_no (w : Cond) : Bool := decide (w ≠ .isRef (.static Bundle.tN "UNASSIGNED_STACK" Bundle.steD)) && decide (w ≠ .isRef (.static Bundle.tN "SUPPRESSED_SENTINEL" Bundle.listD)) && decide (w ≠ .laysStatic Bundle.tN "UNASSIGNED_STACK" Bundle.steD) && decide (w ≠ .laysStatic Bundle.tN "SUPPRESSED_SENTINEL" Bundle.listD)
def vx_at0 (own : String) (ic : Nat) (X : String) (names : List String) : List Cond := (Bundle.ownAtoms0 own ic X names).filter vx_no
def vx_atS (own : String) (ic : Nat) (X : String) (names : List String) : List Cond := (Bundle.ownAtoms own ic X names).filter vx_no
/-- a word that the tables alone decide, or a good one -/
def vx_ot (w : Cond) : Bool := w.onTables || goodWord w
theorem vx_ot_at {args a' : Array Value} {s U : State} {w : Cond} (hW : s.WarmedH U.vm) (hvm : s.vm = U.vm) (hg : vx_ot w = true) (h : w.before args s = true) : w.before a' U = true := by
  simp only [vx_ot, Bool.or_eq_true] at hg
  rcases hg with hg | hg
  · exact va_tabs hg hvm h
  · exact word_at hW (good_of_word hg) h
/-- a list's words: the good ones out of the method's own list, the others by premises of their own -/
theorem vx_hat {args : Array Value} {s : State} {L B : List Cond} (h1 : ∀ w ∈ L.filter goodWord, w.before args s = true) (h2 : ∀ w ∈ L.filter (fun w => !goodWord w), w ∈ B) (h3 : ∀ w ∈ B, w.before args s = true) : ∀ w ∈ L, w.before args s = true := by
  intro w hw
  by_cases g : goodWord w = true
  · exact h1 w (List.mem_filter.mpr ⟨hw, g⟩)
  · refine h3 w (h2 w (List.mem_filter.mpr ⟨hw, ?_⟩))
    show (!goodWord w) = true
    cases hgw : goodWord w
    · rfl
    · exact absurd hgw g
theorem vx_c {args : Array Value} {s : State} {w : Cond} {B : List Cond} (h : w.before args s = true) (t : ∀ w ∈ B, w.before args s = true) : ∀ w' ∈ w :: B, w'.before args s = true := fun w' h' => (List.mem_cons.mp h').elim (fun e => by rw [e]; exact h) (t w')
theorem vx_n {args : Array Value} {s : State} : ∀ w ∈ ([] : List Cond), w.before args s = true := fun _ h => nomatch h
theorem vx_own {args : Array Value} {s : State} {L : List Cond} (h1 : ∀ w ∈ L.filter vx_no, w.before args s = true)
    (hU : (Cond.isRef (.static Bundle.tN "UNASSIGNED_STACK" Bundle.steD)).before args s = true) (hN : (Cond.isRef (.static Bundle.tN "SUPPRESSED_SENTINEL" Bundle.listD)).before args s = true)
    (lU : (Cond.laysStatic Bundle.tN "UNASSIGNED_STACK" Bundle.steD).before args s = true) (lN : (Cond.laysStatic Bundle.tN "SUPPRESSED_SENTINEL" Bundle.listD).before args s = true) : ∀ w ∈ L, w.before args s = true := by
  intro w hw
  by_cases e1 : w = .isRef (.static Bundle.tN "UNASSIGNED_STACK" Bundle.steD)
  · rw [e1]; exact hU
  · by_cases e2 : w = .isRef (.static Bundle.tN "SUPPRESSED_SENTINEL" Bundle.listD)
    · rw [e2]; exact hN
    · by_cases e3 : w = .laysStatic Bundle.tN "UNASSIGNED_STACK" Bundle.steD
      · rw [e3]; exact lU
      · by_cases e4 : w = .laysStatic Bundle.tN "SUPPRESSED_SENTINEL" Bundle.listD
        · rw [e4]; exact lN
        · exact h1 w (List.mem_filter.mpr ⟨hw, by unfold vx_no; rw [decide_eq_true e1, decide_eq_true e2, decide_eq_true e3, decide_eq_true e4]; rfl⟩)
/-- where a static field lies, its class's statics cell in H -/
def vx_L (C n d : String) (A : Nat → Prop) (U : State) (H : Heap) : Prop := ∃ (c : ClassId) (k : Class) (i : Nat) (f : Field) (a : Nat) (cell : Cell), U.vm.findClass C = some c ∧ U.fieldFound? C n d = some (c, k, i, f) ∧ f.isStatic = true ∧ k.statics = some a ∧ H[a]? = some cell ∧ cell.vm.isStatics = true ∧ cell.cls = c ∧ f.slot < cell.slots.size ∧ k.staticTypes[f.slot]? = some f.type ∧ ¬ A a
theorem vx_L.moved {C n d : String} {A : Nat → Prop} {u U : State} {H : Heap} (hvm : u.vm.Alike U.vm) (h : vx_L C n d A u H) : vx_L C n d A U H := by
  obtain ⟨c, k, i, f, a, cell, h1, h2, h3, h4, h5, h6, h7, h8, h9, h10⟩ := h
  obtain ⟨k', hi', he⟩ := State.fieldFound?_setVm hvm h2
  exact ⟨c, k', i, f, a, cell, by rw [hvm.findClass]; exact h1, hi', h3, by rw [he]; exact h4, h5, h6, h7, h8, by rw [he]; exact h9, h10⟩
theorem vx_L.kept {C n d : String} {A : Nat → Prop} {U : State} {H H1 : Heap} (h : vx_L C n d A U H) (hq : ∀ a : Nat, a < H.size → ¬ A a → H1[a]? = H[a]?) : vx_L C n d A U H1 := by
  obtain ⟨c, k, i, f, a, cell, h1, h2, h3, h4, h5, h6, h7, h8, h9, h10⟩ := h
  exact ⟨c, k, i, f, a, cell, h1, h2, h3, h4, by rw [hq a (Array.getElem?_eq_some_iff.mp h5).1 h10]; exact h5, h6, h7, h8, h9, h10⟩
theorem vx_L.narrow {C n d : String} {A B : Nat → Prop} {U : State} {H : Heap} (h : vx_L C n d A U H) (hAB : ∀ q, B q → A q) : vx_L C n d B U H := by
  obtain ⟨c, k, i, f, a, cell, h1, h2, h3, h4, h5, h6, h7, h8, h9, h10⟩ := h
  exact ⟨c, k, i, f, a, cell, h1, h2, h3, h4, h5, h6, h7, h8, h9, fun z => h10 (hAB _ z)⟩
theorem vx_L.word {C n d : String} {A : Nat → Prop} {s : State} {args : Array Value} (h : vx_L C n d A s s.heap) : (Cond.laysStatic C n d).before args s = true := by
  obtain ⟨c, k, i, f, a, cell, h1, h2, h3, h4, h5, h6, h7, h8, h9, -⟩ := h
  show (Cond.laysStatic C n d).holds args s none s [] = true
  exact Cond.laysStatic_of h1 h2 h3 h4 h5 h6 h7 h8 h9
/-- .. and what it holds: null or some reference -/
def vx_Zq (C n d : String) (A : Nat → Prop) (U : State) (H : Heap) : Prop := va_Zq C n d A U H ∧ vx_L C n d A U H
theorem vx_Zq.moved {C n d : String} {A : Nat → Prop} {u U : State} {H : Heap} (hvm : u.vm.Alike U.vm) (h : vx_Zq C n d A u H) : vx_Zq C n d A U H := ⟨va_Zq.moved hvm h.1, vx_L.moved hvm h.2⟩
theorem vx_Zq.kept {C n d : String} {A : Nat → Prop} {U : State} {H H1 : Heap} (h : vx_Zq C n d A U H) (hq : ∀ a : Nat, a < H.size → ¬ A a → H1[a]? = H[a]?) : vx_Zq C n d A U H1 := ⟨va_Zq.kept h.1 hq, vx_L.kept h.2 hq⟩
theorem vx_Zq.narrow {C n d : String} {A B : Nat → Prop} {U : State} {H : Heap} (h : vx_Zq C n d A U H) (hAB : ∀ q, B q → A q) : vx_Zq C n d B U H := ⟨va_Zq.narrow h.1 hAB, vx_L.narrow h.2 hAB⟩
theorem vx_Zqof {args : Array Value} {s : State} {C n d : String} {A : Nat → Prop} (hl : (Cond.laysStatic C n d).before args s = true) (hini : (Cond.initialized C).before args s = true) (h : (Cond.isRef (.static C n d)).before args s = true) (hA : ∀ a : Nat, a < s.heap.size → ¬ A a) : vx_Zq C n d A s s.heap := by
  refine ⟨va_Zqof hl hini h hA, ?_⟩
  obtain ⟨c, k, i, f, a, cell, h1, h2, h3, h4, h5, h6, h7, h8, h9⟩ := Cond.laysStatic_spec hl
  exact ⟨c, k, i, f, a, cell, h1, h2, h3, h4, h5, h6, h7, h8, h9, hA a (Array.getElem?_eq_some_iff.mp h5).1⟩
theorem vx_isRef {C n d : String} {v : Value} {A : Nat → Prop} {s : State} {args : Array Value} (h : va_Z C n d v A s s.heap) (hv : v.isRef = true) : (Cond.isRef (.static C n d)).before args s = true := by
  obtain ⟨cf, kf, fi, f, a, cell, h1, h2, h3, h4, h5, h6, h7, -⟩ := h
  have he : (Term.static C n d).eval args s none [] s = some v := by
    simp [Term.eval, State.fieldNamed?, h1, h2, h4, h5, h6, h7]
  simp only [Cond.before, Cond.holds, Cond.value, he]
  cases v <;> simp_all [Value.isRef]
theorem vx_isRefq {C n d : String} {A : Nat → Prop} {s : State} {args : Array Value} (h : va_Zq C n d A s s.heap) : (Cond.isRef (.static C n d)).before args s = true := by
  rcases h with h | ⟨t, h⟩
  · exact vx_isRef h rfl
  · exact vx_isRef h rfl
/-- the same frame, seen from here: as if the method were called anew in this heap -/
theorem vx_rebase {T : State} (X : Stand p l e R s m args below meth c T locs cells slots) {R' : Room} (hf : R'.frames ≤ R.frames) (hl : R'.locals ≤ R.locals) (hc : cells + R'.cells ≤ R.cells) (hs : slots + R'.slots ≤ R.slots) :
    Stand p l e R' ((T.setVm s.vm).setFrames (.invoking m args :: below)) m args below meth c T [] 0 0 := by
  have htop : (T.setVm s.vm).topJava?.isSome := X.here.top
  have hF : ((T.setVm s.vm).setFrames (.invoking m args :: below)).frames = .invoking m args :: below := State.frames_setFrames _ (State.cur_lt_of_top htop)
  obtain ⟨g₀, hg0⟩ := Option.isSome_iff_exists.mp htop
  obtain ⟨r, hr⟩ := State.topJava?_eq_some.mp hg0
  have hl9 : e.platform.stackLimits (T.setVm s.vm).me = e.platform.stackLimits s.me := X.limits
  have hb9 : (T.setVm s.vm).me.stackBytes = s.me.stackBytes := X.bytes
  refine ⟨X.admits, X.cas, X.clock, hF, ?_, X.hears, X.method, X.code, X.here, X.tail, X.warmed, ?_, ?_, ?_⟩
  · have h := X.room
    have hU : ((T.setVm s.vm).setFrames (.invoking m args :: below)).localsInUse = s.localsInUse := by
      rw [State.localsInUse_invoking hF (meth := meth) (c := c) X.method X.code, State.localsInUse_invoking X.frames X.method X.code]
    simp only [State.hasRoom, Bool.and_eq_true, decide_eq_true_eq] at h ⊢
    obtain ⟨⟨⟨⟨h1, h2, h3, h4, h5, h6⟩, h7⟩, h8⟩, h9⟩ := h
    rw [X.frames, List.length_cons] at h2 h3
    have q1 := X.heapSize
    have q2 := X.used
    simp only [hF, hU, List.length_cons, State.stackLimits_setFrames, State.stackBytes_setFrames, hl9, hb9]
    refine ⟨⟨⟨⟨by omega, by omega, by omega, by omega, by omega, h6⟩, ?_⟩, ?_⟩, X.book⟩
    · show T.heap.size + R'.cells ≤ e.platform.maxCells
      omega
    · show T.slotsUsed + R'.slots ≤ e.platform.maxSlots
      omega
  · rw [State.stackLimits_setFrames]; rfl
  · rw [State.stackBytes_setFrames]; rfl
  · refine ⟨?_, Nat.le_refl _, Nat.le_refl _, ?_, ?_, fun a c9 h9 => ⟨c9, h9, rfl, rfl, fun _ _ => rfl⟩⟩
    · obtain ⟨t, ht, -⟩ := State.frames_cons hr
      show T.setVm s.vm = { ((T.setVm s.vm).setFrames (.invoking m args :: below)).setFrames (T.setVm s.vm).frames with heap := T.heap, slotsUsed := T.slotsUsed }
      rw [State.setFrames_setFrames, State.setFrames_self ht]
      rfl
    · show T.slotsUsed = T.slotsUsed + ((T.heap.toList.drop T.heap.size).map (·.slots.size)).sum
      rw [List.drop_eq_nil_of_le (Nat.le_of_eq Array.length_toList)]
      rfl
    · show ((T.heap.toList.drop T.heap.size).map (·.slots.size)).sum ≤ 0
      rw [List.drop_eq_nil_of_le (Nat.le_of_eq Array.length_toList)]
      exact Nat.le_refl _
/-- 'throw new E()': new; dup; invokespecial; athrow -/
theorem vx_throw0 {cc : ByteArray} {pc : Nat} (hexec : p.tables.exec = Jvm.exec) (hb : c.code = cc) (hl : l.stackTraces = false) {own cls : String} {names : List String} {ik ic mc ms : Nat} {A : Nat → Prop}
    (hown : s.vm.findClass own = some m.cls) (hcls : Bundle.fit cls = true) (hnames : ∀ n ∈ names, Bundle.fit n = true)
    (hk : (Cond.classLink own ik cls).before args s = true) (hini : (Cond.initialized cls).before args s = true) (hat : ∀ w ∈ vx_at0 own ic cls names, w.before args s = true)
    (hgood : ∀ w ∈ Cond.classLink own ik cls :: Cond.initialized cls :: vx_at0 own ic cls names, vx_ot w = true)
    (hU : vx_Zq Bundle.tN "UNASSIGNED_STACK" Bundle.steD A s s.heap) (hN : vx_Zq Bundle.tN "SUPPRESSED_SENTINEL" Bundle.listD A s s.heap) (hS : va_S A s.heap H locs) (hsize : ls.size = c.maxLocals)
    (d0 : decode cc pc = .ok (.new ik, 3)) (d3 : decode cc (pc + 3) = .ok (.dup, 1)) (d4 : decode cc (pc + 4) = .ok (.invokespecial ic, 3)) (d7 : decode cc (pc + 7) = .ok (.athrow, 1))
    (hout : ∀ x ∈ c.exceptionTable.toList, covers x (pc + 7) = false)
    (hRframes : names.length + 3 < R.frames) (hRlocals : (rest.map fun v => v.category).sum + (13 * (names.length + 1) + 42) ≤ R.locals) (hRcells : cells + 1 ≤ R.cells) (hRslots : slots + 6 ≤ R.slots) (hlocks : meth.locks = false)
    (hx : ∀ t : State, s.vm.Alike t.vm → H.size ≤ t.heap.size → (∀ q : Nat, q < H.size → t.heap[q]? = H[q]?) → XC cls s t)
    (hf : ∀ z ∈ locs, free z.base) (hc : cells + 1 ≤ mc) (hs : slots + 6 ≤ ms) :
    W p l e R s m args below meth c H locs cells slots (vx_MQ below Qc XC args s mc ms free) (F0 m pc ls rest) := by
  intro T hT X
  have htr : e.platform.stackTraces = false := (show e.platform.stackTraces = l.stackTraces by rw [X.admits.platform]).trans hl
  have Y := vx_rebase X (R' := { frames := R.frames, locals := R.locals, cells := 1, slots := 6 }) (Nat.le_refl _) (Nat.le_refl _) hRcells hRslots
  obtain ⟨s', hA⟩ : ∃ z, z = (T.setVm s.vm).setFrames (.invoking m args :: below) := ⟨_, rfl⟩
  rw [← hA] at Y
  have hvm : s'.vm = s.vm := by rw [hA]; rfl
  have hhp : s'.heap = H := by rw [hA]; exact hT
  have hW0 : s.WarmedH s'.vm := by rw [hvm]; exact State.WarmedH.refl s
  have hat' : ∀ w ∈ vx_at0 own ic cls names, w.before args s' = true := fun w hw => vx_ot_at hW0 hvm.symm (hgood w (List.mem_cons_of_mem _ (List.mem_cons_of_mem _ hw))) (hat w hw)
  have hk' : (Cond.classLink own ik cls).before args s' = true := vx_ot_at hW0 hvm.symm (hgood _ List.mem_cons_self) hk
  have hini' : (Cond.initialized cls).before args s' = true := vx_ot_at hW0 hvm.symm (hgood _ (List.mem_cons_of_mem _ List.mem_cons_self)) hini
  have hU' : vx_Zq Bundle.tN "UNASSIGNED_STACK" Bundle.steD A s' s'.heap := by rw [hhp]; exact vx_Zq.moved hW0.alike (hU.kept hS.2.1)
  have hN' : vx_Zq Bundle.tN "SUPPRESSED_SENTINEL" Bundle.listD A s' s'.heap := by rw [hhp]; exact vx_Zq.moved hW0.alike (hN.kept hS.2.1)
  have h : ∀ w ∈ Bundle.ownAtoms0 own ic cls names, w.before args s' = true := vx_own hat' (vx_isRefq hU'.1) (vx_isRefq hN'.1) hU'.2.word hN'.2.word
  have hown' : s'.vm.findClass own = some m.cls := by rw [hvm]; exact hown
  have hins : (Cond.instantiable cls 6).before args s' = true := h _ (by simp [Bundle.ownAtoms0])
  obtain ⟨vm₁, cX, kX, hfX, hkX, -, -, X₁, st1⟩ := Y.newCold hexec (own := own) (C := cls) (index := ik) (n := 6) hown' hk' hins hini'
    (g := F0 m pc ls rest) rfl (by rw [hb]; exact d0) (Nat.le_refl _) (Nat.le_refl _)
  generalize hT1 : (T.setVm vm₁).pushCell { cls := cX, slots := kX.instanceTypes.map defaultValue, vm := .none } = T1 at X₁ st1
  have hcat : (Value.ref T.heap.size).category = 1 := rfl
  have hcellA : T1.heap[T.heap.size]? = some (freshCell cX kX) := by rw [← hT1]; exact State.heap_pushCell_size _ _
  have d3' : decode c.code (pc + 3) = .ok (.dup, 1) := by rw [hb]; exact d3
  obtain ⟨U, hsteps, hrun, hend, hW, hsame, ce, hce, hO⟩ := X₁.ctorThrow0 hexec htr (own := own) (cls := cls) (names := names) (ic := ic) hown' hcls hnames h (fun x hx => nomatch hx) hfX hkX hcellA (by rw [hhp, hT]; exact Nat.le_refl _)
    (g := { method := m, pc := pc + 4, locals := ls, stack := .ref T.heap.size :: .ref T.heap.size :: rest, locked := none }) rfl hsize rfl rfl (rest := rest) rfl
    (by rw [hb]; exact d4) (by rw [hb]; exact d7) hout hRframes (by simp only [List.map_cons, List.sum_cons, hcat]; omega) hlocks
  obtain ⟨f1, f2⟩ := vx_frame hsame
  rw [hhp] at f1 f2
  have hWs : s.WarmedH U.vm := State.WarmedH.trans hW0 hW
  have hcl : s.vm.findClass cls = some ce.cls := by
    have h9 := hO.cls
    rw [hvm] at h9
    exact h9
  have hall : s.sameButNew ({ U with vm := s.vm } : State) locs mc ms := by
    subst hA
    obtain ⟨e1, e2⟩ := hsame
    rw [State.setFrames_setFrames] at e1
    have h2 : (T.setVm s.vm).sameButNew ({ U with vm := s.vm } : State) [] (0 + 1) (0 + 6) := ⟨e1, e2⟩
    have h3 := X.same.trans h2
    rw [List.append_nil] at h3
    exact h3.mono hc hs
  refine ⟨U, ?_, .threw T.heap.size, hrun, hend, Or.inr ⟨T.heap.size, rfl, cls, ce, locs, hx U hWs.alike f1 (fun q hq => f2 q hq (fun z hz => nomatch hz)), hce, hO.vm, hcl, hWs, hall, hf⟩⟩
  refine st1 _ ?_
  show Steps p.tables e below (T1.setTop { method := m, pc := pc + 3, locals := ls, stack := .ref T.heap.size :: rest, locked := none }) _
  jvm_step X₁.here [X₁.here.top, hexec, d3', Value.category]
  exact hsteps
/-- 'throw new E("text")': new; dup; ldc; invokespecial; athrow -/
theorem vx_throwS {cc : ByteArray} {pc : Nat} (hexec : p.tables.exec = Jvm.exec) (hb : c.code = cc) (hl : l.stackTraces = false) {own cls text : String} {names : List String} {ik is ic mc ms sa : Nat} {A : Nat → Prop}
    (hown : s.vm.findClass own = some m.cls) (hcls : Bundle.fit cls = true) (hnames : ∀ n ∈ names, Bundle.fit n = true)
    (hk : (Cond.classLink own ik cls).before args s = true) (hini : (Cond.initialized cls).before args s = true) (hstr : vk_R own is text sa s) (hat : ∀ w ∈ vx_atS own ic cls names, w.before args s = true)
    (hgood : ∀ w ∈ Cond.classLink own ik cls :: Cond.initialized cls :: vx_atS own ic cls names, vx_ot w = true)
    (hU : vx_Zq Bundle.tN "UNASSIGNED_STACK" Bundle.steD A s s.heap) (hN : vx_Zq Bundle.tN "SUPPRESSED_SENTINEL" Bundle.listD A s s.heap) (hS : va_S A s.heap H locs) (hsize : ls.size = c.maxLocals)
    (d0 : decode cc pc = .ok (.new ik, 3)) (d3 : decode cc (pc + 3) = .ok (.dup, 1)) (d4 : decode cc (pc + 4) = .ok (.ldc is, 2)) (d6 : decode cc (pc + 6) = .ok (.invokespecial ic, 3)) (d9 : decode cc (pc + 9) = .ok (.athrow, 1))
    (hout : ∀ x ∈ c.exceptionTable.toList, covers x (pc + 9) = false)
    (hRframes : names.length + 3 < R.frames) (hRlocals : (rest.map fun v => v.category).sum + (13 * (names.length + 1) + 43) ≤ R.locals) (hRcells : cells + 1 ≤ R.cells) (hRslots : slots + 6 ≤ R.slots) (hlocks : meth.locks = false)
    (hx : ∀ t : State, s.vm.Alike t.vm → H.size ≤ t.heap.size → (∀ q : Nat, q < H.size → t.heap[q]? = H[q]?) → XC cls s t)
    (hf : ∀ z ∈ locs, free z.base) (hc : cells + 1 ≤ mc) (hs : slots + 6 ≤ ms) :
    W p l e R s m args below meth c H locs cells slots (vx_MQ below Qc XC args s mc ms free) (F0 m pc ls rest) := by
  intro T hT X
  have htr : e.platform.stackTraces = false := (show e.platform.stackTraces = l.stackTraces by rw [X.admits.platform]).trans hl
  have Y := vx_rebase X (R' := { frames := R.frames, locals := R.locals, cells := 1, slots := 6 }) (Nat.le_refl _) (Nat.le_refl _) hRcells hRslots
  obtain ⟨s', hA⟩ : ∃ z, z = (T.setVm s.vm).setFrames (.invoking m args :: below) := ⟨_, rfl⟩
  rw [← hA] at Y
  have hvm : s'.vm = s.vm := by rw [hA]; rfl
  have hhp : s'.heap = H := by rw [hA]; exact hT
  have hW0 : s.WarmedH s'.vm := by rw [hvm]; exact State.WarmedH.refl s
  have hat' : ∀ w ∈ vx_atS own ic cls names, w.before args s' = true := fun w hw => vx_ot_at hW0 hvm.symm (hgood w (List.mem_cons_of_mem _ (List.mem_cons_of_mem _ hw))) (hat w hw)
  have hk' : (Cond.classLink own ik cls).before args s' = true := vx_ot_at hW0 hvm.symm (hgood _ List.mem_cons_self) hk
  have hini' : (Cond.initialized cls).before args s' = true := vx_ot_at hW0 hvm.symm (hgood _ (List.mem_cons_of_mem _ List.mem_cons_self)) hini
  have hU' : vx_Zq Bundle.tN "UNASSIGNED_STACK" Bundle.steD A s' s'.heap := by rw [hhp]; exact vx_Zq.moved hW0.alike (hU.kept hS.2.1)
  have hN' : vx_Zq Bundle.tN "SUPPRESSED_SENTINEL" Bundle.listD A s' s'.heap := by rw [hhp]; exact vx_Zq.moved hW0.alike (hN.kept hS.2.1)
  have h : ∀ w ∈ Bundle.ownAtoms own ic cls names, w.before args s' = true := vx_own hat' (vx_isRefq hU'.1) (vx_isRefq hN'.1) hU'.2.word hN'.2.word
  have hown' : s'.vm.findClass own = some m.cls := by rw [hvm]; exact hown
  have hins : (Cond.instantiable cls 6).before args s' = true := h _ (by simp [Bundle.ownAtoms])
  obtain ⟨vm₁, cX, kX, hfX, hkX, -, -, X₁, st1⟩ := Y.newCold hexec (own := own) (C := cls) (index := ik) (n := 6) hown' hk' hins hini'
    (g := F0 m pc ls rest) rfl (by rw [hb]; exact d0) (Nat.le_refl _) (Nat.le_refl _)
  generalize hT1 : (T.setVm vm₁).pushCell { cls := cX, slots := kX.instanceTypes.map defaultValue, vm := .none } = T1 at X₁ st1
  have hcat : (Value.ref T.heap.size).category = 1 := rfl
  have hcellA : T1.heap[T.heap.size]? = some (freshCell cX kX) := by rw [← hT1]; exact State.heap_pushCell_size _ _
  have d3' : decode c.code (pc + 3) = .ok (.dup, 1) := by rw [hb]; exact d3
  have d4' : decode c.code (pc + 4) = .ok (.ldc is, 2) := by rw [hb]; exact d4
  have hstr' : vk_R own is text sa s' := vk_R.warm hW0 hstr
  obtain ⟨U, hsteps, hrun, hend, hW, hsame, ce, hce, hO⟩ := X₁.ctorThrowS hexec htr (own := own) (cls := cls) (names := names) (ic := ic) hown' hcls hnames h (fun x hx => nomatch hx) hfX hkX hcellA (by rw [hhp, hT]; exact Nat.le_refl _) (msg := .ref sa) rfl
    (g := { method := m, pc := pc + 6, locals := ls, stack := .ref sa :: .ref T.heap.size :: .ref T.heap.size :: rest, locked := none }) rfl hsize rfl rfl (rest := rest) rfl
    (by rw [hb]; exact d6) (by rw [hb]; exact d9) hout hRframes (by simp only [List.map_cons, List.sum_cons, hcat]; omega) hlocks
  obtain ⟨f1, f2⟩ := vx_frame hsame
  rw [hhp] at f1 f2
  have hWs : s.WarmedH U.vm := State.WarmedH.trans hW0 hW
  have hcl : s.vm.findClass cls = some ce.cls := by
    have h9 := hO.cls
    rw [hvm] at h9
    exact h9
  have hall : s.sameButNew ({ U with vm := s.vm } : State) locs mc ms := by
    subst hA
    obtain ⟨e1, e2⟩ := hsame
    rw [State.setFrames_setFrames] at e1
    have h2 : (T.setVm s.vm).sameButNew ({ U with vm := s.vm } : State) [] (0 + 1) (0 + 6) := ⟨e1, e2⟩
    have h3 := X.same.trans h2
    rw [List.append_nil] at h3
    exact h3.mono hc hs
  refine ⟨U, ?_, .threw T.heap.size, hrun, hend, Or.inr ⟨T.heap.size, rfl, cls, ce, locs, hx U hWs.alike f1 (fun q hq => f2 q hq (fun z hz => nomatch hz)), hce, hO.vm, hcl, hWs, hall, hf⟩⟩
  refine st1 _ ?_
  show Steps p.tables e below (T1.setTop { method := m, pc := pc + 3, locals := ls, stack := .ref T.heap.size :: rest, locked := none }) _
  jvm_step X₁.here [X₁.here.top, hexec, d3', Value.category]
  exact X₁.ldcString hexec (own := own) (text := text) (index := is) (a := sa) hown' hstr'.1 hstr'.2
    (g := { method := m, pc := pc + 4, locals := ls, stack := .ref T.heap.size :: .ref T.heap.size :: rest, locked := none }) rfl d4' _ hsteps
/-- 'throw new E("text")', the text by a wide index -/
theorem vx_throwSW {cc : ByteArray} {pc : Nat} (hexec : p.tables.exec = Jvm.exec) (hb : c.code = cc) (hl : l.stackTraces = false) {own cls text : String} {names : List String} {ik is ic mc ms sa : Nat} {A : Nat → Prop}
    (hown : s.vm.findClass own = some m.cls) (hcls : Bundle.fit cls = true) (hnames : ∀ n ∈ names, Bundle.fit n = true)
    (hk : (Cond.classLink own ik cls).before args s = true) (hini : (Cond.initialized cls).before args s = true) (hstr : vk_R own is text sa s) (hat : ∀ w ∈ vx_atS own ic cls names, w.before args s = true)
    (hgood : ∀ w ∈ Cond.classLink own ik cls :: Cond.initialized cls :: vx_atS own ic cls names, vx_ot w = true)
    (hU : vx_Zq Bundle.tN "UNASSIGNED_STACK" Bundle.steD A s s.heap) (hN : vx_Zq Bundle.tN "SUPPRESSED_SENTINEL" Bundle.listD A s s.heap) (hS : va_S A s.heap H locs) (hsize : ls.size = c.maxLocals)
    (d0 : decode cc pc = .ok (.new ik, 3)) (d3 : decode cc (pc + 3) = .ok (.dup, 1)) (d4 : decode cc (pc + 4) = .ok (.ldc_w is, 3)) (d7 : decode cc (pc + 7) = .ok (.invokespecial ic, 3)) (d10 : decode cc (pc + 10) = .ok (.athrow, 1))
    (hout : ∀ x ∈ c.exceptionTable.toList, covers x (pc + 10) = false)
    (hRframes : names.length + 3 < R.frames) (hRlocals : (rest.map fun v => v.category).sum + (13 * (names.length + 1) + 43) ≤ R.locals) (hRcells : cells + 1 ≤ R.cells) (hRslots : slots + 6 ≤ R.slots) (hlocks : meth.locks = false)
    (hx : ∀ t : State, s.vm.Alike t.vm → H.size ≤ t.heap.size → (∀ q : Nat, q < H.size → t.heap[q]? = H[q]?) → XC cls s t)
    (hf : ∀ z ∈ locs, free z.base) (hc : cells + 1 ≤ mc) (hs : slots + 6 ≤ ms) :
    W p l e R s m args below meth c H locs cells slots (vx_MQ below Qc XC args s mc ms free) (F0 m pc ls rest) := by
  intro T hT X
  have htr : e.platform.stackTraces = false := (show e.platform.stackTraces = l.stackTraces by rw [X.admits.platform]).trans hl
  have Y := vx_rebase X (R' := { frames := R.frames, locals := R.locals, cells := 1, slots := 6 }) (Nat.le_refl _) (Nat.le_refl _) hRcells hRslots
  obtain ⟨s', hA⟩ : ∃ z, z = (T.setVm s.vm).setFrames (.invoking m args :: below) := ⟨_, rfl⟩
  rw [← hA] at Y
  have hvm : s'.vm = s.vm := by rw [hA]; rfl
  have hhp : s'.heap = H := by rw [hA]; exact hT
  have hW0 : s.WarmedH s'.vm := by rw [hvm]; exact State.WarmedH.refl s
  have hat' : ∀ w ∈ vx_atS own ic cls names, w.before args s' = true := fun w hw => vx_ot_at hW0 hvm.symm (hgood w (List.mem_cons_of_mem _ (List.mem_cons_of_mem _ hw))) (hat w hw)
  have hk' : (Cond.classLink own ik cls).before args s' = true := vx_ot_at hW0 hvm.symm (hgood _ List.mem_cons_self) hk
  have hini' : (Cond.initialized cls).before args s' = true := vx_ot_at hW0 hvm.symm (hgood _ (List.mem_cons_of_mem _ List.mem_cons_self)) hini
  have hU' : vx_Zq Bundle.tN "UNASSIGNED_STACK" Bundle.steD A s' s'.heap := by rw [hhp]; exact vx_Zq.moved hW0.alike (hU.kept hS.2.1)
  have hN' : vx_Zq Bundle.tN "SUPPRESSED_SENTINEL" Bundle.listD A s' s'.heap := by rw [hhp]; exact vx_Zq.moved hW0.alike (hN.kept hS.2.1)
  have h : ∀ w ∈ Bundle.ownAtoms own ic cls names, w.before args s' = true := vx_own hat' (vx_isRefq hU'.1) (vx_isRefq hN'.1) hU'.2.word hN'.2.word
  have hown' : s'.vm.findClass own = some m.cls := by rw [hvm]; exact hown
  have hins : (Cond.instantiable cls 6).before args s' = true := h _ (by simp [Bundle.ownAtoms])
  obtain ⟨vm₁, cX, kX, hfX, hkX, -, -, X₁, st1⟩ := Y.newCold hexec (own := own) (C := cls) (index := ik) (n := 6) hown' hk' hins hini'
    (g := F0 m pc ls rest) rfl (by rw [hb]; exact d0) (Nat.le_refl _) (Nat.le_refl _)
  generalize hT1 : (T.setVm vm₁).pushCell { cls := cX, slots := kX.instanceTypes.map defaultValue, vm := .none } = T1 at X₁ st1
  have hcat : (Value.ref T.heap.size).category = 1 := rfl
  have hcellA : T1.heap[T.heap.size]? = some (freshCell cX kX) := by rw [← hT1]; exact State.heap_pushCell_size _ _
  have d3' : decode c.code (pc + 3) = .ok (.dup, 1) := by rw [hb]; exact d3
  have d4' : decode c.code (pc + 4) = .ok (.ldc_w is, 3) := by rw [hb]; exact d4
  have hstr' : vk_R own is text sa s' := vk_R.warm hW0 hstr
  obtain ⟨U, hsteps, hrun, hend, hW, hsame, ce, hce, hO⟩ := X₁.ctorThrowS hexec htr (own := own) (cls := cls) (names := names) (ic := ic) hown' hcls hnames h (fun x hx => nomatch hx) hfX hkX hcellA (by rw [hhp, hT]; exact Nat.le_refl _) (msg := .ref sa) rfl
    (g := { method := m, pc := pc + 7, locals := ls, stack := .ref sa :: .ref T.heap.size :: .ref T.heap.size :: rest, locked := none }) rfl hsize rfl rfl (rest := rest) rfl
    (by rw [hb]; exact d7) (by rw [hb]; exact d10) hout hRframes (by simp only [List.map_cons, List.sum_cons, hcat]; omega) hlocks
  obtain ⟨f1, f2⟩ := vx_frame hsame
  rw [hhp] at f1 f2
  have hWs : s.WarmedH U.vm := State.WarmedH.trans hW0 hW
  have hcl : s.vm.findClass cls = some ce.cls := by
    have h9 := hO.cls
    rw [hvm] at h9
    exact h9
  have hall : s.sameButNew ({ U with vm := s.vm } : State) locs mc ms := by
    subst hA
    obtain ⟨e1, e2⟩ := hsame
    rw [State.setFrames_setFrames] at e1
    have h2 : (T.setVm s.vm).sameButNew ({ U with vm := s.vm } : State) [] (0 + 1) (0 + 6) := ⟨e1, e2⟩
    have h3 := X.same.trans h2
    rw [List.append_nil] at h3
    exact h3.mono hc hs
  refine ⟨U, ?_, .threw T.heap.size, hrun, hend, Or.inr ⟨T.heap.size, rfl, cls, ce, locs, hx U hWs.alike f1 (fun q hq => f2 q hq (fun z hz => nomatch hz)), hce, hO.vm, hcl, hWs, hall, hf⟩⟩
  refine st1 _ ?_
  show Steps p.tables e below (T1.setTop { method := m, pc := pc + 3, locals := ls, stack := .ref T.heap.size :: rest, locked := none }) _
  jvm_step X₁.here [X₁.here.top, hexec, d3', Value.category]
  exact X₁.ldcStringW hexec (own := own) (text := text) (index := is) (a := sa) hown' hstr'.1 hstr'.2
    (g := { method := m, pc := pc + 4, locals := ls, stack := .ref T.heap.size :: .ref T.heap.size :: rest, locked := none }) rfl d4' _ hsteps
end Ends
section Bodies
variable {l : Launch}
theorem vx_ofW {y : MethodName} {ws ws' : List Cond} {rm : Room} {Pc : Array Value → State → Prop} {Qc : Array Value → State → Outcome → State → Prop} {XC : String → State → State → Prop} {mc ms : Nat} {free : Addr → Prop} {cc : ByteArray} {maxL : Nat} {ret : Option FieldType}
    (hy : plainName y.cls = true) (hw : ws = Cond.code y cc maxL ret :: ws')
    (body : ∀ p e s m args below meth c s₁, BodyLoose p l y (headSpec ws rm) cc maxL ret e s m args below meth c s₁ → c.maxLocals = maxL → (∀ x ∈ c.exceptionTable.toList, False) → Pc args s →
      W p l e (headSpec ws rm).room s m args below meth c s.heap [] 0 0 (vx_MQ below Qc XC args s mc ms free) (entryFrame m args maxL)) : vx_Met l y ws rm Pc Qc XC mc ms free := by
  refine MetFree.of_bodyS (code := cc) (maxLocals := maxL) (ret := ret) hy ?_ ?_
  · intro args s m h hn
    obtain ⟨meth, c, h1, h2, h3, h4, h5, h6, -, -⟩ := Cond.code_spec hn (atoms_spec (ws := ws) h _ (by rw [hw]; exact List.mem_cons_self))
    exact ⟨meth, c, h1, h2, h3, h4, h5, h6⟩
  · intro p e s m args below meth c s₁ B hml hP _
    have hh0 : s₁.heap = s.heap := by rw [B.state]; rfl
    have ht : ∀ x ∈ c.exceptionTable.toList, False := by
      obtain ⟨meth9, c9, h1, h2, -, -, -, -, h7, -⟩ := Cond.code_spec B.named (atoms_spec (ws := ws) B.pre _ (by rw [hw]; exact List.mem_cons_self))
      cases Option.some.inj (h1.symm.trans B.method)
      cases Option.some.inj (h2.symm.trans (Stand.of_body B).code)
      intro x hx
      rw [Array.isEmpty_iff.mp h7] at hx
      cases hx
    obtain ⟨t, a1, o, b1, b2, b3⟩ := body p e s m args below meth c s₁ B hml ht hP s₁ hh0 (Stand.of_body B)
    exact ⟨t, o, a1, b1, b2, b3⟩
/-- the table of a body with handlers -/
theorem vx_table {p : Program} {x y : MethodName} {S : Spec} {cc bytes : ByteArray} {maxL maxL' : Nat} {ret ret' : Option FieldType} {e : Env} {s s₁ : State} {m : MethodId} {args : Array Value} {below : List Frame} {meth : Method} {c : Code} {hh : List (Nat × Nat × Nat × Nat)}
    (B : BodyLoose p l y S cc maxL ret e s m args below meth c s₁) (h : (Cond.codeWith y bytes maxL' ret' hh).before args s = true) : c.exceptionTable.toList = tableOf hh := by
  obtain ⟨m9, meth9, c9, hn9, h1, h2, -, -, h6, -⟩ := Cond.codeWith_spec h
  cases Option.some.inj (hn9.symm.trans B.named)
  cases Option.some.inj (h1.symm.trans B.method)
  cases Option.some.inj (h2.symm.trans (Stand.of_body B).code)
  rw [← h6, table_eq]
end Bodies
end VXA
/-! ===== END ===== -/
/-! ===== BEGIN a static call of a method with an exception table ===== -/
section VXS
variable {p : Program} {l : Launch} {e : Env} {R : Room} {s : State} {m : MethodId} {args : Array Value} {below : List Frame} {meth : Method} {c : Code} {T : State} {H : Heap} {locs : List Loc} {cells slots : Nat}
abbrev vx_CSW (R : Room) (s : State) (args : Array Value) (own : String) (index : Nat) (y : MethodName) (bytes : ByteArray) (maxL : Nat) (ret : Option FieldType) (hh : List (Nat × Nat × Nat × Nat)) (ws : List Cond) (rm : Room) (mc ms n : Nat) : Prop :=
  (rm.cells = mc ∧ rm.slots = ms ∧ rm.frames + 1 ≤ R.frames ∧ 8 + (maxL + 11) + rm.locals ≤ R.locals ∧ (∀ w ∈ ws, ∀ (a' : Array Value) (U : State), s.WarmedH U.vm → w.before a' U = true) ∧ Cond.codeWith y bytes maxL ret hh ∈ ws) ∧
  (Cond.codeWith y bytes maxL ret hh).before args s = true ∧ (Cond.initialized y.cls).before args s = true ∧ (y.cls ≠ "java/lang/invoke/MethodHandle" ∧ y.cls ≠ "java/lang/invoke/VarHandle") ∧
  (∀ sig, parseMethodDescriptor y.desc = some sig → n = sig.parameters.length) ∧ (Cond.methodLink own index y).before args s = true ∧ (Cond.static y).before args s = true
theorem vx_cwSW {own : String} {index maxL mc ms : Nat} {y : MethodName} {bytes : ByteArray} {ret : Option FieldType} {hh : List (Nat × Nat × Nat × Nat)} {Ts ws ws' : List Cond} {rm : Room} (n : Nat) (ht : ∀ w ∈ Ts, w.before args s = true) (hT : GoodIn Ts (va_wsS own index y ws)) (hw : ws = Cond.codeWith y bytes maxL ret hh :: ws') (hrc : rm.cells = mc) (hrs : rm.slots = ms)
    (hd : y.cls ≠ "java/lang/invoke/MethodHandle" ∧ y.cls ≠ "java/lang/invoke/VarHandle" ∧ (parseMethodDescriptor y.desc).map (fun d => d.parameters.length) = some n) (hR : rm.frames + 1 ≤ R.frames ∧ 8 + (maxL + 11) + rm.locals ≤ R.locals) :
    vx_CSW R s args own index y bytes maxL ret hh ws rm mc ms n := by
  have ok : ∀ w ∈ va_wsS own index y ws, w.before args s = true := fun w h => ht w (hT w h).1
  have hG : GoodIn Ts ws := fun w h => hT w (by unfold va_wsS; exact List.mem_append_right _ h)
  have hc : Cond.codeWith y bytes maxL ret hh ∈ ws := by rw [hw]; exact List.mem_cons_self
  refine ⟨⟨hrc, hrs, hR.1, hR.2, pay_in ht hG, hc⟩, ht _ (hG _ hc).1, ok _ (by simp [va_wsS]), ⟨hd.1, hd.2.1⟩, fun sig h => ?_, ok _ (by simp [va_wsS]), ok _ (by simp [va_wsS])⟩
  have h2 := hd.2.2
  rw [h] at h2
  exact (Option.some.inj h2).symm
theorem vx_callSW (X : Stand p l e R s m args below meth c T locs cells slots) (hexec : p.tables.exec = Jvm.exec) {own : String} {index : Nat} {y : MethodName} {bytes : ByteArray} {maxL : Nat} {ret : Option FieldType} {hh : List (Nat × Nat × Nat × Nat)}
    (hown : s.vm.findClass own = some m.cls) (hlink : (Cond.methodLink own index y).before args s = true) (hstat : (Cond.static y).before args s = true) (hinit : (Cond.initialized y.cls).before args s = true)
    (hcode : (Cond.codeWith y bytes maxL ret hh).before args s = true) (hy : y.cls ≠ "java/lang/invoke/MethodHandle" ∧ y.cls ≠ "java/lang/invoke/VarHandle")
    {W9 : Nat} {Pre : Pt → Array Value → Prop} {Post : Pt → Array Value → Option Value → Pt → Prop} (hK : Back l R p e below s args y 3 W9 Pre Post)
    {g : JFrame} (hg : g.method = m) (hsize : g.locals.size = c.maxLocals) {argsL rest : List Value} (hlen : ∀ sig, parseMethodDescriptor y.desc = some sig → argsL.length = sig.parameters.length)
    (hstack : g.stack = argsL.reverse ++ rest) (hW : 2 * g.monitorRoom + (rest.map fun v => v.category).sum ≤ W9) (hdg : decode c.code g.pc = .ok (.invokestatic index, 3))
    (hpre : ∀ vm₁, s.WarmedH vm₁ → Pre ⟨T.setVm vm₁, locs, cells, slots⟩ argsL.toArray) :
    ∃ (v : Option Value) (vm₁ : Vm) (B : Pt), s.WarmedH vm₁ ∧ Stand p l e R s m args below meth c B.U B.locs B.cells B.slots ∧ Post ⟨T.setVm vm₁, locs, cells, slots⟩ argsL.toArray v B ∧
      ∀ target, Steps p.tables e below (B.U.setTop { g with pc := g.pc + 3, stack := v.toList ++ rest }) target → Steps p.tables e below (T.setTop g) target := by
  obtain ⟨mk, methM, cM, hnamed, hmethM, -, -, -, -, -, -, hsigM⟩ := Cond.codeWith_spec hcode
  have hstatic : methM.isStatic = true := Cond.static_spec hnamed hmethM hstat
  obtain ⟨kP, hkP, -⟩ := className_of_methodNamed hnamed
  have hinitP : kP.init = .initialized := Cond.initialized_spec (findClass_of_methodNamed hnamed) hkP hinit
  obtain ⟨vm₁, X₁, hstep₁⟩ := X.invokestatic hexec hown hlink hnamed hmethM hstatic hkP hinitP hy (g := g) hg (argsL := argsL) (rest := rest) (hlen _ hsigM) hstack hdg
  obtain ⟨v, B, X', hpost, hsteps⟩ := hK m meth c ⟨T.setVm vm₁, locs, cells, slots⟩ { g with stack := rest } (.invokestatic index) mk argsL.toArray X₁ hg hsize hdg hW (X₁.named hnamed) (hpre vm₁ X₁.warmed)
  exact ⟨v, vm₁, B, X₁.warmed, X', hpost, fun target h => hstep₁ _ fun acts => by rw [doInvoke_state]; exact hsteps.trans h⟩
theorem vx_runSW {y : MethodName} {bytes cc : ByteArray} {maxL nL mc ms n index : Nat} {ret : Option FieldType} {hh : List (Nat × Nat × Nat × Nat)} {ws : List Cond} {rm : Room} {Pc : Array Value → State → Prop} {Qc : Array Value → State → Outcome → State → Prop} {free : Addr → Prop} {Ts : List Cond} {own : String} {As rest : List Value} {g : JFrame}
    (S : CallFix p m c cc nL s args Ts own) (hM : Met l y ws rm Pc Qc mc ms free) (cw : vx_CSW R s args own index y bytes maxL ret hh ws rm mc ms n) (hp : PreS s H Pc As)
    (hg : g.method = m) (hn : As.length = n) (hsize : g.locals.size = nL) (hstack : g.stack = As.reverse ++ rest) (hW : 2 * g.monitorRoom + (rest.map fun v => v.category).sum ≤ 8) (hdg : decode cc g.pc = .ok (.invokestatic index, 3)) (hf : cells + mc ≤ R.cells ∧ slots + ms ≤ R.slots) :
    va_Run p l e R s m args below meth c H locs cells slots mc ms g rest (Qc As.toArray) (free) := by
  obtain ⟨⟨hrc, hrs, hfr, hlo, hws, hcw⟩, hcode, hini, hy, hlen, hl, hstt⟩ := cw
  have hK : Back l R p e below s args y 3 8 (PreOf R mc ms Pc) (PostOf Qc mc ms free) := va_backW (hh := hh) (bytes := bytes) (maxL := maxL) (ret := ret) hM hp.1 hrc hrs hfr hlo hws hcw (fun a' U hW => word_at hW (Or.inl (by first | rfl | simp [Cond.onTables, Cond.keeps, Cond.steady])) hini)
  obtain ⟨hx, hb, hml, ho, -⟩ := S
  intro T hT X
  obtain ⟨v, vm₁, ⟨U', l2, c2, s2⟩, hW₁, X', ⟨g', mk, t, L, e1, e2, hq, h1, hL, h2, h3⟩, st⟩ := vx_callSW X hx (hh := hh) (bytes := bytes) (maxL := maxL) (ret := ret) ho hl hstt hini hcode hy hK hg (hsize.trans hml.symm) (argsL := As) (rest := rest) (fun sig h => hn.trans (hlen sig h)) hstack hW (by rw [hb]; exact hdg)
    (fun vm₁ hW₁ => ⟨hf.1, hf.2, hp.2 (T.setVm vm₁) hT hW₁⟩)
  dsimp only [Pt.U, Pt.locs, Pt.cells, Pt.slots] at X' e1 e2 h1 h2 h3 st
  subst h1; subst h2; subst h3
  exact ⟨v, (T.setVm vm₁).calling g' mk As.toArray, t, U', L, hT, X', hL, e1, e2, hq, st⟩
/-- not caught here, past rows that name other classes: it goes on to the caller -/
theorem vx_outP {p : Program} {l : Launch} {e : Env} {R : Room} {s : State} {m : MethodId} {args : Array Value} {below : List Frame} {meth : Method} {c : Code} {H : Heap} {locs : List Loc} {cells slots : Nat} {free : Addr → Prop} {ls : Array Slot} {rest : List Value} {Qc : Array Value → State → Outcome → State → Prop} {XC : String → State → State → Prop}
    {pc : Nat} {own E : String} {ce : Cell} {q : Addr} {mc ms : Nat} (hown : s.vm.findClass own = some m.cls) (hlocks : meth.locks = false)
    (hpass : ∀ z ∈ c.exceptionTable.toList, covers z pc = false ∨ (z.catchType ≠ 0 ∧ ∃ nm : String, (Cond.classLink own z.catchType nm).before args s = true ∧ va_Nc E nm s)) (hcell : H[q]? = some ce) (hv : ce.vm = .none) (hcl : s.vm.findClass E = some ce.cls)
    (hx : ∀ t : State, t.heap = H → s.vm.Alike t.vm → XC E s t) (hf : ∀ z ∈ locs, free z.base) (hc : cells ≤ mc) (hs : slots ≤ ms) :
    vx_W p l e R s m args below meth c H locs cells slots (vx_MQ below Qc XC args s mc ms free) (F0 m pc ls rest) q := by
  intro T hT X
  have hpl : e.platform.magicAccessors = ({} : Platform).magicAccessors := by rw [X.admits.platform]
  obtain ⟨vm', hW', X', st⟩ := X.outThrough hlocks q (g := F0 m pc ls rest) rfl rfl rfl (cell := ce) (by rw [hT]; exact hcell) (by rw [hv]; rfl)
    (by obtain ⟨k9, h9, -⟩ := Vm.findClass_spec hcl; exact ⟨k9, h9⟩) (fun z hz => by
      rcases hpass z hz with h | ⟨hz0, nm, hl1, hn1⟩
      · exact Or.inl h
      · obtain ⟨c6, hc6, hcl6⟩ := Cond.classLink_spec hown hl1 e.platform hpl
        obtain ⟨a8, b8, h1, h2, h3⟩ := hn1
        cases Option.some.inj (h1.symm.trans hcl)
        cases Option.some.inj (h2.symm.trans hc6)
        exact Or.inr ⟨hz0, _, hcl6, h3⟩)
  obtain ⟨g₀, hfr⟩ := X'.frames_eq
  have hcell9 : ((T.setVm vm').setFrames (.throwing q :: below)).heap[q]? = some ce := by
    show T.heap[q]? = some ce
    rw [hT]; exact hcell
  have hend : Ended ((T.setVm vm').setFrames (.throwing q :: below)) below (.threw q) := State.frames_setFrames _ (State.cur_lt_of_frames hfr)
  refine ⟨(T.setVm vm').setFrames (.throwing q :: below), ?_, .threw q, X'.here.running, hend, Or.inr ⟨q, rfl, E, ce, locs, hx _ hT (X'.ends _).1.alike, hcell9, hv, hcl, (X'.ends _).1, (X'.ends _).2.mono hc hs, hf⟩⟩
  rw [X.pushThrowing_eq]
  exact st
/-- a thing of a world lies in the heap -/
theorem vx_lt {D : va_G} {cl : List vw_C} {ws : va_W} {H1 : Heap} (h : va_P D cl ws H1) {k : Nat} {q : Nat × va_E} (hk : ws[k]? = some q) : q.1 < H1.size := (h k q hk).lt
end VXS
/-! ===== END ===== -/
/-! ===== BEGIN methods with a table of their own: called by a name, returning or throwing ===== -/
section VXH
/-! vx_backW, vx_callVX, vx_callSX, vx_callVW, vx_runVW, vx_runVX, vx_runSX, vx_ofWH follow the same proofs as their sisters above (Free/Laws.lean, Shelf42/LK1.lean); vx_outP calls Shelf42/NT130.lean (outThrough). -/
section
variable {l : Launch} {R : Room} {p : Program} {e : Env} {below : List Frame} {s : State} {sargs : Array Value} {y : MethodName} {len W9 : Nat}
theorem vx_backW {ws : List Cond} {rm : Room} {Pc : Array Value → State → Prop} {Qc : Array Value → State → Outcome → State → Prop} {XC : String → State → State → Prop} {mc ms : Nat} {free : Addr → Prop} {bytes : ByteArray} {maxL : Nat} {ret : Option FieldType} {hh : List (Nat × Nat × Nat × Nat)}
    (hM : vx_Met l y ws rm Pc Qc XC mc ms free) (hblind : FrameBlind Pc) (hrc : rm.cells = mc) (hrs : rm.slots = ms)
    (hframes : rm.frames + 1 ≤ R.frames) (hlocals : W9 + (maxL + 11) + rm.locals ≤ R.locals)
    (hws : ∀ w ∈ ws, ∀ a' U, s.WarmedH U.vm → w.before a' U = true) (hcode : Cond.codeWith y bytes maxL ret hh ∈ ws) (hinit : ∀ a' U, s.WarmedH U.vm → (Cond.initialized y.cls).before a' U = true) :
    vx_Back l R p e below s sargs y len W9 (PreOf R mc ms Pc) (PostOf Qc mc ms free) (vx_Post XC mc ms free) := by
  intro m meth c A g ig mk a X hg hsize hdg hW hn hp
  have h1 : (headSpec ws rm).pre.before a A.U = true := atoms_intro fun w hw => hws w hw _ _ X.warmed
  have h2 : (Cond.codeWith y bytes maxL ret hh).before a A.U = true := hws _ hcode _ _ X.warmed
  have h3 : (Cond.initialized y.cls).before a A.U = true := hinit _ _ X.warmed
  have h4 : A.cells + (headSpec ws rm).room.cells ≤ R.cells := by rw [show (headSpec ws rm).room.cells = mc from hrc]; exact hp.1
  have h5 : A.slots + (headSpec ws rm).room.slots ≤ R.slots := by rw [show (headSpec ws rm).room.slots = ms from hrs]; exact hp.2.1
  have hPc : Pc a (A.U.calling g mk a) := hblind _ _ _ _ hp.2.2
  obtain ⟨U, Ls, c0, s0⟩ := A
  dsimp only [Pt.U, Pt.locs, Pt.cells, Pt.slots] at h1 h2 h3 h4 h5 X hn hPc ⊢
  obtain ⟨m9, methY, cY, hn9, hmY, hcY, -, hlY, -⟩ := Cond.codeWith_spec h2
  cases Option.some.inj (hn9.symm.trans hn)
  obtain ⟨kY, hkY, -⟩ := className_of_methodNamed hn
  have hinitY : kY.init = .initialized := Cond.initialized_spec (findClass_of_methodNamed hn) hkY h3
  have h : At U g.method c below := by rw [hg]; exact X.here
  have hlocals9 : W9 + (maxL + 11) + (headSpec ws rm).room.locals ≤ R.locals := hlocals
  have happ : (headSpec ws rm).appliesLoose y e.platform (U.calling g mk a) = true :=
    Spec.appliesLoose_calling (g := g) h hdg hn hkY hinitY
      (X.room_calling (g := g) (R' := (headSpec ws rm).room) hsize hmY hcY hframes (by rw [hlY]; omega) h4 h5) h1
  obtain ⟨mid, hmid⟩ := h.above
  have hfr : (U.setTop g).frames = (.java g :: mid) ++ below := by rw [State.frames_setTop' g h.top, hmid]; rfl
  obtain ⟨o, s₂, hsteps, -, hend, hq⟩ := Steps.callFree hM p X.admits X.cas X.clock (acts := []) hfr happ hPc trivial
  have hq' : vx_Q Qc XC mc ms free a (U.calling g mk a) o s₂ := hq
  rw [State.frames_setTop' g h.top] at hend
  obtain ⟨g₀, hg0⟩ := Option.isSome_iff_exists.mp h.top
  obtain ⟨r, hr⟩ := State.topJava?_eq_some.mp hg0
  have hr' : (({ U with heap := s₂.heap, slotsUsed := s₂.slotsUsed } : State).setVm s₂.vm).frames = .java g₀ :: r := hr
  rcases hq' with ⟨hqc, L, hfe, hL⟩ | ⟨q, rfl, E, ce, L, hx, hce, hcv, hcl, hW₂, hsm, hL⟩
  · obtain ⟨⟨v, rfl⟩, hW₂, e2, q2, q3, q4, q5, q6⟩ := id hfe
    have e3 : s₂ = ({ (U.calling g mk a).setFrames s₂.frames with heap := s₂.heap, slotsUsed := s₂.slotsUsed } : State).setVm s₂.vm := by
      have : s₂ = ({ s₂ with vm := (U.calling g mk a).vm } : State).setVm s₂.vm := rfl
      rw [e2] at this
      exact this
    obtain ⟨c₂, i₂, len₂, hc₂, hd₂, hf₂⟩ := hend
    have hW' : U.WarmedH s₂.vm := hW₂
    have hcc : c₂ = c := by
      have h1 : s₂.code? g.method = U.code? g.method := by
        rw [State.code?_eq, State.code?_eq, hW'.alike.method?]
      exact Option.some.inj (hc₂.symm.trans (h1.trans h.code))
    subst hcc
    have hlen : len₂ = len := by rw [hdg] at hd₂; cases hd₂; rfl
    subst hlen
    have hs₂ : s₂ = (({ U with heap := s₂.heap, slotsUsed := s₂.slotsUsed } : State).setVm s₂.vm).setTop { g with pc := g.pc + len₂, stack := v.toList ++ g.stack } := by
      refine e3.trans ?_
      rw [hf₂, State.calling_eq h.top, State.setFrames_setFrames, State.setTop_of_frames _ hr', hr]
      rfl
    have hsame : U.sameButNew ({ U with heap := s₂.heap, slotsUsed := s₂.slotsUsed } : State) L mc ms := by
      refine ⟨?_, q2, q3, q4, q5, q6⟩
      obtain ⟨t, ht, -⟩ := State.frames_cons hr
      show ({ U with heap := s₂.heap, slotsUsed := s₂.slotsUsed } : State) = { U.setFrames U.frames with heap := s₂.heap, slotsUsed := s₂.slotsUsed }
      rw [State.setFrames_self ht]
    subst hg
    refine Or.inl ⟨v, ⟨(({ U with heap := s₂.heap, slotsUsed := s₂.slotsUsed } : State).setVm s₂.vm), Ls ++ L, c0 + mc, s0 + ms⟩,
      ⟨X.admits, X.cas, X.clock, X.frames, X.room, X.hears, X.method, X.code, (X.here.setHeapUsed s₂.heap s₂.slotsUsed).setVm hW'.alike, X.tail, State.WarmedH.trans X.warmed hW', X.limits, X.bytes, X.same.trans (hsame.setVm s.vm)⟩,
      ⟨g, mk, s₂, L, rfl, rfl, hqc, rfl, hL, rfl, rfl⟩, ?_⟩
    show Steps p.tables e below _ ((({ U with heap := s₂.heap, slotsUsed := s₂.slotsUsed } : State).setVm s₂.vm).setTop { g with pc := g.pc + len₂, stack := v.toList ++ g.stack })
    rw [← hs₂]
    exact hsteps
  · obtain ⟨e2, q2, q3, q4, q5, q6⟩ := id hsm
    have e3 : s₂ = ({ (U.calling g mk a).setFrames s₂.frames with heap := s₂.heap, slotsUsed := s₂.slotsUsed } : State).setVm s₂.vm := by
      have : s₂ = ({ s₂ with vm := (U.calling g mk a).vm } : State).setVm s₂.vm := rfl
      rw [e2] at this
      exact this
    have hf₂ : s₂.frames = .throwing q :: .java g :: U.frames.tail := hend
    have hW' : U.WarmedH s₂.vm := hW₂
    have hs₂ : s₂ = ((({ U with heap := s₂.heap, slotsUsed := s₂.slotsUsed } : State).setVm s₂.vm).setTop g).pushFrame (.throwing q) := by
      refine e3.trans ?_
      rw [hf₂, State.calling_eq h.top, State.setFrames_setFrames, State.pushFrame, State.frames_setTop _ hr', State.setTop_of_frames _ hr', State.setFrames_setFrames, hr]
      rfl
    have hsame : U.sameButNew ({ U with heap := s₂.heap, slotsUsed := s₂.slotsUsed } : State) L mc ms := by
      refine ⟨?_, q2, q3, q4, q5, q6⟩
      obtain ⟨t, ht, -⟩ := State.frames_cons hr
      show ({ U with heap := s₂.heap, slotsUsed := s₂.slotsUsed } : State) = { U.setFrames U.frames with heap := s₂.heap, slotsUsed := s₂.slotsUsed }
      rw [State.setFrames_self ht]
    subst hg
    refine Or.inr ⟨q, ⟨(({ U with heap := s₂.heap, slotsUsed := s₂.slotsUsed } : State).setVm s₂.vm), Ls ++ L, c0 + mc, s0 + ms⟩,
      ⟨X.admits, X.cas, X.clock, X.frames, X.room, X.hears, X.method, X.code, (X.here.setHeapUsed s₂.heap s₂.slotsUsed).setVm hW'.alike, X.tail, State.WarmedH.trans X.warmed hW', X.limits, X.bytes, X.same.trans (hsame.setVm s.vm)⟩,
      ⟨g, mk, s₂, L, E, ce, rfl, rfl, hx, hce, hcv, hcl, rfl, hL, rfl, rfl⟩, ?_⟩
    show Steps p.tables e below _ (((({ U with heap := s₂.heap, slotsUsed := s₂.slotsUsed } : State).setVm s₂.vm).setTop g).pushFrame (.throwing q))
    rw [← hs₂]
    exact hsteps
end
variable {p : Program} {l : Launch} {e : Env} {R : Room} {s : State} {m : MethodId} {args : Array Value} {below : List Frame} {meth : Method} {c : Code} {T : State} {H : Heap} {locs : List Loc} {cells slots : Nat}
theorem vx_callVX (X : Stand p l e R s m args below meth c T locs cells slots) (hexec : p.tables.exec = Jvm.exec) {own C : String} {index : Nat} {y : MethodName} {bytes : ByteArray} {maxL : Nat} {ret : Option FieldType} {hh : List (Nat × Nat × Nat × Nat)}
    (hown : s.vm.findClass own = some m.cls) (hlink : (Cond.methodLink own index y).before args s = true) (hinst : (Cond.instanceMethod y).before args s = true) (hsel : (Cond.selects C y y).before args s = true)
    (hcode : (Cond.codeWith y bytes maxL ret hh).before args s = true) (hy : y.cls ≠ "java/lang/invoke/MethodHandle" ∧ y.cls ≠ "java/lang/invoke/VarHandle")
    {W9 : Nat} {Pre : Pt → Array Value → Prop} {Post : Pt → Array Value → Option Value → Pt → Prop} {PostX : Pt → Array Value → Addr → Pt → Prop} (hK : vx_Back l R p e below s args y 3 W9 Pre Post PostX)
    {b : Addr} {cellB : Cell} (hcell : T.heap[b]? = some cellB) (hobj : cellB.vm.isStatics = false) (hcls : s.vm.findClass C = some cellB.cls)
    {g : JFrame} (hg : g.method = m) (hsize : g.locals.size = c.maxLocals) {argsL rest : List Value} (hlen : ∀ sig, parseMethodDescriptor y.desc = some sig → argsL.length = sig.parameters.length)
    (hstack : g.stack = argsL.reverse ++ .ref b :: rest) (hW : 2 * g.monitorRoom + (rest.map fun v => v.category).sum ≤ W9) (hdg : decode c.code g.pc = .ok (.invokevirtual index, 3))
    (hpre : ∀ vm₁, s.WarmedH vm₁ → Pre ⟨T.setVm vm₁, locs, cells, slots⟩ (Value.ref b :: argsL).toArray) :
    (∃ (v : Option Value) (vm₁ : Vm) (B : Pt), s.WarmedH vm₁ ∧ Stand p l e R s m args below meth c B.U B.locs B.cells B.slots ∧ Post ⟨T.setVm vm₁, locs, cells, slots⟩ (Value.ref b :: argsL).toArray v B ∧
      ∀ target, Steps p.tables e below (B.U.setTop { g with pc := g.pc + 3, stack := v.toList ++ rest }) target → Steps p.tables e below (T.setTop g) target) ∨
    (∃ (q : Addr) (vm₁ : Vm) (B : Pt), s.WarmedH vm₁ ∧ Stand p l e R s m args below meth c B.U B.locs B.cells B.slots ∧ PostX ⟨T.setVm vm₁, locs, cells, slots⟩ (Value.ref b :: argsL).toArray q B ∧
      Steps p.tables e below (T.setTop g) ((B.U.setTop { g with stack := rest }).pushFrame (.throwing q))) := by
  obtain ⟨mk, methM, hnamed, hmethM, hstM, habM⟩ := Cond.instanceMethod_spec hinst
  obtain ⟨m8, methM', cM, hn8, hmethM', -, -, -, -, -, -, hsigM⟩ := Cond.codeWith_spec hcode
  cases Option.some.inj (hn8.symm.trans hnamed)
  cases hmethM.symm.trans hmethM'
  obtain ⟨c2, r2, m2, q1, q2, q3, q4, kP, hkP, hkPi⟩ := Cond.selects_spec hsel
  cases hcls.symm.trans q1
  cases (State.methodFound?_of_named hnamed hy).symm.trans q2
  cases hnamed.symm.trans q3
  have hselP : selectMethod e.platform s.vm cellB.cls mk = .method mk := by rw [Launch.admits_selectMethod X.admits]; exact q4
  obtain ⟨vm₁, X₁, hstep₁⟩ := X.invokevirtual hexec hown hlink hnamed hmethM hstM hkP hkPi hy (a := b) (cell := cellB) hcell
    (fun z h => by rw [h] at hobj; cases hobj) hselP hmethM habM hkP hkPi (g := g) hg (argsL := argsL) (rest := rest) (hlen _ hsigM) hstack hdg
  rcases hK m meth c ⟨T.setVm vm₁, locs, cells, slots⟩ { g with stack := rest } (.invokevirtual index) mk (Value.ref b :: argsL).toArray X₁ hg hsize hdg hW (X₁.named hnamed) (hpre vm₁ X₁.warmed) with ⟨v, B, X', hpost, hsteps⟩ | ⟨q, B, X', hpost, hsteps⟩
  · exact Or.inl ⟨v, vm₁, B, X₁.warmed, X', hpost, fun target h => hstep₁ _ fun acts => by rw [doInvoke_state]; exact hsteps.trans h⟩
  · exact Or.inr ⟨q, vm₁, B, X₁.warmed, X', hpost, hstep₁ _ fun acts => by rw [doInvoke_state]; exact hsteps⟩
theorem vx_callSX (X : Stand p l e R s m args below meth c T locs cells slots) (hexec : p.tables.exec = Jvm.exec) {own : String} {index : Nat} {y : MethodName} {bytes : ByteArray} {maxL : Nat} {ret : Option FieldType} {hh : List (Nat × Nat × Nat × Nat)}
    (hown : s.vm.findClass own = some m.cls) (hlink : (Cond.methodLink own index y).before args s = true) (hstat : (Cond.static y).before args s = true) (hinit : (Cond.initialized y.cls).before args s = true)
    (hcode : (Cond.codeWith y bytes maxL ret hh).before args s = true) (hy : y.cls ≠ "java/lang/invoke/MethodHandle" ∧ y.cls ≠ "java/lang/invoke/VarHandle")
    {W9 : Nat} {Pre : Pt → Array Value → Prop} {Post : Pt → Array Value → Option Value → Pt → Prop} {PostX : Pt → Array Value → Addr → Pt → Prop} (hK : vx_Back l R p e below s args y 3 W9 Pre Post PostX)
    {g : JFrame} (hg : g.method = m) (hsize : g.locals.size = c.maxLocals) {argsL rest : List Value} (hlen : ∀ sig, parseMethodDescriptor y.desc = some sig → argsL.length = sig.parameters.length)
    (hstack : g.stack = argsL.reverse ++ rest) (hW : 2 * g.monitorRoom + (rest.map fun v => v.category).sum ≤ W9) (hdg : decode c.code g.pc = .ok (.invokestatic index, 3))
    (hpre : ∀ vm₁, s.WarmedH vm₁ → Pre ⟨T.setVm vm₁, locs, cells, slots⟩ argsL.toArray) :
    (∃ (v : Option Value) (vm₁ : Vm) (B : Pt), s.WarmedH vm₁ ∧ Stand p l e R s m args below meth c B.U B.locs B.cells B.slots ∧ Post ⟨T.setVm vm₁, locs, cells, slots⟩ argsL.toArray v B ∧
      ∀ target, Steps p.tables e below (B.U.setTop { g with pc := g.pc + 3, stack := v.toList ++ rest }) target → Steps p.tables e below (T.setTop g) target) ∨
    (∃ (q : Addr) (vm₁ : Vm) (B : Pt), s.WarmedH vm₁ ∧ Stand p l e R s m args below meth c B.U B.locs B.cells B.slots ∧ PostX ⟨T.setVm vm₁, locs, cells, slots⟩ argsL.toArray q B ∧
      Steps p.tables e below (T.setTop g) ((B.U.setTop { g with stack := rest }).pushFrame (.throwing q))) := by
  obtain ⟨mk, methM, cM, hnamed, hmethM, -, -, -, -, -, -, hsigM⟩ := Cond.codeWith_spec hcode
  have hstatic : methM.isStatic = true := Cond.static_spec hnamed hmethM hstat
  obtain ⟨kP, hkP, -⟩ := className_of_methodNamed hnamed
  have hinitP : kP.init = .initialized := Cond.initialized_spec (findClass_of_methodNamed hnamed) hkP hinit
  obtain ⟨vm₁, X₁, hstep₁⟩ := X.invokestatic hexec hown hlink hnamed hmethM hstatic hkP hinitP hy (g := g) hg (argsL := argsL) (rest := rest) (hlen _ hsigM) hstack hdg
  rcases hK m meth c ⟨T.setVm vm₁, locs, cells, slots⟩ { g with stack := rest } (.invokestatic index) mk argsL.toArray X₁ hg hsize hdg hW (X₁.named hnamed) (hpre vm₁ X₁.warmed) with ⟨v, B, X', hpost, hsteps⟩ | ⟨q, B, X', hpost, hsteps⟩
  · exact Or.inl ⟨v, vm₁, B, X₁.warmed, X', hpost, fun target h => hstep₁ _ fun acts => by rw [doInvoke_state]; exact hsteps.trans h⟩
  · exact Or.inr ⟨q, vm₁, B, X₁.warmed, X', hpost, hstep₁ _ fun acts => by rw [doInvoke_state]; exact hsteps⟩
theorem vx_callVW (X : Stand p l e R s m args below meth c T locs cells slots) (hexec : p.tables.exec = Jvm.exec) {own C : String} {index : Nat} {y : MethodName} {bytes : ByteArray} {maxL : Nat} {ret : Option FieldType} {hh : List (Nat × Nat × Nat × Nat)}
    (hown : s.vm.findClass own = some m.cls) (hlink : (Cond.methodLink own index y).before args s = true) (hinst : (Cond.instanceMethod y).before args s = true) (hsel : (Cond.selects C y y).before args s = true)
    (hcode : (Cond.codeWith y bytes maxL ret hh).before args s = true) (hy : y.cls ≠ "java/lang/invoke/MethodHandle" ∧ y.cls ≠ "java/lang/invoke/VarHandle")
    {W9 : Nat} {Pre : Pt → Array Value → Prop} {Post : Pt → Array Value → Option Value → Pt → Prop} (hK : Back l R p e below s args y 3 W9 Pre Post)
    {b : Addr} {cellB : Cell} (hcell : T.heap[b]? = some cellB) (hobj : cellB.vm.isStatics = false) (hcls : s.vm.findClass C = some cellB.cls)
    {g : JFrame} (hg : g.method = m) (hsize : g.locals.size = c.maxLocals) {argsL rest : List Value} (hlen : ∀ sig, parseMethodDescriptor y.desc = some sig → argsL.length = sig.parameters.length)
    (hstack : g.stack = argsL.reverse ++ .ref b :: rest) (hW : 2 * g.monitorRoom + (rest.map fun v => v.category).sum ≤ W9) (hdg : decode c.code g.pc = .ok (.invokevirtual index, 3))
    (hpre : ∀ vm₁, s.WarmedH vm₁ → Pre ⟨T.setVm vm₁, locs, cells, slots⟩ (Value.ref b :: argsL).toArray) :
    ∃ (v : Option Value) (vm₁ : Vm) (B : Pt), s.WarmedH vm₁ ∧ Stand p l e R s m args below meth c B.U B.locs B.cells B.slots ∧ Post ⟨T.setVm vm₁, locs, cells, slots⟩ (Value.ref b :: argsL).toArray v B ∧
      ∀ target, Steps p.tables e below (B.U.setTop { g with pc := g.pc + 3, stack := v.toList ++ rest }) target → Steps p.tables e below (T.setTop g) target := by
  obtain ⟨mk, methM, hnamed, hmethM, hstM, habM⟩ := Cond.instanceMethod_spec hinst
  obtain ⟨m8, methM', cM, hn8, hmethM', -, -, -, -, -, -, hsigM⟩ := Cond.codeWith_spec hcode
  cases Option.some.inj (hn8.symm.trans hnamed)
  cases hmethM.symm.trans hmethM'
  obtain ⟨c2, r2, m2, q1, q2, q3, q4, kP, hkP, hkPi⟩ := Cond.selects_spec hsel
  cases hcls.symm.trans q1
  cases (State.methodFound?_of_named hnamed hy).symm.trans q2
  cases hnamed.symm.trans q3
  have hselP : selectMethod e.platform s.vm cellB.cls mk = .method mk := by rw [Launch.admits_selectMethod X.admits]; exact q4
  obtain ⟨vm₁, X₁, hstep₁⟩ := X.invokevirtual hexec hown hlink hnamed hmethM hstM hkP hkPi hy (a := b) (cell := cellB) hcell
    (fun z h => by rw [h] at hobj; cases hobj) hselP hmethM habM hkP hkPi (g := g) hg (argsL := argsL) (rest := rest) (hlen _ hsigM) hstack hdg
  obtain ⟨v, B, X', hpost, hsteps⟩ := hK m meth c ⟨T.setVm vm₁, locs, cells, slots⟩ { g with stack := rest } (.invokevirtual index) mk (Value.ref b :: argsL).toArray X₁ hg hsize hdg hW (X₁.named hnamed) (hpre vm₁ X₁.warmed)
  exact ⟨v, vm₁, B, X₁.warmed, X', hpost, fun target h => hstep₁ _ fun acts => by rw [doInvoke_state]; exact hsteps.trans h⟩
abbrev vx_CVW (R : Room) (s : State) (args : Array Value) (own C : String) (index : Nat) (y : MethodName) (bytes : ByteArray) (maxL : Nat) (ret : Option FieldType) (hh : List (Nat × Nat × Nat × Nat)) (ws : List Cond) (rm : Room) (mc ms n : Nat) : Prop :=
  (rm.cells = mc ∧ rm.slots = ms ∧ rm.frames + 1 ≤ R.frames ∧ 8 + (maxL + 11) + rm.locals ≤ R.locals ∧ (∀ w ∈ ws, ∀ (a' : Array Value) (U : State), s.WarmedH U.vm → w.before a' U = true) ∧ Cond.codeWith y bytes maxL ret hh ∈ ws) ∧
  (Cond.codeWith y bytes maxL ret hh).before args s = true ∧ (Cond.initialized y.cls).before args s = true ∧ (y.cls ≠ "java/lang/invoke/MethodHandle" ∧ y.cls ≠ "java/lang/invoke/VarHandle") ∧
  (∀ sig, parseMethodDescriptor y.desc = some sig → n = sig.parameters.length) ∧ (Cond.methodLink own index y).before args s = true ∧ (Cond.instanceMethod y).before args s = true ∧ (Cond.selects C y y).before args s = true
theorem vx_cwVW {own C : String} {index maxL mc ms : Nat} {y : MethodName} {bytes : ByteArray} {ret : Option FieldType} {hh : List (Nat × Nat × Nat × Nat)} {Ts ws ws' : List Cond} {rm : Room} (n : Nat) (ht : ∀ w ∈ Ts, w.before args s = true) (hT : GoodIn Ts (wsV own index C y ws)) (hw : ws = Cond.codeWith y bytes maxL ret hh :: ws') (hrc : rm.cells = mc) (hrs : rm.slots = ms)
    (hd : y.cls = C ∧ y.cls ≠ "java/lang/invoke/MethodHandle" ∧ y.cls ≠ "java/lang/invoke/VarHandle" ∧ (parseMethodDescriptor y.desc).map (fun d => d.parameters.length) = some n) (hR : rm.frames + 1 ≤ R.frames ∧ 8 + (maxL + 11) + rm.locals ≤ R.locals) :
    vx_CVW R s args own C index y bytes maxL ret hh ws rm mc ms n := by
  obtain ⟨hC, hd⟩ := hd
  subst hC
  have ok : ∀ w ∈ wsV own index y.cls y ws, w.before args s = true := fun w h => ht w (hT w h).1
  have hG : GoodIn Ts ws := fun w h => hT w (by unfold wsV; exact List.mem_append_right _ h)
  have hc : Cond.codeWith y bytes maxL ret hh ∈ ws := by rw [hw]; exact List.mem_cons_self
  refine ⟨⟨hrc, hrs, hR.1, hR.2, pay_in ht hG, hc⟩, ht _ (hG _ hc).1, ok _ (by simp [wsV]), ⟨hd.1, hd.2.1⟩, fun sig h => ?_, ok _ (by simp [wsV]), ok _ (by simp [wsV]), ok _ (by simp [wsV])⟩
  have h2 := hd.2.2
  rw [h] at h2
  exact (Option.some.inj h2).symm
theorem vx_runVW {y : MethodName} {bytes cc : ByteArray} {maxL nL mc ms n index : Nat} {ret : Option FieldType} {hh : List (Nat × Nat × Nat × Nat)} {ws : List Cond} {rm : Room} {Pc : Array Value → State → Prop} {Qc : Array Value → State → Outcome → State → Prop} {free : Addr → Prop} {Ts : List Cond} {own C : String} {b : Addr} {As rest : List Value} {g : JFrame}
    (S : CallFix p m c cc nL s args Ts own) (hM : Met l y ws rm Pc Qc mc ms free) (cw : vx_CVW R s args own C index y bytes maxL ret hh ws rm mc ms n) (hp : PreV s H C b Pc As)
    (hg : g.method = m) (hn : As.length = n) (hsize : g.locals.size = nL) (hstack : g.stack = As.reverse ++ .ref b :: rest) (hW : 2 * g.monitorRoom + (rest.map fun v => v.category).sum ≤ 8) (hdg : decode cc g.pc = .ok (.invokevirtual index, 3)) (hf : cells + mc ≤ R.cells ∧ slots + ms ≤ R.slots) :
    va_Run p l e R s m args below meth c H locs cells slots mc ms g rest (Qc (Value.ref b :: As).toArray) free := by
  obtain ⟨⟨hrc, hrs, hfr, hlo, hws, hcw⟩, hcode, hini, hy, hlen, hl, hin, hse⟩ := cw
  have hK : Back l R p e below s args y 3 8 (PreOf R mc ms Pc) (PostOf Qc mc ms free) := va_backW (hh := hh) (bytes := bytes) (maxL := maxL) (ret := ret) hM hp.1 hrc hrs hfr hlo hws hcw (fun a' U hW => word_at hW (Or.inl (by first | rfl | simp [Cond.onTables, Cond.keeps, Cond.steady])) hini)
  obtain ⟨hx, hb, hml, ho, -⟩ := S
  obtain ⟨-, ⟨cellB, hcB, hoB, hclB⟩, hPc⟩ := hp
  intro T hT X
  obtain ⟨v, vm₁, ⟨U', l2, c2, s2⟩, hW₁, X', ⟨g', mk, t, L, e1, e2, hq, h1, hL, h2, h3⟩, st⟩ := vx_callVW X hx (C := C) (hh := hh) (bytes := bytes) (maxL := maxL) (ret := ret) ho hl hin hse hcode hy hK (by rw [hT]; exact hcB) hoB hclB hg (hsize.trans hml.symm) (argsL := As) (rest := rest) (fun sig h => hn.trans (hlen sig h)) hstack hW (by rw [hb]; exact hdg)
    (fun vm₁ hW₁ => ⟨hf.1, hf.2, hPc (T.setVm vm₁) hT hW₁⟩)
  dsimp only [Pt.U, Pt.locs, Pt.cells, Pt.slots] at X' e1 e2 h1 h2 h3 st
  subst h1; subst h2; subst h3
  exact ⟨v, (T.setVm vm₁).calling g' mk (Value.ref b :: As).toArray, t, U', L, hT, X', hL, e1, e2, hq, st⟩
section
variable {y : MethodName} {bytes cc : ByteArray} {maxL nL mc ms n index : Nat} {ret : Option FieldType} {ws : List Cond} {rm : Room} {Pc : Array Value → State → Prop} {Qc : Array Value → State → Outcome → State → Prop} {XC : String → State → State → Prop} {free : Addr → Prop} {Ts : List Cond} {own C : String} {b : Addr} {As rest : List Value} {g : JFrame}
theorem vx_runVX {hh : List (Nat × Nat × Nat × Nat)} (S : CallFix p m c cc nL s args Ts own) (hM : vx_Met l y ws rm Pc Qc XC mc ms free) (cw : vx_CVW R s args own C index y bytes maxL ret hh ws rm mc ms n) (hp : PreV s H C b Pc As)
    (hg : g.method = m) (hn : As.length = n) (hsize : g.locals.size = nL) (hstack : g.stack = As.reverse ++ .ref b :: rest) (hW : 2 * g.monitorRoom + (rest.map fun v => v.category).sum ≤ 8) (hdg : decode cc g.pc = .ok (.invokevirtual index, 3)) (hf : cells + mc ≤ R.cells ∧ slots + ms ≤ R.slots) :
    vx_Run p l e R s m args below meth c H locs cells slots mc ms g rest (Qc (Value.ref b :: As).toArray) XC free := by
  obtain ⟨⟨hrc, hrs, hfr, hlo, hws, hcw⟩, hcode, hini, hy, hlen, hl, hin, hse⟩ := cw
  have hK : vx_Back l R p e below s args y 3 8 (PreOf R mc ms Pc) (PostOf Qc mc ms free) (vx_Post XC mc ms free) := vx_backW (hh := hh) (bytes := bytes) (maxL := maxL) (ret := ret) hM hp.1 hrc hrs hfr hlo hws hcw (fun a' U hW => word_at hW (Or.inl (by first | rfl | simp [Cond.onTables, Cond.keeps, Cond.steady])) hini)
  obtain ⟨hx, hb, hml, ho, -⟩ := S
  obtain ⟨-, ⟨cellB, hcB, hoB, hclB⟩, hPc⟩ := hp
  intro T hT X
  rcases vx_callVX X hx (C := C) (hh := hh) (bytes := bytes) (maxL := maxL) (ret := ret) ho hl hin hse hcode hy hK (by rw [hT]; exact hcB) hoB hclB hg (hsize.trans hml.symm) (argsL := As) (rest := rest) (fun sig h => hn.trans (hlen sig h)) hstack hW (by rw [hb]; exact hdg)
    (fun vm₁ hW₁ => ⟨hf.1, hf.2, hPc (T.setVm vm₁) hT hW₁⟩) with ⟨v, vm₁, ⟨U', l2, c2, s2⟩, hW₁, X', ⟨g', mk, t, L, e1, e2, hq, h1, hL, h2, h3⟩, st⟩ | ⟨q, vm₁, ⟨U', l2, c2, s2⟩, hW₁, X', ⟨g', mk, t, L, E, ce, e1, e2, hq, hce, hcv, hcl, h1, hL, h2, h3⟩, st⟩
  · dsimp only [Pt.U, Pt.locs, Pt.cells, Pt.slots] at X' e1 e2 h1 h2 h3 st
    subst h1; subst h2; subst h3
    exact Or.inl ⟨v, (T.setVm vm₁).calling g' mk (Value.ref b :: As).toArray, t, U', L, hT, X', hL, e1, e2, hq, st⟩
  · dsimp only [Pt.U, Pt.locs, Pt.cells, Pt.slots] at X' e1 e2 h1 h2 h3 st hcl
    subst h1; subst h2; subst h3
    exact Or.inr ⟨q, (T.setVm vm₁).calling g' mk (Value.ref b :: As).toArray, t, U', L, E, ce, hT, X', hL, e1, e2, hq, hce, hcv, vx_cls hW₁ hcl, st⟩
theorem vx_runSX {hh : List (Nat × Nat × Nat × Nat)} (S : CallFix p m c cc nL s args Ts own) (hM : vx_Met l y ws rm Pc Qc XC mc ms free) (cw : vx_CSW R s args own index y bytes maxL ret hh ws rm mc ms n) (hp : PreS s H Pc As)
    (hg : g.method = m) (hn : As.length = n) (hsize : g.locals.size = nL) (hstack : g.stack = As.reverse ++ rest) (hW : 2 * g.monitorRoom + (rest.map fun v => v.category).sum ≤ 8) (hdg : decode cc g.pc = .ok (.invokestatic index, 3)) (hf : cells + mc ≤ R.cells ∧ slots + ms ≤ R.slots) :
    vx_Run p l e R s m args below meth c H locs cells slots mc ms g rest (Qc As.toArray) XC free := by
  obtain ⟨⟨hrc, hrs, hfr, hlo, hws, hcw⟩, hcode, hini, hy, hlen, hl, hstt⟩ := cw
  have hK : vx_Back l R p e below s args y 3 8 (PreOf R mc ms Pc) (PostOf Qc mc ms free) (vx_Post XC mc ms free) := vx_backW (hh := hh) (bytes := bytes) (maxL := maxL) (ret := ret) hM hp.1 hrc hrs hfr hlo hws hcw (fun a' U hW => word_at hW (Or.inl (by first | rfl | simp [Cond.onTables, Cond.keeps, Cond.steady])) hini)
  obtain ⟨hx, hb, hml, ho, -⟩ := S
  intro T hT X
  rcases vx_callSX X hx (hh := hh) (bytes := bytes) (maxL := maxL) (ret := ret) ho hl hstt hini hcode hy hK hg (hsize.trans hml.symm) (argsL := As) (rest := rest) (fun sig h => hn.trans (hlen sig h)) hstack hW (by rw [hb]; exact hdg)
    (fun vm₁ hW₁ => ⟨hf.1, hf.2, hp.2 (T.setVm vm₁) hT hW₁⟩) with ⟨v, vm₁, ⟨U', l2, c2, s2⟩, hW₁, X', ⟨g', mk, t, L, e1, e2, hq, h1, hL, h2, h3⟩, st⟩ | ⟨q, vm₁, ⟨U', l2, c2, s2⟩, hW₁, X', ⟨g', mk, t, L, E, ce, e1, e2, hq, hce, hcv, hcl, h1, hL, h2, h3⟩, st⟩
  · dsimp only [Pt.U, Pt.locs, Pt.cells, Pt.slots] at X' e1 e2 h1 h2 h3 st
    subst h1; subst h2; subst h3
    exact Or.inl ⟨v, (T.setVm vm₁).calling g' mk As.toArray, t, U', L, hT, X', hL, e1, e2, hq, st⟩
  · dsimp only [Pt.U, Pt.locs, Pt.cells, Pt.slots] at X' e1 e2 h1 h2 h3 st hcl
    subst h1; subst h2; subst h3
    exact Or.inr ⟨q, (T.setVm vm₁).calling g' mk As.toArray, t, U', L, E, ce, hT, X', hL, e1, e2, hq, hce, hcv, vx_cls hW₁ hcl, st⟩
end
end VXH
theorem vx_ofWH {l : Launch} {y : MethodName} {ws ws' : List Cond} {rm : Room} {Pc : Array Value → State → Prop} {Qc : Array Value → State → Outcome → State → Prop} {XC : String → State → State → Prop} {mc ms : Nat} {free : Addr → Prop} {cc : ByteArray} {maxL : Nat} {ret : Option FieldType} {hh : List (Nat × Nat × Nat × Nat)}
    (hy : plainName y.cls = true) (hw : ws = Cond.codeWith y cc maxL ret hh :: ws')
    (body : ∀ p e s m args below meth c s₁, BodyLoose p l y (headSpec ws rm) cc maxL ret e s m args below meth c s₁ → c.maxLocals = maxL → Pc args s →
      W p l e (headSpec ws rm).room s m args below meth c s.heap [] 0 0 (vx_MQ below Qc XC args s mc ms free) (entryFrame m args maxL)) : vx_Met l y ws rm Pc Qc XC mc ms free := by
  refine MetFree.of_bodyS (code := cc) (maxLocals := maxL) (ret := ret) hy ?_ ?_
  · intro args s m h hn
    obtain ⟨m9, meth, c, hn9, h1, h2, h3, h4, -, h5, h6, -⟩ := Cond.codeWith_spec (atoms_spec (ws := ws) h _ (by rw [hw]; exact List.mem_cons_self))
    cases hn.symm.trans hn9
    exact ⟨meth, c, h1, h2, h3, h4, h5, h6⟩
  · intro p e s m args below meth c s₁ B hml hP _
    have hh0 : s₁.heap = s.heap := by rw [B.state]; rfl
    obtain ⟨t, a1, o, b1, b2, b3⟩ := body p e s m args below meth c s₁ B hml hP s₁ hh0 (Stand.of_body B)
    exact ⟨t, o, a1, b1, b2, b3⟩
/-! ===== END ===== -/

/-! ===== BEGIN printed: names, fields, word lists, decode rows ===== -/
def RX0 : String := "PromiseClocks$Case"
def TX0 : u_T := fun k => match k with
  | 0 => ("PromiseClocks$Case", "site", "LPromiseClocks$Site;", true)
  | 1 => ("PromiseClocks$Case", "kind", "I", true)
  | 2 => ("PromiseClocks$Case", "gravity", "I", false)
  | 3 => ("PromiseClocks$Case", "state", "I", false)
  | 4 => ("PromiseClocks$Case", "rests", "Z", false)
  | 5 => ("PromiseClocks$Case", "head", "LPromiseClocks$Case;", false)
  | 6 => ("PromiseClocks$Case", "stagesReached", "I", false)
  | _ => ("PromiseClocks$Case", "clocks", "[I", true)
def tyX0 : Nat → FieldType := fun k => match k with
  | 0 => .object "PromiseClocks$Site"
  | 1 => .int
  | 2 => .int
  | 3 => .int
  | 4 => .boolean
  | 5 => .object "PromiseClocks$Case"
  | 6 => .int
  | _ => .array .int
abbrev wsX00 : List Cond := u_ws RX0 TX0 8
theorem nmX0 : ∀ a, a < 8 → ∀ b, b < 8 → a ≠ b → (TX0 a).2.1 ≠ (TX0 b).2.1 := by decide +kernel
theorem tyX0_ok : ∀ k, k < 8 → parseFieldDescriptor (TX0 k).2.2.1 = some (tyX0 k) := by decide +kernel
abbrev cX0_init : ByteArray := prog_2_method_1_code
def yX0_init : MethodName := ⟨RX0, "<init>", "(LPromiseClocks$Site;II)V"⟩
abbrev cX0_isRunning : ByteArray := prog_2_method_2_code
def yX0_isRunning : MethodName := ⟨RX0, "isRunning", "()Z"⟩
abbrev cX0_hasReached : ByteArray := prog_2_method_3_code
def yX0_hasReached : MethodName := ⟨RX0, "hasReached", "(I)Z"⟩
abbrev cX0_isJoinedTo : ByteArray := prog_2_method_4_code
def yX0_isJoinedTo : MethodName := ⟨RX0, "isJoinedTo", "(LPromiseClocks$Case;)Z"⟩
abbrev cX0_runClocks : ByteArray := prog_2_method_5_code
def yX0_runClocks : MethodName := ⟨RX0, "runClocks", "(II)V"⟩
def RX1 : String := "PromiseClocks$Site"
def TX1 : u_T := fun k => match k with
  | 0 => ("PromiseClocks$Site", "days", "I", false)
  | 1 => ("PromiseClocks$Site", "firstHour", "I", false)
  | 2 => ("PromiseClocks$Site", "lastHour", "I", false)
  | 3 => ("PromiseClocks$Site", "contractKinds", "[I", true)
  | 4 => ("PromiseClocks$Site", "contractFrom", "[I", true)
  | 5 => ("PromiseClocks$Site", "contractTo", "[I", true)
  | 6 => ("PromiseClocks$Site", "contractCount", "I", false)
  | 7 => ("PromiseClocks$Site", "hoursAhead", "I", false)
  | _ => ("PromiseClocks$Site", "centsOwed", "I", false)
def tyX1 : Nat → FieldType := fun k => match k with
  | 0 => .int
  | 1 => .int
  | 2 => .int
  | 3 => .array .int
  | 4 => .array .int
  | 5 => .array .int
  | 6 => .int
  | 7 => .int
  | _ => .int
abbrev wsX10 : List Cond := u_ws RX1 TX1 9
theorem nmX1 : ∀ a, a < 9 → ∀ b, b < 9 → a ≠ b → (TX1 a).2.1 ≠ (TX1 b).2.1 := by decide +kernel
theorem tyX1_ok : ∀ k, k < 9 → parseFieldDescriptor (TX1 k).2.2.1 = some (tyX1 k) := by decide +kernel
abbrev cX1_init : ByteArray := prog_3_method_1_code
def yX1_init : MethodName := ⟨RX1, "<init>", "()V"⟩
abbrev cX1_keepContract : ByteArray := prog_3_method_2_code
def yX1_keepContract : MethodName := ⟨RX1, "keepContract", "(III)Z"⟩
abbrev cX1_covers : ByteArray := prog_3_method_3_code
def yX1_covers : MethodName := ⟨RX1, "covers", "(II)Z"⟩
abbrev cX1_countsDay : ByteArray := prog_3_method_4_code
def yX1_countsDay : MethodName := ⟨RX1, "countsDay", "(I)Z"⟩
abbrev cX1_counts : ByteArray := prog_3_method_5_code
def yX1_counts : MethodName := ⟨RX1, "counts", "(I)Z"⟩
abbrev cX1_countHours : ByteArray := prog_3_method_6_code
def yX1_countHours : MethodName := ⟨RX1, "countHours", "(II)I"⟩
abbrev cX1_countBefore : ByteArray := prog_3_method_7_code
def yX1_countBefore : MethodName := ⟨RX1, "countBefore", "(I)I"⟩
def RX2 : String := "PromiseClocks"
def TX2 : u_T := fun k => match k with
  | 0 => ("PromiseClocks", "sites", "[LPromiseClocks$Site;", true)
  | 1 => ("PromiseClocks", "promises", "[I", true)
  | 2 => ("PromiseClocks", "cases", "[LPromiseClocks$Case;", true)
  | 3 => ("PromiseClocks", "caseCount", "I", false)
  | _ => ("PromiseClocks", "now", "I", false)
def tyX2 : Nat → FieldType := fun k => match k with
  | 0 => .array (.object "PromiseClocks$Site")
  | 1 => .array .int
  | 2 => .array (.object "PromiseClocks$Case")
  | 3 => .int
  | _ => .int
abbrev wsX20 : List Cond := u_ws RX2 TX2 5
theorem nmX2 : ∀ a, a < 5 → ∀ b, b < 5 → a ≠ b → (TX2 a).2.1 ≠ (TX2 b).2.1 := by decide +kernel
theorem tyX2_ok : ∀ k, k < 5 → parseFieldDescriptor (TX2 k).2.2.1 = some (tyX2 k) := by decide +kernel
abbrev cX2_init : ByteArray := prog_1_method_1_code
def yX2_init : MethodName := ⟨RX2, "<init>", "()V"⟩
abbrev cX2_setCalendar : ByteArray := prog_1_method_2_code
def yX2_setCalendar : MethodName := ⟨RX2, "setCalendar", "(IIII)I"⟩
abbrev cX2_addContract : ByteArray := prog_1_method_3_code
def yX2_addContract : MethodName := ⟨RX2, "addContract", "(IIII)I"⟩
abbrev cX2_setPromise : ByteArray := prog_1_method_4_code
def yX2_setPromise : MethodName := ⟨RX2, "setPromise", "(III)I"⟩
abbrev cX2_isCovered : ByteArray := prog_1_method_5_code
def yX2_isCovered : MethodName := ⟨RX2, "isCovered", "(III)Z"⟩
abbrev cX2_nextGap : ByteArray := prog_1_method_6_code
def yX2_nextGap : MethodName := ⟨RX2, "nextGap", "(III)I"⟩
abbrev cX2_pass : ByteArray := prog_1_method_7_code
def yX2_pass : MethodName := ⟨RX2, "pass", "(I)I"⟩
abbrev cX2_time : ByteArray := prog_1_method_8_code
def yX2_time : MethodName := ⟨RX2, "time", "()I"⟩
abbrev cX2_hours : ByteArray := prog_1_method_9_code
def yX2_hours : MethodName := ⟨RX2, "hours", "(III)I"⟩
abbrev cX2_hoursOneByOne : ByteArray := prog_1_method_10_code
def yX2_hoursOneByOne : MethodName := ⟨RX2, "hoursOneByOne", "(III)I"⟩
abbrev cX2_open : ByteArray := prog_1_method_11_code
def yX2_open : MethodName := ⟨RX2, "open", "(III)I"⟩
abbrev cX2_reach : ByteArray := prog_1_method_12_code
def yX2_reach : MethodName := ⟨RX2, "reach", "(II)I"⟩
abbrev cX2_rest : ByteArray := prog_1_method_13_code
def yX2_rest : MethodName := ⟨RX2, "rest", "(IZ)Z"⟩
abbrev cX2_setGravity : ByteArray := prog_1_method_14_code
def yX2_setGravity : MethodName := ⟨RX2, "setGravity", "(II)I"⟩
abbrev cX2_join : ByteArray := prog_1_method_15_code
def yX2_join : MethodName := ⟨RX2, "join", "(II)I"⟩
abbrev cX2_openAnew : ByteArray := prog_1_method_16_code
def yX2_openAnew : MethodName := ⟨RX2, "openAnew", "(I)I"⟩
abbrev cX2_stateOf : ByteArray := prog_1_method_17_code
def yX2_stateOf : MethodName := ⟨RX2, "stateOf", "(I)I"⟩
abbrev cX2_clock : ByteArray := prog_1_method_18_code
def yX2_clock : MethodName := ⟨RX2, "clock", "(II)I"⟩
abbrev cX2_isMissed : ByteArray := prog_1_method_19_code
def yX2_isMissed : MethodName := ⟨RX2, "isMissed", "(II)Z"⟩
abbrev cX2_step : ByteArray := prog_1_method_20_code
def yX2_step : MethodName := ⟨RX2, "step", "(I)I"⟩
abbrev cX2_mostUrgent : ByteArray := prog_1_method_21_code
def yX2_mostUrgent : MethodName := ⟨RX2, "mostUrgent", "()I"⟩
abbrev cX2_buy : ByteArray := prog_1_method_22_code
def yX2_buy : MethodName := ⟨RX2, "buy", "(II)I"⟩
abbrev cX2_work : ByteArray := prog_1_method_23_code
def yX2_work : MethodName := ⟨RX2, "work", "(II)I"⟩
abbrev cX2_ahead : ByteArray := prog_1_method_24_code
def yX2_ahead : MethodName := ⟨RX2, "ahead", "(I)I"⟩
abbrev cX2_owes : ByteArray := prog_1_method_25_code
def yX2_owes : MethodName := ⟨RX2, "owes", "(I)I"⟩
abbrev cX2_siteAt : ByteArray := prog_1_method_26_code
def yX2_siteAt : MethodName := ⟨RX2, "siteAt", "(I)LPromiseClocks$Site;"⟩
abbrev cX2_caseAt : ByteArray := prog_1_method_27_code
def yX2_caseAt : MethodName := ⟨RX2, "caseAt", "(I)LPromiseClocks$Case;"⟩
abbrev cX2_checkKind : ByteArray := prog_1_method_28_code
def yX2_checkKind : MethodName := ⟨RX2, "checkKind", "(I)V"⟩
abbrev cX2_checkRange : ByteArray := prog_1_method_29_code
def yX2_checkRange : MethodName := ⟨RX2, "checkRange", "(III)V"⟩
abbrev cX2_checkArgument : ByteArray := prog_1_method_30_code
def yX2_checkArgument : MethodName := ⟨RX2, "checkArgument", "(Z)V"⟩
abbrev cX2_checkState : ByteArray := prog_1_method_31_code
def yX2_checkState : MethodName := ⟨RX2, "checkState", "(Z)V"⟩
abbrev cX2_promiseFor : ByteArray := prog_1_method_32_code
def yX2_promiseFor : MethodName := ⟨RX2, "promiseFor", "(LPromiseClocks$Case;I)I"⟩
abbrev cX2_misses : ByteArray := prog_1_method_33_code
def yX2_misses : MethodName := ⟨RX2, "misses", "(LPromiseClocks$Case;I)Z"⟩
abbrev cX2_countMissedOfReached : ByteArray := prog_1_method_34_code
def yX2_countMissedOfReached : MethodName := ⟨RX2, "countMissedOfReached", "(LPromiseClocks$Case;)I"⟩
abbrev cX2_greatestStep : ByteArray := prog_1_method_35_code
def yX2_greatestStep : MethodName := ⟨RX2, "greatestStep", "(LPromiseClocks$Case;)I"⟩
abbrev cX2_stepOfStage : ByteArray := prog_1_method_36_code
def yX2_stepOfStage : MethodName := ⟨RX2, "stepOfStage", "(LPromiseClocks$Case;I)I"⟩
abbrev cX2_isCoveredToday : ByteArray := prog_1_method_37_code
def yX2_isCoveredToday : MethodName := ⟨RX2, "isCoveredToday", "(LPromiseClocks$Case;)Z"⟩
abbrev cX2_closeMended : ByteArray := prog_1_method_38_code
def yX2_closeMended : MethodName := ⟨RX2, "closeMended", "(LPromiseClocks$Case;I)V"⟩
abbrev cX2_countJoinedTo : ByteArray := prog_1_method_39_code
def yX2_countJoinedTo : MethodName := ⟨RX2, "countJoinedTo", "(LPromiseClocks$Case;)I"⟩
def RX3 : String := "PromiseClocksModel"
def TX3 : u_T := fun k => match k with
  | 0 => ("PromiseClocksModel", "now", "I", false)
  | 1 => ("PromiseClocksModel", "days", "[I", true)
  | 2 => ("PromiseClocksModel", "first", "[I", true)
  | 3 => ("PromiseClocksModel", "last", "[I", true)
  | 4 => ("PromiseClocksModel", "covers", "[I", true)
  | 5 => ("PromiseClocksModel", "from", "[I", true)
  | 6 => ("PromiseClocksModel", "to", "[I", true)
  | 7 => ("PromiseClocksModel", "contracts", "[I", true)
  | 8 => ("PromiseClocksModel", "promise", "[I", true)
  | 9 => ("PromiseClocksModel", "siteOf", "[I", true)
  | 10 => ("PromiseClocksModel", "kindOf", "[I", true)
  | 11 => ("PromiseClocksModel", "gravity", "[I", true)
  | 12 => ("PromiseClocksModel", "state", "[I", true)
  | 13 => ("PromiseClocksModel", "head", "[I", true)
  | 14 => ("PromiseClocksModel", "rests", "[Z", true)
  | 15 => ("PromiseClocksModel", "clock", "[I", true)
  | 16 => ("PromiseClocksModel", "reached", "[Z", true)
  | 17 => ("PromiseClocksModel", "cases", "I", false)
  | 18 => ("PromiseClocksModel", "ahead", "[I", true)
  | 19 => ("PromiseClocksModel", "owes", "[I", true)
  | _ => ("PromiseClocksModel", "thrown", "I", false)
def tyX3 : Nat → FieldType := fun k => match k with
  | 0 => .int
  | 1 => .array .int
  | 2 => .array .int
  | 3 => .array .int
  | 4 => .array .int
  | 5 => .array .int
  | 6 => .array .int
  | 7 => .array .int
  | 8 => .array .int
  | 9 => .array .int
  | 10 => .array .int
  | 11 => .array .int
  | 12 => .array .int
  | 13 => .array .int
  | 14 => .array .boolean
  | 15 => .array .int
  | 16 => .array .boolean
  | 17 => .int
  | 18 => .array .int
  | 19 => .array .int
  | _ => .int
abbrev wsX30 : List Cond := u_ws RX3 TX3 21
theorem nmX3 : ∀ a, a < 21 → ∀ b, b < 21 → a ≠ b → (TX3 a).2.1 ≠ (TX3 b).2.1 := by decide +kernel
theorem tyX3_ok : ∀ k, k < 21 → parseFieldDescriptor (TX3 k).2.2.1 = some (tyX3 k) := by decide +kernel
abbrev cX3_init : ByteArray := prog_5_method_1_code
def yX3_init : MethodName := ⟨RX3, "<init>", "()V"⟩
abbrev cX3_thrown : ByteArray := prog_5_method_2_code
def yX3_thrown : MethodName := ⟨RX3, "thrown", "()I"⟩
abbrev cX3_in : ByteArray := prog_5_method_3_code
def yX3_in : MethodName := ⟨RX3, "in", "(III)Z"⟩
abbrev cX3_asked : ByteArray := prog_5_method_4_code
def yX3_asked : MethodName := ⟨RX3, "asked", "(Z)Z"⟩
abbrev cX3_asked_ : ByteArray := prog_5_method_5_code
def yX3_asked_ : MethodName := ⟨RX3, "asked", "(ZZ)Z"⟩
abbrev cX3_asked__ : ByteArray := prog_5_method_6_code
def yX3_asked__ : MethodName := ⟨RX3, "asked", "(ZZZ)Z"⟩
abbrev cX3_told : ByteArray := prog_5_method_7_code
def yX3_told : MethodName := ⟨RX3, "told", "(I)I"⟩
abbrev cX3_isSite : ByteArray := prog_5_method_8_code
def yX3_isSite : MethodName := ⟨RX3, "isSite", "(I)Z"⟩
abbrev cX3_isKind : ByteArray := prog_5_method_9_code
def yX3_isKind : MethodName := ⟨RX3, "isKind", "(I)Z"⟩
abbrev cX3_isCase : ByteArray := prog_5_method_10_code
def yX3_isCase : MethodName := ⟨RX3, "isCase", "(I)Z"⟩
abbrev cX3_setCalendar : ByteArray := prog_5_method_11_code
def yX3_setCalendar : MethodName := ⟨RX3, "setCalendar", "(IIII)I"⟩
abbrev cX3_addContract : ByteArray := prog_5_method_12_code
def yX3_addContract : MethodName := ⟨RX3, "addContract", "(IIII)I"⟩
abbrev cX3_setPromise : ByteArray := prog_5_method_13_code
def yX3_setPromise : MethodName := ⟨RX3, "setPromise", "(III)I"⟩
abbrev cX3_covered : ByteArray := prog_5_method_14_code
def yX3_covered : MethodName := ⟨RX3, "covered", "(III)Z"⟩
abbrev cX3_isCovered : ByteArray := prog_5_method_15_code
def yX3_isCovered : MethodName := ⟨RX3, "isCovered", "(III)Z"⟩
abbrev cX3_nextGap : ByteArray := prog_5_method_16_code
def yX3_nextGap : MethodName := ⟨RX3, "nextGap", "(III)I"⟩
abbrev cX3_counts : ByteArray := prog_5_method_17_code
def yX3_counts : MethodName := ⟨RX3, "counts", "(II)Z"⟩
abbrev cX3_pass : ByteArray := prog_5_method_18_code
def yX3_pass : MethodName := ⟨RX3, "pass", "(I)I"⟩
abbrev cX3_time : ByteArray := prog_5_method_19_code
def yX3_time : MethodName := ⟨RX3, "time", "()I"⟩
abbrev cX3_hours : ByteArray := prog_5_method_20_code
def yX3_hours : MethodName := ⟨RX3, "hours", "(III)I"⟩
abbrev cX3_hoursOneByOne : ByteArray := prog_5_method_21_code
def yX3_hoursOneByOne : MethodName := ⟨RX3, "hoursOneByOne", "(III)I"⟩
abbrev cX3_open : ByteArray := prog_5_method_22_code
def yX3_open : MethodName := ⟨RX3, "open", "(III)I"⟩
abbrev cX3_missed : ByteArray := prog_5_method_23_code
def yX3_missed : MethodName := ⟨RX3, "missed", "(II)Z"⟩
abbrev cX3_missedOf : ByteArray := prog_5_method_24_code
def yX3_missedOf : MethodName := ⟨RX3, "missedOf", "(I)I"⟩
abbrev cX3_reach : ByteArray := prog_5_method_25_code
def yX3_reach : MethodName := ⟨RX3, "reach", "(II)I"⟩
abbrev cX3_rest : ByteArray := prog_5_method_26_code
def yX3_rest : MethodName := ⟨RX3, "rest", "(IZ)Z"⟩
abbrev cX3_setGravity : ByteArray := prog_5_method_27_code
def yX3_setGravity : MethodName := ⟨RX3, "setGravity", "(II)I"⟩
abbrev cX3_joinedTo : ByteArray := prog_5_method_28_code
def yX3_joinedTo : MethodName := ⟨RX3, "joinedTo", "(I)I"⟩
abbrev cX3_join : ByteArray := prog_5_method_29_code
def yX3_join : MethodName := ⟨RX3, "join", "(II)I"⟩
abbrev cX3_openAnew : ByteArray := prog_5_method_30_code
def yX3_openAnew : MethodName := ⟨RX3, "openAnew", "(I)I"⟩
abbrev cX3_stateOf : ByteArray := prog_5_method_31_code
def yX3_stateOf : MethodName := ⟨RX3, "stateOf", "(I)I"⟩
abbrev cX3_isStage : ByteArray := prog_5_method_32_code
def yX3_isStage : MethodName := ⟨RX3, "isStage", "(I)Z"⟩
abbrev cX3_clock : ByteArray := prog_5_method_33_code
def yX3_clock : MethodName := ⟨RX3, "clock", "(II)I"⟩
abbrev cX3_isMissed : ByteArray := prog_5_method_34_code
def yX3_isMissed : MethodName := ⟨RX3, "isMissed", "(II)Z"⟩
abbrev cX3_stepOf : ByteArray := prog_5_method_35_code
def yX3_stepOf : MethodName := ⟨RX3, "stepOf", "(I)I"⟩
abbrev cX3_step : ByteArray := prog_5_method_36_code
def yX3_step : MethodName := ⟨RX3, "step", "(I)I"⟩
abbrev cX3_mostUrgent : ByteArray := prog_5_method_37_code
def yX3_mostUrgent : MethodName := ⟨RX3, "mostUrgent", "()I"⟩
abbrev cX3_buy : ByteArray := prog_5_method_38_code
def yX3_buy : MethodName := ⟨RX3, "buy", "(II)I"⟩
abbrev cX3_work : ByteArray := prog_5_method_39_code
def yX3_work : MethodName := ⟨RX3, "work", "(II)I"⟩
abbrev cX3_ahead : ByteArray := prog_5_method_40_code
def yX3_ahead : MethodName := ⟨RX3, "ahead", "(I)I"⟩
abbrev cX3_owes : ByteArray := prog_5_method_41_code
def yX3_owes : MethodName := ⟨RX3, "owes", "(I)I"⟩
def RJ6 : String := "java/lang/Integer"
def TJ6 : u_T := fun k => match k with
  | _ => ("", "", "", false)
def tyJ6 : Nat → FieldType := fun k => match k with
  | _ => .int
abbrev wsJ60 : List Cond := u_ws RJ6 TJ6 0
theorem nmJ6 : ∀ a, a < 0 → ∀ b, b < 0 → a ≠ b → (TJ6 a).2.1 ≠ (TJ6 b).2.1 := by decide +kernel
theorem tyJ6_ok : ∀ k, k < 0 → parseFieldDescriptor (TJ6 k).2.2.1 = some (tyJ6 k) := by decide +kernel
abbrev cJ6_bitCount_0f7a4 : ByteArray := prog_10_method_49_code
def yJ6_bitCount_0f7a4 : MethodName := ⟨RJ6, "bitCount", "(I)I"⟩
def RJ9 : String := "java/lang/Math"
def TJ9 : u_T := fun k => match k with
  | _ => ("", "", "", false)
def tyJ9 : Nat → FieldType := fun k => match k with
  | _ => .int
abbrev wsJ90 : List Cond := u_ws RJ9 TJ9 0
theorem nmJ9 : ∀ a, a < 0 → ∀ b, b < 0 → a ≠ b → (TJ9 a).2.1 ≠ (TJ9 b).2.1 := by decide +kernel
theorem tyJ9_ok : ∀ k, k < 0 → parseFieldDescriptor (TJ9 k).2.2.1 = some (tyJ9 k) := by decide +kernel
abbrev cJ9_max_7cf53 : ByteArray := prog_11_method_65_code
def yJ9_max_7cf53 : MethodName := ⟨RJ9, "max", "(II)I"⟩
abbrev cJ9_min_7cf53 : ByteArray := prog_11_method_69_code
def yJ9_min_7cf53 : MethodName := ⟨RJ9, "min", "(II)I"⟩
def RJ0 : String := "java/lang/String"
def TJ0 : u_T := fun k => match k with
  | _ => ("", "", "", false)
def tyJ0 : Nat → FieldType := fun k => match k with
  | _ => .int
abbrev wsJ00 : List Cond := u_ws RJ0 TJ0 0
theorem nmJ0 : ∀ a, a < 0 → ∀ b, b < 0 → a ≠ b → (TJ0 a).2.1 ≠ (TJ0 b).2.1 := by decide +kernel
theorem tyJ0_ok : ∀ k, k < 0 → parseFieldDescriptor (TJ0 k).2.2.1 = some (tyJ0 k) := by decide +kernel
def RL : String := "PromiseClocksLaw"
abbrev cL_setCalendar : ByteArray := method_3_code
def yL_setCalendar : MethodName := ⟨RL, "setCalendar", "(LPromiseClocks;IIII[J)I"⟩
abbrev cL_addContract : ByteArray := method_4_code
def yL_addContract : MethodName := ⟨RL, "addContract", "(LPromiseClocks;IIII[J)I"⟩
abbrev cL_setPromise : ByteArray := method_5_code
def yL_setPromise : MethodName := ⟨RL, "setPromise", "(LPromiseClocks;III[J)I"⟩
abbrev cL_isCovered : ByteArray := method_6_code
def yL_isCovered : MethodName := ⟨RL, "isCovered", "(LPromiseClocks;III[J)I"⟩
abbrev cL_nextGap : ByteArray := method_7_code
def yL_nextGap : MethodName := ⟨RL, "nextGap", "(LPromiseClocks;III[J)I"⟩
abbrev cL_pass : ByteArray := method_8_code
def yL_pass : MethodName := ⟨RL, "pass", "(LPromiseClocks;I[J)I"⟩
abbrev cL_hours : ByteArray := method_9_code
def yL_hours : MethodName := ⟨RL, "hours", "(LPromiseClocks;III[J)I"⟩
abbrev cL_hoursOneByOne : ByteArray := method_10_code
def yL_hoursOneByOne : MethodName := ⟨RL, "hoursOneByOne", "(LPromiseClocks;III[J)I"⟩
abbrev cL_open : ByteArray := method_11_code
def yL_open : MethodName := ⟨RL, "open", "(LPromiseClocks;III[J)I"⟩
abbrev cL_reach : ByteArray := method_12_code
def yL_reach : MethodName := ⟨RL, "reach", "(LPromiseClocks;II[J)I"⟩
abbrev cL_rest : ByteArray := method_13_code
def yL_rest : MethodName := ⟨RL, "rest", "(LPromiseClocks;IZ[J)I"⟩
abbrev cL_setGravity : ByteArray := method_14_code
def yL_setGravity : MethodName := ⟨RL, "setGravity", "(LPromiseClocks;II[J)I"⟩
abbrev cL_join : ByteArray := method_15_code
def yL_join : MethodName := ⟨RL, "join", "(LPromiseClocks;II[J)I"⟩
abbrev cL_openAnew : ByteArray := method_16_code
def yL_openAnew : MethodName := ⟨RL, "openAnew", "(LPromiseClocks;I[J)I"⟩
abbrev cL_stateOf : ByteArray := method_17_code
def yL_stateOf : MethodName := ⟨RL, "stateOf", "(LPromiseClocks;I[J)I"⟩
abbrev cL_clock : ByteArray := method_18_code
def yL_clock : MethodName := ⟨RL, "clock", "(LPromiseClocks;II[J)I"⟩
abbrev cL_isMissed : ByteArray := method_19_code
def yL_isMissed : MethodName := ⟨RL, "isMissed", "(LPromiseClocks;II[J)I"⟩
abbrev cL_step : ByteArray := method_20_code
def yL_step : MethodName := ⟨RL, "step", "(LPromiseClocks;I[J)I"⟩
abbrev cL_buy : ByteArray := method_21_code
def yL_buy : MethodName := ⟨RL, "buy", "(LPromiseClocks;II[J)I"⟩
abbrev cL_work : ByteArray := method_22_code
def yL_work : MethodName := ⟨RL, "work", "(LPromiseClocks;II[J)I"⟩
abbrev cL_ahead : ByteArray := method_23_code
def yL_ahead : MethodName := ⟨RL, "ahead", "(LPromiseClocks;I[J)I"⟩
abbrev cL_owes : ByteArray := method_24_code
def yL_owes : MethodName := ⟨RL, "owes", "(LPromiseClocks;I[J)I"⟩
abbrev cL_law : ByteArray := code
def yL_law : MethodName := ⟨RL, "law", "([I)Z"⟩
def wsX0_init : List Cond := .code yX0_init cX0_init 4 none :: ([.methodLink RX0 3 objectInit, .instanceMethod objectInit, .code objectInit ⟨#[0xb1]⟩ 1 none, .fieldLink RX0 9 "PromiseClocks$Case" "state" "I", .fieldLink RX0 15 "PromiseClocks$Case" "rests" "Z", .fieldLink RX0 19 "PromiseClocks$Case" "head" "LPromiseClocks$Case;", .fieldLink RX0 23 "PromiseClocks$Case" "stagesReached" "I", .arrayClass .int, .fieldLink RX0 26 "PromiseClocks$Case" "clocks" "[I", .fieldLink RX0 30 "PromiseClocks$Case" "site" "LPromiseClocks$Site;", .fieldLink RX0 34 "PromiseClocks$Case" "kind" "I", .fieldLink RX0 37 "PromiseClocks$Case" "gravity" "I"] ++ wsX00)
def wsX0_isRunning : List Cond := .code yX0_isRunning cX0_isRunning 1 (some .boolean) :: ([.fieldLink RX0 9 "PromiseClocks$Case" "state" "I", .fieldLink RX0 15 "PromiseClocks$Case" "rests" "Z"] ++ wsX00)
def wsX0_hasReached : List Cond := .code yX0_hasReached cX0_hasReached 2 (some .boolean) :: ([.fieldLink RX0 23 "PromiseClocks$Case" "stagesReached" "I"] ++ wsX00)
def wsX0_isJoinedTo : List Cond := .code yX0_isJoinedTo cX0_isJoinedTo 2 (some .boolean) :: ([.fieldLink RX0 9 "PromiseClocks$Case" "state" "I", .fieldLink RX0 19 "PromiseClocks$Case" "head" "LPromiseClocks$Case;"] ++ wsX00)
def wsJ6_bitCount_0f7a4 : List Cond := .code yJ6_bitCount_0f7a4 cJ6_bitCount_0f7a4 1 (some .int) :: ([.constant RJ6 265 (1431655765), .constant RJ6 266 (858993459), .constant RJ6 267 (252645135)])
def wsX1_countsDay : List Cond := .code yX1_countsDay cX1_countsDay 2 (some .boolean) :: ([.fieldLink RX1 9 "PromiseClocks$Site" "days" "I"] ++ wsX10)
def wsX1_countBefore : List Cond := .code yX1_countBefore cX1_countBefore 7 (some .int) :: ([.fieldLink RX1 9 "PromiseClocks$Site" "days" "I", .fieldLink RX1 18 "PromiseClocks$Site" "lastHour" "I", .fieldLink RX1 15 "PromiseClocks$Site" "firstHour" "I", .methodLink RX1 53 Lib.Math.max.name, .static Lib.Math.max.name, .initialized "java/lang/Math", .code Lib.Math.max.name Lib.Math.max.code 2 (some .int), .methodLink RX1 59 Lib.Math.min.name, .static Lib.Math.min.name, .code Lib.Math.min.name Lib.Math.min.code 2 (some .int), .methodLink RX1 48 yJ6_bitCount_0f7a4, .static yJ6_bitCount_0f7a4, .initialized RJ6, .code yJ6_bitCount_0f7a4 cJ6_bitCount_0f7a4 1 (some .int), .constant RJ6 265 (1431655765), .constant RJ6 266 (858993459), .constant RJ6 267 (252645135), .methodLink RX1 40 yX1_countsDay, .instanceMethod yX1_countsDay, .selects RX1 yX1_countsDay yX1_countsDay, .initialized RX1, .code yX1_countsDay cX1_countsDay 2 (some .boolean)] ++ wsX10)
def wsX1_countHours_r1 : List Cond := [Cond.methodLink RX1 44 yX1_countBefore, Cond.instanceMethod yX1_countBefore, Cond.selects RX1 yX1_countBefore yX1_countBefore, Cond.initialized RX1, Cond.code yX1_countBefore cX1_countBefore 7 (some .int), Cond.fieldLink RX1 9 "PromiseClocks$Site" "days" "I", Cond.fieldLink RX1 18 "PromiseClocks$Site" "lastHour" "I", Cond.fieldLink RX1 15 "PromiseClocks$Site" "firstHour" "I", Cond.methodLink RX1 53 Lib.Math.max.name, Cond.static Lib.Math.max.name, Cond.initialized "java/lang/Math", Cond.code Lib.Math.max.name Lib.Math.max.code 2 (some .int), Cond.methodLink RX1 59 Lib.Math.min.name, Cond.static Lib.Math.min.name, Cond.code Lib.Math.min.name Lib.Math.min.code 2 (some .int), Cond.methodLink RX1 48 yJ6_bitCount_0f7a4, Cond.static yJ6_bitCount_0f7a4, Cond.initialized RJ6, Cond.code yJ6_bitCount_0f7a4 cJ6_bitCount_0f7a4 1 (some .int), Cond.constant RJ6 265 (1431655765), Cond.constant RJ6 266 (858993459), Cond.constant RJ6 267 (252645135), Cond.methodLink RX1 40 yX1_countsDay, Cond.instanceMethod yX1_countsDay]
def wsX1_countHours_r2 : List Cond := [Cond.selects RX1 yX1_countsDay yX1_countsDay, Cond.code yX1_countsDay cX1_countsDay 2 (some .boolean)]
def wsX1_countHours : List Cond := .code yX1_countHours cX1_countHours 3 (some .int) :: ((wsX1_countHours_r1 ++ wsX1_countHours_r2) ++ wsX10)
def wsX0_runClocks_r1 : List Cond := [Cond.fieldLink RX0 30 "PromiseClocks$Case" "site" "LPromiseClocks$Site;", Cond.fieldLink RX0 26 "PromiseClocks$Case" "clocks" "[I", Cond.methodLink RX0 40 yX0_isRunning, Cond.instanceMethod yX0_isRunning, Cond.selects RX0 yX0_isRunning yX0_isRunning, Cond.initialized RX0, Cond.code yX0_isRunning cX0_isRunning 1 (some .boolean), Cond.fieldLink RX0 9 "PromiseClocks$Case" "state" "I", Cond.fieldLink RX0 15 "PromiseClocks$Case" "rests" "Z", Cond.methodLink RX0 44 yX1_countHours, Cond.instanceMethod yX1_countHours, Cond.selects RX1 yX1_countHours yX1_countHours, Cond.initialized RX1, Cond.code yX1_countHours cX1_countHours 3 (some .int), Cond.methodLink RX1 44 yX1_countBefore, Cond.instanceMethod yX1_countBefore, Cond.selects RX1 yX1_countBefore yX1_countBefore, Cond.code yX1_countBefore cX1_countBefore 7 (some .int), Cond.fieldLink RX1 9 "PromiseClocks$Site" "days" "I", Cond.fieldLink RX1 18 "PromiseClocks$Site" "lastHour" "I", Cond.fieldLink RX1 15 "PromiseClocks$Site" "firstHour" "I", Cond.methodLink RX1 53 Lib.Math.max.name, Cond.static Lib.Math.max.name, Cond.initialized "java/lang/Math"]
def wsX0_runClocks_r2 : List Cond := [Cond.code Lib.Math.max.name Lib.Math.max.code 2 (some .int), Cond.methodLink RX1 59 Lib.Math.min.name, Cond.static Lib.Math.min.name, Cond.code Lib.Math.min.name Lib.Math.min.code 2 (some .int), Cond.methodLink RX1 48 yJ6_bitCount_0f7a4, Cond.static yJ6_bitCount_0f7a4, Cond.initialized RJ6, Cond.code yJ6_bitCount_0f7a4 cJ6_bitCount_0f7a4 1 (some .int), Cond.constant RJ6 265 (1431655765), Cond.constant RJ6 266 (858993459), Cond.constant RJ6 267 (252645135), Cond.methodLink RX1 40 yX1_countsDay, Cond.instanceMethod yX1_countsDay, Cond.selects RX1 yX1_countsDay yX1_countsDay, Cond.code yX1_countsDay cX1_countsDay 2 (some .boolean), Cond.methodLink RX0 50 yX0_hasReached, Cond.instanceMethod yX0_hasReached, Cond.selects RX0 yX0_hasReached yX0_hasReached, Cond.code yX0_hasReached cX0_hasReached 2 (some .boolean), Cond.fieldLink RX0 23 "PromiseClocks$Case" "stagesReached" "I"]
def wsX0_runClocks : List Cond := .code yX0_runClocks cX0_runClocks 5 none :: ((wsX0_runClocks_r1 ++ wsX0_runClocks_r2) ++ wsX00 ++ wsX10)
def wsX1_init : List Cond := .code yX1_init cX1_init 1 none :: ([.methodLink RX1 3 objectInit, .instanceMethod objectInit, .code objectInit ⟨#[0xb1]⟩ 1 none, .fieldLink RX1 9 "PromiseClocks$Site" "days" "I", .fieldLink RX1 15 "PromiseClocks$Site" "firstHour" "I", .fieldLink RX1 18 "PromiseClocks$Site" "lastHour" "I", .arrayClass .int, .fieldLink RX1 21 "PromiseClocks$Site" "contractKinds" "[I", .fieldLink RX1 25 "PromiseClocks$Site" "contractFrom" "[I", .fieldLink RX1 28 "PromiseClocks$Site" "contractTo" "[I", .fieldLink RX1 31 "PromiseClocks$Site" "contractCount" "I", .fieldLink RX1 34 "PromiseClocks$Site" "hoursAhead" "I", .fieldLink RX1 37 "PromiseClocks$Site" "centsOwed" "I"] ++ wsX10)
def wsX1_keepContract : List Cond := .code yX1_keepContract cX1_keepContract 4 (some .boolean) :: ([.fieldLink RX1 31 "PromiseClocks$Site" "contractCount" "I", .fieldLink RX1 21 "PromiseClocks$Site" "contractKinds" "[I", .fieldLink RX1 25 "PromiseClocks$Site" "contractFrom" "[I", .fieldLink RX1 28 "PromiseClocks$Site" "contractTo" "[I"] ++ wsX10)
def wsX1_covers : List Cond := .code yX1_covers cX1_covers 4 (some .boolean) :: ([.fieldLink RX1 31 "PromiseClocks$Site" "contractCount" "I", .fieldLink RX1 21 "PromiseClocks$Site" "contractKinds" "[I", .fieldLink RX1 25 "PromiseClocks$Site" "contractFrom" "[I", .fieldLink RX1 28 "PromiseClocks$Site" "contractTo" "[I"] ++ wsX10)
def wsX1_counts : List Cond := .code yX1_counts cX1_counts 3 (some .boolean) :: ([.fieldLink RX1 15 "PromiseClocks$Site" "firstHour" "I", .fieldLink RX1 18 "PromiseClocks$Site" "lastHour" "I", .methodLink RX1 40 yX1_countsDay, .instanceMethod yX1_countsDay, .selects RX1 yX1_countsDay yX1_countsDay, .initialized RX1, .code yX1_countsDay cX1_countsDay 2 (some .boolean), .fieldLink RX1 9 "PromiseClocks$Site" "days" "I"] ++ wsX10)
def wsX2_init_r1 : List Cond := [Cond.methodLink RX2 1 objectInit, Cond.instanceMethod objectInit, Cond.code objectInit ⟨#[0xb1]⟩ 1 none, Cond.classLink RX2 9 RX1, Cond.fieldLink RX2 11 "PromiseClocks" "sites" "[LPromiseClocks$Site;", Cond.arrayClass .int, Cond.fieldLink RX2 15 "PromiseClocks" "promises" "[I", Cond.classLink RX2 19 RX0, Cond.fieldLink RX2 21 "PromiseClocks" "cases" "[LPromiseClocks$Case;", Cond.fieldLink RX2 25 "PromiseClocks" "caseCount" "I", Cond.fieldLink RX2 29 "PromiseClocks" "now" "I", Cond.instantiable RX1 9, Cond.initialized RX1, Cond.instanceMethod yX1_init, Cond.code yX1_init cX1_init 1 none, Cond.methodLink RX1 3 objectInit, Cond.fieldLink RX1 9 "PromiseClocks$Site" "days" "I", Cond.fieldLink RX1 15 "PromiseClocks$Site" "firstHour" "I", Cond.fieldLink RX1 18 "PromiseClocks$Site" "lastHour" "I", Cond.fieldLink RX1 21 "PromiseClocks$Site" "contractKinds" "[I", Cond.fieldLink RX1 25 "PromiseClocks$Site" "contractFrom" "[I", Cond.fieldLink RX1 28 "PromiseClocks$Site" "contractTo" "[I", Cond.fieldLink RX1 31 "PromiseClocks$Site" "contractCount" "I", Cond.fieldLink RX1 34 "PromiseClocks$Site" "hoursAhead" "I"]
def wsX2_init_r2 : List Cond := [Cond.fieldLink RX1 37 "PromiseClocks$Site" "centsOwed" "I"]
def wsX2_init : List Cond := .code yX2_init cX2_init 2 none :: ((wsX2_init_r1 ++ wsX2_init_r2) ++ wsX20 ++ wsX10)
def wsX2_siteAt : List Cond := .code yX2_siteAt cX2_siteAt 3 (some (.object "PromiseClocks$Site")) :: ([.classLink RX2 155 "java/lang/IndexOutOfBoundsException", .initialized "java/lang/IndexOutOfBoundsException", .fieldLink RX2 11 "PromiseClocks" "sites" "[LPromiseClocks$Site;"] ++ wsX20 ++ (vx_atS RX2 159 "java/lang/IndexOutOfBoundsException" ["java/lang/RuntimeException", "java/lang/Exception"]).filter goodWord)
def wsX2_checkArgument : List Cond := .code yX2_checkArgument cX2_checkArgument 1 none :: ([.classLink RX2 166 "java/lang/IllegalArgumentException", .initialized "java/lang/IllegalArgumentException"] ++ (vx_atS RX2 170 "java/lang/IllegalArgumentException" ["java/lang/RuntimeException", "java/lang/Exception"]).filter goodWord)
def wsX2_checkRange : List Cond := .code yX2_checkRange cX2_checkRange 3 none :: ([.methodLink RX2 116 yX2_checkArgument, .static yX2_checkArgument, .initialized RX2, .code yX2_checkArgument cX2_checkArgument 1 none, .classLink RX2 166 "java/lang/IllegalArgumentException", .initialized "java/lang/IllegalArgumentException"] ++ (vx_atS RX2 170 "java/lang/IllegalArgumentException" ["java/lang/RuntimeException", "java/lang/Exception"]).filter goodWord)
def wsX2_setCalendar : List Cond := .code yX2_setCalendar cX2_setCalendar 7 (some .int) :: ([.fieldLink RX2 41 "PromiseClocks$Site" "days" "I", .fieldLink RX2 44 "PromiseClocks$Site" "firstHour" "I", .fieldLink RX2 47 "PromiseClocks$Site" "lastHour" "I", .methodLink RX2 33 yX2_siteAt, .instanceMethod yX2_siteAt, .selects RX2 yX2_siteAt yX2_siteAt, .initialized RX2, .code yX2_siteAt cX2_siteAt 3 (some (.object "PromiseClocks$Site")), .classLink RX2 155 "java/lang/IndexOutOfBoundsException", .initialized "java/lang/IndexOutOfBoundsException", .fieldLink RX2 11 "PromiseClocks" "sites" "[LPromiseClocks$Site;", .methodLink RX2 37 yX2_checkRange, .static yX2_checkRange, .code yX2_checkRange cX2_checkRange 3 none, .methodLink RX2 116 yX2_checkArgument, .static yX2_checkArgument, .code yX2_checkArgument cX2_checkArgument 1 none, .classLink RX2 166 "java/lang/IllegalArgumentException", .initialized "java/lang/IllegalArgumentException"] ++ wsX10 ++ wsX20 ++ (vx_atS RX2 159 "java/lang/IndexOutOfBoundsException" ["java/lang/RuntimeException", "java/lang/Exception"]).filter goodWord ++ (vx_atS RX2 170 "java/lang/IllegalArgumentException" ["java/lang/RuntimeException", "java/lang/Exception"]).filter goodWord)
def wsX2_checkState : List Cond := .code yX2_checkState cX2_checkState 1 none :: ([.classLink RX2 171 "java/lang/IllegalStateException", .initialized "java/lang/IllegalStateException"] ++ (vx_atS RX2 175 "java/lang/IllegalStateException" ["java/lang/RuntimeException", "java/lang/Exception"]).filter goodWord)
def wsX2_addContract_r1 : List Cond := [Cond.fieldLink RX2 58 "PromiseClocks$Site" "contractCount" "I", Cond.methodLink RX2 33 yX2_siteAt, Cond.instanceMethod yX2_siteAt, Cond.selects RX2 yX2_siteAt yX2_siteAt, Cond.initialized RX2, Cond.code yX2_siteAt cX2_siteAt 3 (some (.object "PromiseClocks$Site")), Cond.classLink RX2 155 "java/lang/IndexOutOfBoundsException", Cond.initialized "java/lang/IndexOutOfBoundsException", Cond.fieldLink RX2 11 "PromiseClocks" "sites" "[LPromiseClocks$Site;", Cond.methodLink RX2 37 yX2_checkRange, Cond.static yX2_checkRange, Cond.code yX2_checkRange cX2_checkRange 3 none, Cond.methodLink RX2 116 yX2_checkArgument, Cond.static yX2_checkArgument, Cond.code yX2_checkArgument cX2_checkArgument 1 none, Cond.classLink RX2 166 "java/lang/IllegalArgumentException", Cond.initialized "java/lang/IllegalArgumentException", Cond.methodLink RX2 50 yX1_keepContract, Cond.instanceMethod yX1_keepContract, Cond.selects RX1 yX1_keepContract yX1_keepContract, Cond.initialized RX1, Cond.code yX1_keepContract cX1_keepContract 4 (some .boolean), Cond.fieldLink RX1 31 "PromiseClocks$Site" "contractCount" "I", Cond.fieldLink RX1 21 "PromiseClocks$Site" "contractKinds" "[I"]
def wsX2_addContract_r2 : List Cond := [Cond.fieldLink RX1 25 "PromiseClocks$Site" "contractFrom" "[I", Cond.fieldLink RX1 28 "PromiseClocks$Site" "contractTo" "[I", Cond.methodLink RX2 54 yX2_checkState, Cond.static yX2_checkState, Cond.code yX2_checkState cX2_checkState 1 none, Cond.classLink RX2 171 "java/lang/IllegalStateException", Cond.initialized "java/lang/IllegalStateException"]
def wsX2_addContract : List Cond := .code yX2_addContract cX2_addContract 7 (some .int) :: ((wsX2_addContract_r1 ++ wsX2_addContract_r2) ++ wsX10 ++ wsX20 ++ (vx_atS RX2 159 "java/lang/IndexOutOfBoundsException" ["java/lang/RuntimeException", "java/lang/Exception"]).filter goodWord ++ (vx_atS RX2 170 "java/lang/IllegalArgumentException" ["java/lang/RuntimeException", "java/lang/Exception"]).filter goodWord ++ (vx_atS RX2 175 "java/lang/IllegalStateException" ["java/lang/RuntimeException", "java/lang/Exception"]).filter goodWord)
def wsX2_setPromise : List Cond := .code yX2_setPromise cX2_setPromise 6 (some .int) :: ([.fieldLink RX2 15 "PromiseClocks" "promises" "[I", .methodLink RX2 37 yX2_checkRange, .static yX2_checkRange, .initialized RX2, .code yX2_checkRange cX2_checkRange 3 none, .methodLink RX2 116 yX2_checkArgument, .static yX2_checkArgument, .code yX2_checkArgument cX2_checkArgument 1 none, .classLink RX2 166 "java/lang/IllegalArgumentException", .initialized "java/lang/IllegalArgumentException"] ++ wsX20 ++ (vx_atS RX2 170 "java/lang/IllegalArgumentException" ["java/lang/RuntimeException", "java/lang/Exception"]).filter goodWord)
def wsX2_checkKind : List Cond := .code yX2_checkKind cX2_checkKind 1 none :: ([.classLink RX2 155 "java/lang/IndexOutOfBoundsException", .initialized "java/lang/IndexOutOfBoundsException"] ++ (vx_atS RX2 159 "java/lang/IndexOutOfBoundsException" ["java/lang/RuntimeException", "java/lang/Exception"]).filter goodWord)
def wsX2_isCovered_r1 : List Cond := [Cond.methodLink RX2 33 yX2_siteAt, Cond.instanceMethod yX2_siteAt, Cond.selects RX2 yX2_siteAt yX2_siteAt, Cond.initialized RX2, Cond.code yX2_siteAt cX2_siteAt 3 (some (.object "PromiseClocks$Site")), Cond.classLink RX2 155 "java/lang/IndexOutOfBoundsException", Cond.initialized "java/lang/IndexOutOfBoundsException", Cond.fieldLink RX2 11 "PromiseClocks" "sites" "[LPromiseClocks$Site;", Cond.methodLink RX2 61 yX2_checkKind, Cond.static yX2_checkKind, Cond.code yX2_checkKind cX2_checkKind 1 none, Cond.methodLink RX2 37 yX2_checkRange, Cond.static yX2_checkRange, Cond.code yX2_checkRange cX2_checkRange 3 none, Cond.methodLink RX2 116 yX2_checkArgument, Cond.static yX2_checkArgument, Cond.code yX2_checkArgument cX2_checkArgument 1 none, Cond.classLink RX2 166 "java/lang/IllegalArgumentException", Cond.initialized "java/lang/IllegalArgumentException", Cond.methodLink RX2 65 yX1_covers, Cond.instanceMethod yX1_covers, Cond.selects RX1 yX1_covers yX1_covers, Cond.initialized RX1, Cond.code yX1_covers cX1_covers 4 (some .boolean)]
def wsX2_isCovered_r2 : List Cond := [Cond.fieldLink RX1 31 "PromiseClocks$Site" "contractCount" "I", Cond.fieldLink RX1 21 "PromiseClocks$Site" "contractKinds" "[I", Cond.fieldLink RX1 25 "PromiseClocks$Site" "contractFrom" "[I", Cond.fieldLink RX1 28 "PromiseClocks$Site" "contractTo" "[I"]
def wsX2_isCovered : List Cond := .code yX2_isCovered cX2_isCovered 5 (some .boolean) :: ((wsX2_isCovered_r1 ++ wsX2_isCovered_r2) ++ wsX20 ++ wsX10 ++ (vx_atS RX2 159 "java/lang/IndexOutOfBoundsException" ["java/lang/RuntimeException", "java/lang/Exception"]).filter goodWord ++ (vx_atS RX2 170 "java/lang/IllegalArgumentException" ["java/lang/RuntimeException", "java/lang/Exception"]).filter goodWord)
def wsX2_nextGap_r1 : List Cond := [Cond.methodLink RX2 33 yX2_siteAt, Cond.instanceMethod yX2_siteAt, Cond.selects RX2 yX2_siteAt yX2_siteAt, Cond.initialized RX2, Cond.code yX2_siteAt cX2_siteAt 3 (some (.object "PromiseClocks$Site")), Cond.classLink RX2 155 "java/lang/IndexOutOfBoundsException", Cond.initialized "java/lang/IndexOutOfBoundsException", Cond.fieldLink RX2 11 "PromiseClocks" "sites" "[LPromiseClocks$Site;", Cond.methodLink RX2 61 yX2_checkKind, Cond.static yX2_checkKind, Cond.code yX2_checkKind cX2_checkKind 1 none, Cond.methodLink RX2 37 yX2_checkRange, Cond.static yX2_checkRange, Cond.code yX2_checkRange cX2_checkRange 3 none, Cond.methodLink RX2 116 yX2_checkArgument, Cond.static yX2_checkArgument, Cond.code yX2_checkArgument cX2_checkArgument 1 none, Cond.classLink RX2 166 "java/lang/IllegalArgumentException", Cond.initialized "java/lang/IllegalArgumentException", Cond.methodLink RX2 65 yX1_covers, Cond.instanceMethod yX1_covers, Cond.selects RX1 yX1_covers yX1_covers, Cond.initialized RX1, Cond.code yX1_covers cX1_covers 4 (some .boolean)]
def wsX2_nextGap_r2 : List Cond := [Cond.fieldLink RX1 31 "PromiseClocks$Site" "contractCount" "I", Cond.fieldLink RX1 21 "PromiseClocks$Site" "contractKinds" "[I", Cond.fieldLink RX1 25 "PromiseClocks$Site" "contractFrom" "[I", Cond.fieldLink RX1 28 "PromiseClocks$Site" "contractTo" "[I"]
def wsX2_nextGap : List Cond := .code yX2_nextGap cX2_nextGap 6 (some .int) :: ((wsX2_nextGap_r1 ++ wsX2_nextGap_r2) ++ wsX20 ++ wsX10 ++ (vx_atS RX2 159 "java/lang/IndexOutOfBoundsException" ["java/lang/RuntimeException", "java/lang/Exception"]).filter goodWord ++ (vx_atS RX2 170 "java/lang/IllegalArgumentException" ["java/lang/RuntimeException", "java/lang/Exception"]).filter goodWord)
def wsX2_pass_r1 : List Cond := [Cond.fieldLink RX2 29 "PromiseClocks" "now" "I", Cond.fieldLink RX2 21 "PromiseClocks" "cases" "[LPromiseClocks$Case;", Cond.methodLink RX2 37 yX2_checkRange, Cond.static yX2_checkRange, Cond.initialized RX2, Cond.code yX2_checkRange cX2_checkRange 3 none, Cond.methodLink RX2 116 yX2_checkArgument, Cond.static yX2_checkArgument, Cond.code yX2_checkArgument cX2_checkArgument 1 none, Cond.classLink RX2 166 "java/lang/IllegalArgumentException", Cond.initialized "java/lang/IllegalArgumentException", Cond.methodLink RX2 54 yX2_checkState, Cond.static yX2_checkState, Cond.code yX2_checkState cX2_checkState 1 none, Cond.classLink RX2 171 "java/lang/IllegalStateException", Cond.initialized "java/lang/IllegalStateException", Cond.methodLink RX2 69 yX0_runClocks, Cond.instanceMethod yX0_runClocks, Cond.selects RX0 yX0_runClocks yX0_runClocks, Cond.initialized RX0, Cond.code yX0_runClocks cX0_runClocks 5 none, Cond.fieldLink RX0 30 "PromiseClocks$Case" "site" "LPromiseClocks$Site;", Cond.fieldLink RX0 26 "PromiseClocks$Case" "clocks" "[I", Cond.methodLink RX0 40 yX0_isRunning]
def wsX2_pass_r2 : List Cond := [Cond.instanceMethod yX0_isRunning, Cond.selects RX0 yX0_isRunning yX0_isRunning, Cond.code yX0_isRunning cX0_isRunning 1 (some .boolean), Cond.fieldLink RX0 9 "PromiseClocks$Case" "state" "I", Cond.fieldLink RX0 15 "PromiseClocks$Case" "rests" "Z", Cond.methodLink RX0 44 yX1_countHours, Cond.instanceMethod yX1_countHours, Cond.selects RX1 yX1_countHours yX1_countHours, Cond.initialized RX1, Cond.code yX1_countHours cX1_countHours 3 (some .int), Cond.methodLink RX1 44 yX1_countBefore, Cond.instanceMethod yX1_countBefore, Cond.selects RX1 yX1_countBefore yX1_countBefore, Cond.code yX1_countBefore cX1_countBefore 7 (some .int), Cond.fieldLink RX1 9 "PromiseClocks$Site" "days" "I", Cond.fieldLink RX1 18 "PromiseClocks$Site" "lastHour" "I", Cond.fieldLink RX1 15 "PromiseClocks$Site" "firstHour" "I", Cond.methodLink RX1 53 Lib.Math.max.name, Cond.static Lib.Math.max.name, Cond.initialized "java/lang/Math", Cond.code Lib.Math.max.name Lib.Math.max.code 2 (some .int), Cond.methodLink RX1 59 Lib.Math.min.name, Cond.static Lib.Math.min.name, Cond.code Lib.Math.min.name Lib.Math.min.code 2 (some .int)]
def wsX2_pass_r3 : List Cond := [Cond.methodLink RX1 48 yJ6_bitCount_0f7a4, Cond.static yJ6_bitCount_0f7a4, Cond.initialized RJ6, Cond.code yJ6_bitCount_0f7a4 cJ6_bitCount_0f7a4 1 (some .int), Cond.constant RJ6 265 (1431655765), Cond.constant RJ6 266 (858993459), Cond.constant RJ6 267 (252645135), Cond.methodLink RX1 40 yX1_countsDay, Cond.instanceMethod yX1_countsDay, Cond.selects RX1 yX1_countsDay yX1_countsDay, Cond.code yX1_countsDay cX1_countsDay 2 (some .boolean), Cond.methodLink RX0 50 yX0_hasReached, Cond.instanceMethod yX0_hasReached, Cond.selects RX0 yX0_hasReached yX0_hasReached, Cond.code yX0_hasReached cX0_hasReached 2 (some .boolean), Cond.fieldLink RX0 23 "PromiseClocks$Case" "stagesReached" "I"]
def wsX2_pass : List Cond := .code yX2_pass cX2_pass 6 (some .int) :: ((wsX2_pass_r1 ++ (wsX2_pass_r2 ++ wsX2_pass_r3)) ++ wsX20 ++ wsX00 ++ wsX10 ++ (vx_atS RX2 170 "java/lang/IllegalArgumentException" ["java/lang/RuntimeException", "java/lang/Exception"]).filter goodWord ++ (vx_atS RX2 175 "java/lang/IllegalStateException" ["java/lang/RuntimeException", "java/lang/Exception"]).filter goodWord)
def wsX2_time : List Cond := .code yX2_time cX2_time 1 (some .int) :: ([.fieldLink RX2 29 "PromiseClocks" "now" "I"] ++ wsX20)
def wsX2_hours_r1 : List Cond := [Cond.methodLink RX2 33 yX2_siteAt, Cond.instanceMethod yX2_siteAt, Cond.selects RX2 yX2_siteAt yX2_siteAt, Cond.initialized RX2, Cond.code yX2_siteAt cX2_siteAt 3 (some (.object "PromiseClocks$Site")), Cond.classLink RX2 155 "java/lang/IndexOutOfBoundsException", Cond.initialized "java/lang/IndexOutOfBoundsException", Cond.fieldLink RX2 11 "PromiseClocks" "sites" "[LPromiseClocks$Site;", Cond.methodLink RX2 37 yX2_checkRange, Cond.static yX2_checkRange, Cond.code yX2_checkRange cX2_checkRange 3 none, Cond.methodLink RX2 116 yX2_checkArgument, Cond.static yX2_checkArgument, Cond.code yX2_checkArgument cX2_checkArgument 1 none, Cond.classLink RX2 166 "java/lang/IllegalArgumentException", Cond.initialized "java/lang/IllegalArgumentException", Cond.methodLink RX2 73 yX1_countHours, Cond.instanceMethod yX1_countHours, Cond.selects RX1 yX1_countHours yX1_countHours, Cond.initialized RX1, Cond.code yX1_countHours cX1_countHours 3 (some .int), Cond.methodLink RX1 44 yX1_countBefore, Cond.instanceMethod yX1_countBefore, Cond.selects RX1 yX1_countBefore yX1_countBefore]
def wsX2_hours_r2 : List Cond := [Cond.code yX1_countBefore cX1_countBefore 7 (some .int), Cond.fieldLink RX1 9 "PromiseClocks$Site" "days" "I", Cond.fieldLink RX1 18 "PromiseClocks$Site" "lastHour" "I", Cond.fieldLink RX1 15 "PromiseClocks$Site" "firstHour" "I", Cond.methodLink RX1 53 Lib.Math.max.name, Cond.static Lib.Math.max.name, Cond.initialized "java/lang/Math", Cond.code Lib.Math.max.name Lib.Math.max.code 2 (some .int), Cond.methodLink RX1 59 Lib.Math.min.name, Cond.static Lib.Math.min.name, Cond.code Lib.Math.min.name Lib.Math.min.code 2 (some .int), Cond.methodLink RX1 48 yJ6_bitCount_0f7a4, Cond.static yJ6_bitCount_0f7a4, Cond.initialized RJ6, Cond.code yJ6_bitCount_0f7a4 cJ6_bitCount_0f7a4 1 (some .int), Cond.constant RJ6 265 (1431655765), Cond.constant RJ6 266 (858993459), Cond.constant RJ6 267 (252645135), Cond.methodLink RX1 40 yX1_countsDay, Cond.instanceMethod yX1_countsDay, Cond.selects RX1 yX1_countsDay yX1_countsDay, Cond.code yX1_countsDay cX1_countsDay 2 (some .boolean)]
def wsX2_hours : List Cond := .code yX2_hours cX2_hours 5 (some .int) :: ((wsX2_hours_r1 ++ wsX2_hours_r2) ++ wsX20 ++ wsX10 ++ (vx_atS RX2 159 "java/lang/IndexOutOfBoundsException" ["java/lang/RuntimeException", "java/lang/Exception"]).filter goodWord ++ (vx_atS RX2 170 "java/lang/IllegalArgumentException" ["java/lang/RuntimeException", "java/lang/Exception"]).filter goodWord)
def wsX2_hoursOneByOne_r1 : List Cond := [Cond.methodLink RX2 33 yX2_siteAt, Cond.instanceMethod yX2_siteAt, Cond.selects RX2 yX2_siteAt yX2_siteAt, Cond.initialized RX2, Cond.code yX2_siteAt cX2_siteAt 3 (some (.object "PromiseClocks$Site")), Cond.classLink RX2 155 "java/lang/IndexOutOfBoundsException", Cond.initialized "java/lang/IndexOutOfBoundsException", Cond.fieldLink RX2 11 "PromiseClocks" "sites" "[LPromiseClocks$Site;", Cond.methodLink RX2 37 yX2_checkRange, Cond.static yX2_checkRange, Cond.code yX2_checkRange cX2_checkRange 3 none, Cond.methodLink RX2 116 yX2_checkArgument, Cond.static yX2_checkArgument, Cond.code yX2_checkArgument cX2_checkArgument 1 none, Cond.classLink RX2 166 "java/lang/IllegalArgumentException", Cond.initialized "java/lang/IllegalArgumentException", Cond.methodLink RX2 77 yX1_counts, Cond.instanceMethod yX1_counts, Cond.selects RX1 yX1_counts yX1_counts, Cond.initialized RX1, Cond.code yX1_counts cX1_counts 3 (some .boolean), Cond.fieldLink RX1 15 "PromiseClocks$Site" "firstHour" "I", Cond.fieldLink RX1 18 "PromiseClocks$Site" "lastHour" "I", Cond.methodLink RX1 40 yX1_countsDay]
def wsX2_hoursOneByOne_r2 : List Cond := [Cond.instanceMethod yX1_countsDay, Cond.selects RX1 yX1_countsDay yX1_countsDay, Cond.code yX1_countsDay cX1_countsDay 2 (some .boolean), Cond.fieldLink RX1 9 "PromiseClocks$Site" "days" "I"]
def wsX2_hoursOneByOne : List Cond := .code yX2_hoursOneByOne cX2_hoursOneByOne 7 (some .int) :: ((wsX2_hoursOneByOne_r1 ++ wsX2_hoursOneByOne_r2) ++ wsX20 ++ wsX10 ++ (vx_atS RX2 159 "java/lang/IndexOutOfBoundsException" ["java/lang/RuntimeException", "java/lang/Exception"]).filter goodWord ++ (vx_atS RX2 170 "java/lang/IllegalArgumentException" ["java/lang/RuntimeException", "java/lang/Exception"]).filter goodWord)
def wsX2_open_r1 : List Cond := [Cond.fieldLink RX2 25 "PromiseClocks" "caseCount" "I", Cond.fieldLink RX2 21 "PromiseClocks" "cases" "[LPromiseClocks$Case;", Cond.classLink RX2 19 RX0, Cond.instantiable RX0 8, Cond.initialized RX0, Cond.methodLink RX2 33 yX2_siteAt, Cond.instanceMethod yX2_siteAt, Cond.selects RX2 yX2_siteAt yX2_siteAt, Cond.initialized RX2, Cond.code yX2_siteAt cX2_siteAt 3 (some (.object "PromiseClocks$Site")), Cond.classLink RX2 155 "java/lang/IndexOutOfBoundsException", Cond.initialized "java/lang/IndexOutOfBoundsException", Cond.fieldLink RX2 11 "PromiseClocks" "sites" "[LPromiseClocks$Site;", Cond.methodLink RX2 61 yX2_checkKind, Cond.static yX2_checkKind, Cond.code yX2_checkKind cX2_checkKind 1 none, Cond.methodLink RX2 37 yX2_checkRange, Cond.static yX2_checkRange, Cond.code yX2_checkRange cX2_checkRange 3 none, Cond.methodLink RX2 116 yX2_checkArgument, Cond.static yX2_checkArgument, Cond.code yX2_checkArgument cX2_checkArgument 1 none, Cond.classLink RX2 166 "java/lang/IllegalArgumentException", Cond.initialized "java/lang/IllegalArgumentException"]
def wsX2_open_r2 : List Cond := [Cond.methodLink RX2 54 yX2_checkState, Cond.static yX2_checkState, Cond.code yX2_checkState cX2_checkState 1 none, Cond.classLink RX2 171 "java/lang/IllegalStateException", Cond.initialized "java/lang/IllegalStateException", Cond.methodLink RX2 81 yX0_init, Cond.instanceMethod yX0_init, Cond.code yX0_init cX0_init 4 none, Cond.methodLink RX0 3 objectInit, Cond.instanceMethod objectInit, Cond.code objectInit ⟨#[0xb1]⟩ 1 none, Cond.fieldLink RX0 9 "PromiseClocks$Case" "state" "I", Cond.fieldLink RX0 15 "PromiseClocks$Case" "rests" "Z", Cond.fieldLink RX0 19 "PromiseClocks$Case" "head" "LPromiseClocks$Case;", Cond.fieldLink RX0 23 "PromiseClocks$Case" "stagesReached" "I", Cond.arrayClass .int, Cond.fieldLink RX0 26 "PromiseClocks$Case" "clocks" "[I", Cond.fieldLink RX0 30 "PromiseClocks$Case" "site" "LPromiseClocks$Site;", Cond.fieldLink RX0 34 "PromiseClocks$Case" "kind" "I", Cond.fieldLink RX0 37 "PromiseClocks$Case" "gravity" "I"]
def wsX2_open : List Cond := .code yX2_open cX2_open 6 (some .int) :: ((wsX2_open_r1 ++ wsX2_open_r2) ++ wsX20 ++ wsX00 ++ (vx_atS RX2 159 "java/lang/IndexOutOfBoundsException" ["java/lang/RuntimeException", "java/lang/Exception"]).filter goodWord ++ (vx_atS RX2 170 "java/lang/IllegalArgumentException" ["java/lang/RuntimeException", "java/lang/Exception"]).filter goodWord ++ (vx_atS RX2 175 "java/lang/IllegalStateException" ["java/lang/RuntimeException", "java/lang/Exception"]).filter goodWord)
def wsX2_caseAt : List Cond := .code yX2_caseAt cX2_caseAt 3 (some (.object "PromiseClocks$Case")) :: ([.classLink RX2 155 "java/lang/IndexOutOfBoundsException", .initialized "java/lang/IndexOutOfBoundsException", .fieldLink RX2 21 "PromiseClocks" "cases" "[LPromiseClocks$Case;"] ++ wsX20 ++ (vx_atS RX2 159 "java/lang/IndexOutOfBoundsException" ["java/lang/RuntimeException", "java/lang/Exception"]).filter goodWord)
def wsX2_promiseFor : List Cond := .code yX2_promiseFor cX2_promiseFor 3 (some .int) :: ([.fieldLink RX2 15 "PromiseClocks" "promises" "[I", .fieldLink RX2 109 "PromiseClocks$Case" "gravity" "I"] ++ wsX20 ++ wsX00)
def wsX2_misses : List Cond := .code yX2_misses cX2_misses 3 (some .boolean) :: ([.fieldLink RX2 131 "PromiseClocks$Case" "clocks" "[I", .methodLink RX2 176 yX2_promiseFor, .instanceMethod yX2_promiseFor, .selects RX2 yX2_promiseFor yX2_promiseFor, .initialized RX2, .code yX2_promiseFor cX2_promiseFor 3 (some .int), .fieldLink RX2 15 "PromiseClocks" "promises" "[I", .fieldLink RX2 109 "PromiseClocks$Case" "gravity" "I"] ++ wsX00 ++ wsX20)
def wsX2_countMissedOfReached : List Cond := .code yX2_countMissedOfReached cX2_countMissedOfReached 4 (some .int) :: ([.methodLink RX2 91 yX0_hasReached, .instanceMethod yX0_hasReached, .selects RX0 yX0_hasReached yX0_hasReached, .initialized RX0, .code yX0_hasReached cX0_hasReached 2 (some .boolean), .fieldLink RX0 23 "PromiseClocks$Case" "stagesReached" "I", .methodLink RX2 134 yX2_misses, .instanceMethod yX2_misses, .selects RX2 yX2_misses yX2_misses, .initialized RX2, .code yX2_misses cX2_misses 3 (some .boolean), .fieldLink RX2 131 "PromiseClocks$Case" "clocks" "[I", .methodLink RX2 176 yX2_promiseFor, .instanceMethod yX2_promiseFor, .selects RX2 yX2_promiseFor yX2_promiseFor, .code yX2_promiseFor cX2_promiseFor 3 (some .int), .fieldLink RX2 15 "PromiseClocks" "promises" "[I", .fieldLink RX2 109 "PromiseClocks$Case" "gravity" "I"] ++ wsX00 ++ wsX20)
def wsX2_isCoveredToday : List Cond := .code yX2_isCoveredToday cX2_isCoveredToday 2 (some .boolean) :: ([.fieldLink RX2 112 "PromiseClocks$Case" "site" "LPromiseClocks$Site;", .fieldLink RX2 186 "PromiseClocks$Case" "kind" "I", .fieldLink RX2 29 "PromiseClocks" "now" "I", .methodLink RX2 65 yX1_covers, .instanceMethod yX1_covers, .selects RX1 yX1_covers yX1_covers, .initialized RX1, .code yX1_covers cX1_covers 4 (some .boolean), .fieldLink RX1 31 "PromiseClocks$Site" "contractCount" "I", .fieldLink RX1 21 "PromiseClocks$Site" "contractKinds" "[I", .fieldLink RX1 25 "PromiseClocks$Site" "contractFrom" "[I", .fieldLink RX1 28 "PromiseClocks$Site" "contractTo" "[I"] ++ wsX00 ++ wsX20 ++ wsX10)
def wsX2_closeMended_r1 : List Cond := [Cond.fieldLink RX2 88 "PromiseClocks$Case" "state" "I", Cond.fieldLink RX2 21 "PromiseClocks" "cases" "[LPromiseClocks$Case;", Cond.fieldLink RX2 112 "PromiseClocks$Case" "site" "LPromiseClocks$Site;", Cond.fieldLink RX2 148 "PromiseClocks$Site" "centsOwed" "I", Cond.methodLink RX2 189 yX0_isJoinedTo, Cond.instanceMethod yX0_isJoinedTo, Cond.selects RX0 yX0_isJoinedTo yX0_isJoinedTo, Cond.initialized RX0, Cond.code yX0_isJoinedTo cX0_isJoinedTo 2 (some .boolean), Cond.fieldLink RX0 9 "PromiseClocks$Case" "state" "I", Cond.fieldLink RX0 19 "PromiseClocks$Case" "head" "LPromiseClocks$Case;", Cond.methodLink RX2 151 yX2_isCoveredToday, Cond.instanceMethod yX2_isCoveredToday, Cond.selects RX2 yX2_isCoveredToday yX2_isCoveredToday, Cond.initialized RX2, Cond.code yX2_isCoveredToday cX2_isCoveredToday 2 (some .boolean), Cond.fieldLink RX2 186 "PromiseClocks$Case" "kind" "I", Cond.fieldLink RX2 29 "PromiseClocks" "now" "I", Cond.methodLink RX2 65 yX1_covers, Cond.instanceMethod yX1_covers, Cond.selects RX1 yX1_covers yX1_covers, Cond.initialized RX1, Cond.code yX1_covers cX1_covers 4 (some .boolean), Cond.fieldLink RX1 31 "PromiseClocks$Site" "contractCount" "I"]
def wsX2_closeMended_r2 : List Cond := [Cond.fieldLink RX1 21 "PromiseClocks$Site" "contractKinds" "[I", Cond.fieldLink RX1 25 "PromiseClocks$Site" "contractFrom" "[I", Cond.fieldLink RX1 28 "PromiseClocks$Site" "contractTo" "[I"]
def wsX2_closeMended : List Cond := .code yX2_closeMended cX2_closeMended 7 none :: ((wsX2_closeMended_r1 ++ wsX2_closeMended_r2) ++ wsX00 ++ wsX20 ++ wsX10)
def wsX2_reach_r1 : List Cond := [Cond.fieldLink RX2 88 "PromiseClocks$Case" "state" "I", Cond.fieldLink RX2 94 "PromiseClocks$Case" "stagesReached" "I", Cond.methodLink RX2 84 yX2_caseAt, Cond.instanceMethod yX2_caseAt, Cond.selects RX2 yX2_caseAt yX2_caseAt, Cond.initialized RX2, Cond.code yX2_caseAt cX2_caseAt 3 (some (.object "PromiseClocks$Case")), Cond.classLink RX2 155 "java/lang/IndexOutOfBoundsException", Cond.initialized "java/lang/IndexOutOfBoundsException", Cond.fieldLink RX2 21 "PromiseClocks" "cases" "[LPromiseClocks$Case;", Cond.methodLink RX2 37 yX2_checkRange, Cond.static yX2_checkRange, Cond.code yX2_checkRange cX2_checkRange 3 none, Cond.methodLink RX2 116 yX2_checkArgument, Cond.static yX2_checkArgument, Cond.code yX2_checkArgument cX2_checkArgument 1 none, Cond.classLink RX2 166 "java/lang/IllegalArgumentException", Cond.initialized "java/lang/IllegalArgumentException", Cond.methodLink RX2 91 yX0_hasReached, Cond.instanceMethod yX0_hasReached, Cond.selects RX0 yX0_hasReached yX0_hasReached, Cond.initialized RX0, Cond.code yX0_hasReached cX0_hasReached 2 (some .boolean), Cond.fieldLink RX0 23 "PromiseClocks$Case" "stagesReached" "I"]
def wsX2_reach_r2 : List Cond := [Cond.methodLink RX2 54 yX2_checkState, Cond.static yX2_checkState, Cond.code yX2_checkState cX2_checkState 1 none, Cond.classLink RX2 171 "java/lang/IllegalStateException", Cond.initialized "java/lang/IllegalStateException", Cond.methodLink RX2 97 yX2_countMissedOfReached, Cond.instanceMethod yX2_countMissedOfReached, Cond.selects RX2 yX2_countMissedOfReached yX2_countMissedOfReached, Cond.code yX2_countMissedOfReached cX2_countMissedOfReached 4 (some .int), Cond.methodLink RX2 134 yX2_misses, Cond.instanceMethod yX2_misses, Cond.selects RX2 yX2_misses yX2_misses, Cond.code yX2_misses cX2_misses 3 (some .boolean), Cond.fieldLink RX2 131 "PromiseClocks$Case" "clocks" "[I", Cond.methodLink RX2 176 yX2_promiseFor, Cond.instanceMethod yX2_promiseFor, Cond.selects RX2 yX2_promiseFor yX2_promiseFor, Cond.code yX2_promiseFor cX2_promiseFor 3 (some .int), Cond.fieldLink RX2 15 "PromiseClocks" "promises" "[I", Cond.fieldLink RX2 109 "PromiseClocks$Case" "gravity" "I", Cond.methodLink RX2 101 yX2_closeMended, Cond.instanceMethod yX2_closeMended, Cond.selects RX2 yX2_closeMended yX2_closeMended, Cond.code yX2_closeMended cX2_closeMended 7 none]
def wsX2_reach_r3 : List Cond := [Cond.fieldLink RX2 112 "PromiseClocks$Case" "site" "LPromiseClocks$Site;", Cond.fieldLink RX2 148 "PromiseClocks$Site" "centsOwed" "I", Cond.methodLink RX2 189 yX0_isJoinedTo, Cond.instanceMethod yX0_isJoinedTo, Cond.selects RX0 yX0_isJoinedTo yX0_isJoinedTo, Cond.code yX0_isJoinedTo cX0_isJoinedTo 2 (some .boolean), Cond.fieldLink RX0 9 "PromiseClocks$Case" "state" "I", Cond.fieldLink RX0 19 "PromiseClocks$Case" "head" "LPromiseClocks$Case;", Cond.methodLink RX2 151 yX2_isCoveredToday, Cond.instanceMethod yX2_isCoveredToday, Cond.selects RX2 yX2_isCoveredToday yX2_isCoveredToday, Cond.code yX2_isCoveredToday cX2_isCoveredToday 2 (some .boolean), Cond.fieldLink RX2 186 "PromiseClocks$Case" "kind" "I", Cond.fieldLink RX2 29 "PromiseClocks" "now" "I", Cond.methodLink RX2 65 yX1_covers, Cond.instanceMethod yX1_covers, Cond.selects RX1 yX1_covers yX1_covers, Cond.initialized RX1, Cond.code yX1_covers cX1_covers 4 (some .boolean), Cond.fieldLink RX1 31 "PromiseClocks$Site" "contractCount" "I", Cond.fieldLink RX1 21 "PromiseClocks$Site" "contractKinds" "[I", Cond.fieldLink RX1 25 "PromiseClocks$Site" "contractFrom" "[I", Cond.fieldLink RX1 28 "PromiseClocks$Site" "contractTo" "[I"]
def wsX2_reach : List Cond := .code yX2_reach cX2_reach 5 (some .int) :: ((wsX2_reach_r1 ++ (wsX2_reach_r2 ++ wsX2_reach_r3)) ++ wsX00 ++ wsX20 ++ wsX10 ++ (vx_atS RX2 159 "java/lang/IndexOutOfBoundsException" ["java/lang/RuntimeException", "java/lang/Exception"]).filter goodWord ++ (vx_atS RX2 170 "java/lang/IllegalArgumentException" ["java/lang/RuntimeException", "java/lang/Exception"]).filter goodWord ++ (vx_atS RX2 175 "java/lang/IllegalStateException" ["java/lang/RuntimeException", "java/lang/Exception"]).filter goodWord)
def wsX2_rest : List Cond := .code yX2_rest cX2_rest 5 (some .boolean) :: ([.fieldLink RX2 88 "PromiseClocks$Case" "state" "I", .fieldLink RX2 105 "PromiseClocks$Case" "rests" "Z", .methodLink RX2 84 yX2_caseAt, .instanceMethod yX2_caseAt, .selects RX2 yX2_caseAt yX2_caseAt, .initialized RX2, .code yX2_caseAt cX2_caseAt 3 (some (.object "PromiseClocks$Case")), .classLink RX2 155 "java/lang/IndexOutOfBoundsException", .initialized "java/lang/IndexOutOfBoundsException", .fieldLink RX2 21 "PromiseClocks" "cases" "[LPromiseClocks$Case;", .methodLink RX2 54 yX2_checkState, .static yX2_checkState, .code yX2_checkState cX2_checkState 1 none, .classLink RX2 171 "java/lang/IllegalStateException", .initialized "java/lang/IllegalStateException"] ++ wsX00 ++ wsX20 ++ (vx_atS RX2 159 "java/lang/IndexOutOfBoundsException" ["java/lang/RuntimeException", "java/lang/Exception"]).filter goodWord ++ (vx_atS RX2 175 "java/lang/IllegalStateException" ["java/lang/RuntimeException", "java/lang/Exception"]).filter goodWord)
def wsX2_setGravity : List Cond := .code yX2_setGravity cX2_setGravity 5 (some .int) :: ([.fieldLink RX2 88 "PromiseClocks$Case" "state" "I", .fieldLink RX2 109 "PromiseClocks$Case" "gravity" "I", .methodLink RX2 84 yX2_caseAt, .instanceMethod yX2_caseAt, .selects RX2 yX2_caseAt yX2_caseAt, .initialized RX2, .code yX2_caseAt cX2_caseAt 3 (some (.object "PromiseClocks$Case")), .classLink RX2 155 "java/lang/IndexOutOfBoundsException", .initialized "java/lang/IndexOutOfBoundsException", .fieldLink RX2 21 "PromiseClocks" "cases" "[LPromiseClocks$Case;", .methodLink RX2 37 yX2_checkRange, .static yX2_checkRange, .code yX2_checkRange cX2_checkRange 3 none, .methodLink RX2 116 yX2_checkArgument, .static yX2_checkArgument, .code yX2_checkArgument cX2_checkArgument 1 none, .classLink RX2 166 "java/lang/IllegalArgumentException", .initialized "java/lang/IllegalArgumentException", .methodLink RX2 54 yX2_checkState, .static yX2_checkState, .code yX2_checkState cX2_checkState 1 none, .classLink RX2 171 "java/lang/IllegalStateException", .initialized "java/lang/IllegalStateException"] ++ wsX00 ++ wsX20 ++ (vx_atS RX2 159 "java/lang/IndexOutOfBoundsException" ["java/lang/RuntimeException", "java/lang/Exception"]).filter goodWord ++ (vx_atS RX2 170 "java/lang/IllegalArgumentException" ["java/lang/RuntimeException", "java/lang/Exception"]).filter goodWord ++ (vx_atS RX2 175 "java/lang/IllegalStateException" ["java/lang/RuntimeException", "java/lang/Exception"]).filter goodWord)
def wsX2_countJoinedTo : List Cond := .code yX2_countJoinedTo cX2_countJoinedTo 7 (some .int) :: ([.fieldLink RX2 21 "PromiseClocks" "cases" "[LPromiseClocks$Case;", .methodLink RX2 189 yX0_isJoinedTo, .instanceMethod yX0_isJoinedTo, .selects RX0 yX0_isJoinedTo yX0_isJoinedTo, .initialized RX0, .code yX0_isJoinedTo cX0_isJoinedTo 2 (some .boolean), .fieldLink RX0 9 "PromiseClocks$Case" "state" "I", .fieldLink RX0 19 "PromiseClocks$Case" "head" "LPromiseClocks$Case;"] ++ wsX20 ++ wsX00)
def wsX2_join_r1 : List Cond := [Cond.fieldLink RX2 112 "PromiseClocks$Case" "site" "LPromiseClocks$Site;", Cond.fieldLink RX2 88 "PromiseClocks$Case" "state" "I", Cond.fieldLink RX2 122 "PromiseClocks$Case" "head" "LPromiseClocks$Case;", Cond.methodLink RX2 84 yX2_caseAt, Cond.instanceMethod yX2_caseAt, Cond.selects RX2 yX2_caseAt yX2_caseAt, Cond.initialized RX2, Cond.code yX2_caseAt cX2_caseAt 3 (some (.object "PromiseClocks$Case")), Cond.classLink RX2 155 "java/lang/IndexOutOfBoundsException", Cond.initialized "java/lang/IndexOutOfBoundsException", Cond.fieldLink RX2 21 "PromiseClocks" "cases" "[LPromiseClocks$Case;", Cond.methodLink RX2 116 yX2_checkArgument, Cond.static yX2_checkArgument, Cond.code yX2_checkArgument cX2_checkArgument 1 none, Cond.classLink RX2 166 "java/lang/IllegalArgumentException", Cond.initialized "java/lang/IllegalArgumentException", Cond.methodLink RX2 119 yX2_countJoinedTo, Cond.instanceMethod yX2_countJoinedTo, Cond.selects RX2 yX2_countJoinedTo yX2_countJoinedTo, Cond.code yX2_countJoinedTo cX2_countJoinedTo 7 (some .int), Cond.methodLink RX2 189 yX0_isJoinedTo, Cond.instanceMethod yX0_isJoinedTo, Cond.selects RX0 yX0_isJoinedTo yX0_isJoinedTo, Cond.initialized RX0]
def wsX2_join_r2 : List Cond := [Cond.code yX0_isJoinedTo cX0_isJoinedTo 2 (some .boolean), Cond.fieldLink RX0 9 "PromiseClocks$Case" "state" "I", Cond.fieldLink RX0 19 "PromiseClocks$Case" "head" "LPromiseClocks$Case;", Cond.methodLink RX2 54 yX2_checkState, Cond.static yX2_checkState, Cond.code yX2_checkState cX2_checkState 1 none, Cond.classLink RX2 171 "java/lang/IllegalStateException", Cond.initialized "java/lang/IllegalStateException"]
def wsX2_join : List Cond := .code yX2_join cX2_join 5 (some .int) :: ((wsX2_join_r1 ++ wsX2_join_r2) ++ wsX00 ++ wsX20 ++ (vx_atS RX2 159 "java/lang/IndexOutOfBoundsException" ["java/lang/RuntimeException", "java/lang/Exception"]).filter goodWord ++ (vx_atS RX2 170 "java/lang/IllegalArgumentException" ["java/lang/RuntimeException", "java/lang/Exception"]).filter goodWord ++ (vx_atS RX2 175 "java/lang/IllegalStateException" ["java/lang/RuntimeException", "java/lang/Exception"]).filter goodWord)
def wsX2_openAnew : List Cond := .code yX2_openAnew cX2_openAnew 3 (some .int) :: ([.fieldLink RX2 88 "PromiseClocks$Case" "state" "I", .fieldLink RX2 105 "PromiseClocks$Case" "rests" "Z", .fieldLink RX2 94 "PromiseClocks$Case" "stagesReached" "I", .methodLink RX2 126 Lib.Math.min.name, .static Lib.Math.min.name, .initialized "java/lang/Math", .code Lib.Math.min.name Lib.Math.min.code 2 (some .int), .fieldLink RX2 131 "PromiseClocks$Case" "clocks" "[I", .methodLink RX2 84 yX2_caseAt, .instanceMethod yX2_caseAt, .selects RX2 yX2_caseAt yX2_caseAt, .initialized RX2, .code yX2_caseAt cX2_caseAt 3 (some (.object "PromiseClocks$Case")), .classLink RX2 155 "java/lang/IndexOutOfBoundsException", .initialized "java/lang/IndexOutOfBoundsException", .fieldLink RX2 21 "PromiseClocks" "cases" "[LPromiseClocks$Case;", .methodLink RX2 54 yX2_checkState, .static yX2_checkState, .code yX2_checkState cX2_checkState 1 none, .classLink RX2 171 "java/lang/IllegalStateException", .initialized "java/lang/IllegalStateException"] ++ wsX00 ++ wsX20 ++ (vx_atS RX2 159 "java/lang/IndexOutOfBoundsException" ["java/lang/RuntimeException", "java/lang/Exception"]).filter goodWord ++ (vx_atS RX2 175 "java/lang/IllegalStateException" ["java/lang/RuntimeException", "java/lang/Exception"]).filter goodWord)
def wsX2_stateOf : List Cond := .code yX2_stateOf cX2_stateOf 2 (some .int) :: ([.fieldLink RX2 88 "PromiseClocks$Case" "state" "I", .methodLink RX2 84 yX2_caseAt, .instanceMethod yX2_caseAt, .selects RX2 yX2_caseAt yX2_caseAt, .initialized RX2, .code yX2_caseAt cX2_caseAt 3 (some (.object "PromiseClocks$Case")), .classLink RX2 155 "java/lang/IndexOutOfBoundsException", .initialized "java/lang/IndexOutOfBoundsException", .fieldLink RX2 21 "PromiseClocks" "cases" "[LPromiseClocks$Case;"] ++ wsX00 ++ wsX20 ++ (vx_atS RX2 159 "java/lang/IndexOutOfBoundsException" ["java/lang/RuntimeException", "java/lang/Exception"]).filter goodWord)
def wsX2_clock : List Cond := .code yX2_clock cX2_clock 4 (some .int) :: ([.fieldLink RX2 131 "PromiseClocks$Case" "clocks" "[I", .methodLink RX2 84 yX2_caseAt, .instanceMethod yX2_caseAt, .selects RX2 yX2_caseAt yX2_caseAt, .initialized RX2, .code yX2_caseAt cX2_caseAt 3 (some (.object "PromiseClocks$Case")), .classLink RX2 155 "java/lang/IndexOutOfBoundsException", .initialized "java/lang/IndexOutOfBoundsException", .fieldLink RX2 21 "PromiseClocks" "cases" "[LPromiseClocks$Case;", .methodLink RX2 37 yX2_checkRange, .static yX2_checkRange, .code yX2_checkRange cX2_checkRange 3 none, .methodLink RX2 116 yX2_checkArgument, .static yX2_checkArgument, .code yX2_checkArgument cX2_checkArgument 1 none, .classLink RX2 166 "java/lang/IllegalArgumentException", .initialized "java/lang/IllegalArgumentException"] ++ wsX00 ++ wsX20 ++ (vx_atS RX2 159 "java/lang/IndexOutOfBoundsException" ["java/lang/RuntimeException", "java/lang/Exception"]).filter goodWord ++ (vx_atS RX2 170 "java/lang/IllegalArgumentException" ["java/lang/RuntimeException", "java/lang/Exception"]).filter goodWord)
def wsX2_isMissed_r1 : List Cond := [Cond.methodLink RX2 84 yX2_caseAt, Cond.instanceMethod yX2_caseAt, Cond.selects RX2 yX2_caseAt yX2_caseAt, Cond.initialized RX2, Cond.code yX2_caseAt cX2_caseAt 3 (some (.object "PromiseClocks$Case")), Cond.classLink RX2 155 "java/lang/IndexOutOfBoundsException", Cond.initialized "java/lang/IndexOutOfBoundsException", Cond.fieldLink RX2 21 "PromiseClocks" "cases" "[LPromiseClocks$Case;", Cond.methodLink RX2 37 yX2_checkRange, Cond.static yX2_checkRange, Cond.code yX2_checkRange cX2_checkRange 3 none, Cond.methodLink RX2 116 yX2_checkArgument, Cond.static yX2_checkArgument, Cond.code yX2_checkArgument cX2_checkArgument 1 none, Cond.classLink RX2 166 "java/lang/IllegalArgumentException", Cond.initialized "java/lang/IllegalArgumentException", Cond.methodLink RX2 134 yX2_misses, Cond.instanceMethod yX2_misses, Cond.selects RX2 yX2_misses yX2_misses, Cond.code yX2_misses cX2_misses 3 (some .boolean), Cond.fieldLink RX2 131 "PromiseClocks$Case" "clocks" "[I", Cond.methodLink RX2 176 yX2_promiseFor, Cond.instanceMethod yX2_promiseFor, Cond.selects RX2 yX2_promiseFor yX2_promiseFor]
def wsX2_isMissed_r2 : List Cond := [Cond.code yX2_promiseFor cX2_promiseFor 3 (some .int), Cond.fieldLink RX2 15 "PromiseClocks" "promises" "[I", Cond.fieldLink RX2 109 "PromiseClocks$Case" "gravity" "I"]
def wsX2_isMissed : List Cond := .code yX2_isMissed cX2_isMissed 4 (some .boolean) :: ((wsX2_isMissed_r1 ++ wsX2_isMissed_r2) ++ wsX20 ++ wsX00 ++ (vx_atS RX2 159 "java/lang/IndexOutOfBoundsException" ["java/lang/RuntimeException", "java/lang/Exception"]).filter goodWord ++ (vx_atS RX2 170 "java/lang/IllegalArgumentException" ["java/lang/RuntimeException", "java/lang/Exception"]).filter goodWord)
def wsX2_stepOfStage : List Cond := .code yX2_stepOfStage cX2_stepOfStage 5 (some .int) :: ([.fieldLink RX2 131 "PromiseClocks$Case" "clocks" "[I", .methodLink RX2 91 yX0_hasReached, .instanceMethod yX0_hasReached, .selects RX0 yX0_hasReached yX0_hasReached, .initialized RX0, .code yX0_hasReached cX0_hasReached 2 (some .boolean), .fieldLink RX0 23 "PromiseClocks$Case" "stagesReached" "I", .methodLink RX2 176 yX2_promiseFor, .instanceMethod yX2_promiseFor, .selects RX2 yX2_promiseFor yX2_promiseFor, .initialized RX2, .code yX2_promiseFor cX2_promiseFor 3 (some .int), .fieldLink RX2 15 "PromiseClocks" "promises" "[I", .fieldLink RX2 109 "PromiseClocks$Case" "gravity" "I"] ++ wsX00 ++ wsX20)
def wsX2_greatestStep : List Cond := .code yX2_greatestStep cX2_greatestStep 4 (some .int) :: ([.methodLink RX2 183 Lib.Math.max.name, .static Lib.Math.max.name, .initialized "java/lang/Math", .code Lib.Math.max.name Lib.Math.max.code 2 (some .int), .methodLink RX2 180 yX2_stepOfStage, .instanceMethod yX2_stepOfStage, .selects RX2 yX2_stepOfStage yX2_stepOfStage, .initialized RX2, .code yX2_stepOfStage cX2_stepOfStage 5 (some .int), .fieldLink RX2 131 "PromiseClocks$Case" "clocks" "[I", .methodLink RX2 91 yX0_hasReached, .instanceMethod yX0_hasReached, .selects RX0 yX0_hasReached yX0_hasReached, .initialized RX0, .code yX0_hasReached cX0_hasReached 2 (some .boolean), .fieldLink RX0 23 "PromiseClocks$Case" "stagesReached" "I", .methodLink RX2 176 yX2_promiseFor, .instanceMethod yX2_promiseFor, .selects RX2 yX2_promiseFor yX2_promiseFor, .code yX2_promiseFor cX2_promiseFor 3 (some .int), .fieldLink RX2 15 "PromiseClocks" "promises" "[I", .fieldLink RX2 109 "PromiseClocks$Case" "gravity" "I"] ++ wsX00 ++ wsX20)
def wsX2_step_r1 : List Cond := [Cond.methodLink RX2 84 yX2_caseAt, Cond.instanceMethod yX2_caseAt, Cond.selects RX2 yX2_caseAt yX2_caseAt, Cond.initialized RX2, Cond.code yX2_caseAt cX2_caseAt 3 (some (.object "PromiseClocks$Case")), Cond.classLink RX2 155 "java/lang/IndexOutOfBoundsException", Cond.initialized "java/lang/IndexOutOfBoundsException", Cond.fieldLink RX2 21 "PromiseClocks" "cases" "[LPromiseClocks$Case;", Cond.methodLink RX2 138 yX2_greatestStep, Cond.instanceMethod yX2_greatestStep, Cond.selects RX2 yX2_greatestStep yX2_greatestStep, Cond.code yX2_greatestStep cX2_greatestStep 4 (some .int), Cond.methodLink RX2 183 Lib.Math.max.name, Cond.static Lib.Math.max.name, Cond.initialized "java/lang/Math", Cond.code Lib.Math.max.name Lib.Math.max.code 2 (some .int), Cond.methodLink RX2 180 yX2_stepOfStage, Cond.instanceMethod yX2_stepOfStage, Cond.selects RX2 yX2_stepOfStage yX2_stepOfStage, Cond.code yX2_stepOfStage cX2_stepOfStage 5 (some .int), Cond.fieldLink RX2 131 "PromiseClocks$Case" "clocks" "[I", Cond.methodLink RX2 91 yX0_hasReached, Cond.instanceMethod yX0_hasReached, Cond.selects RX0 yX0_hasReached yX0_hasReached]
def wsX2_step_r2 : List Cond := [Cond.initialized RX0, Cond.code yX0_hasReached cX0_hasReached 2 (some .boolean), Cond.fieldLink RX0 23 "PromiseClocks$Case" "stagesReached" "I", Cond.methodLink RX2 176 yX2_promiseFor, Cond.instanceMethod yX2_promiseFor, Cond.selects RX2 yX2_promiseFor yX2_promiseFor, Cond.code yX2_promiseFor cX2_promiseFor 3 (some .int), Cond.fieldLink RX2 15 "PromiseClocks" "promises" "[I", Cond.fieldLink RX2 109 "PromiseClocks$Case" "gravity" "I"]
def wsX2_step : List Cond := .code yX2_step cX2_step 2 (some .int) :: ((wsX2_step_r1 ++ wsX2_step_r2) ++ wsX20 ++ wsX00 ++ (vx_atS RX2 159 "java/lang/IndexOutOfBoundsException" ["java/lang/RuntimeException", "java/lang/Exception"]).filter goodWord)
def wsX2_mostUrgent_r1 : List Cond := [Cond.fieldLink RX2 25 "PromiseClocks" "caseCount" "I", Cond.fieldLink RX2 21 "PromiseClocks" "cases" "[LPromiseClocks$Case;", Cond.fieldLink RX2 109 "PromiseClocks$Case" "gravity" "I", Cond.methodLink RX2 141 yX0_isRunning, Cond.instanceMethod yX0_isRunning, Cond.selects RX0 yX0_isRunning yX0_isRunning, Cond.initialized RX0, Cond.code yX0_isRunning cX0_isRunning 1 (some .boolean), Cond.fieldLink RX0 9 "PromiseClocks$Case" "state" "I", Cond.fieldLink RX0 15 "PromiseClocks$Case" "rests" "Z", Cond.methodLink RX2 138 yX2_greatestStep, Cond.instanceMethod yX2_greatestStep, Cond.selects RX2 yX2_greatestStep yX2_greatestStep, Cond.initialized RX2, Cond.code yX2_greatestStep cX2_greatestStep 4 (some .int), Cond.methodLink RX2 183 Lib.Math.max.name, Cond.static Lib.Math.max.name, Cond.initialized "java/lang/Math", Cond.code Lib.Math.max.name Lib.Math.max.code 2 (some .int), Cond.methodLink RX2 180 yX2_stepOfStage, Cond.instanceMethod yX2_stepOfStage, Cond.selects RX2 yX2_stepOfStage yX2_stepOfStage, Cond.code yX2_stepOfStage cX2_stepOfStage 5 (some .int), Cond.fieldLink RX2 131 "PromiseClocks$Case" "clocks" "[I"]
def wsX2_mostUrgent_r2 : List Cond := [Cond.methodLink RX2 91 yX0_hasReached, Cond.instanceMethod yX0_hasReached, Cond.selects RX0 yX0_hasReached yX0_hasReached, Cond.code yX0_hasReached cX0_hasReached 2 (some .boolean), Cond.fieldLink RX0 23 "PromiseClocks$Case" "stagesReached" "I", Cond.methodLink RX2 176 yX2_promiseFor, Cond.instanceMethod yX2_promiseFor, Cond.selects RX2 yX2_promiseFor yX2_promiseFor, Cond.code yX2_promiseFor cX2_promiseFor 3 (some .int), Cond.fieldLink RX2 15 "PromiseClocks" "promises" "[I"]
def wsX2_mostUrgent : List Cond := .code yX2_mostUrgent cX2_mostUrgent 7 (some .int) :: ((wsX2_mostUrgent_r1 ++ wsX2_mostUrgent_r2) ++ wsX20 ++ wsX00)
def wsX2_buy : List Cond := .code yX2_buy cX2_buy 4 (some .int) :: ([.fieldLink RX2 145 "PromiseClocks$Site" "hoursAhead" "I", .fieldLink RX2 148 "PromiseClocks$Site" "centsOwed" "I", .methodLink RX2 33 yX2_siteAt, .instanceMethod yX2_siteAt, .selects RX2 yX2_siteAt yX2_siteAt, .initialized RX2, .code yX2_siteAt cX2_siteAt 3 (some (.object "PromiseClocks$Site")), .classLink RX2 155 "java/lang/IndexOutOfBoundsException", .initialized "java/lang/IndexOutOfBoundsException", .fieldLink RX2 11 "PromiseClocks" "sites" "[LPromiseClocks$Site;", .methodLink RX2 37 yX2_checkRange, .static yX2_checkRange, .code yX2_checkRange cX2_checkRange 3 none, .methodLink RX2 116 yX2_checkArgument, .static yX2_checkArgument, .code yX2_checkArgument cX2_checkArgument 1 none, .classLink RX2 166 "java/lang/IllegalArgumentException", .initialized "java/lang/IllegalArgumentException"] ++ wsX10 ++ wsX20 ++ (vx_atS RX2 159 "java/lang/IndexOutOfBoundsException" ["java/lang/RuntimeException", "java/lang/Exception"]).filter goodWord ++ (vx_atS RX2 170 "java/lang/IllegalArgumentException" ["java/lang/RuntimeException", "java/lang/Exception"]).filter goodWord)
def wsX2_work_r1 : List Cond := [Cond.fieldLink RX2 88 "PromiseClocks$Case" "state" "I", Cond.fieldLink RX2 112 "PromiseClocks$Case" "site" "LPromiseClocks$Site;", Cond.fieldLink RX2 145 "PromiseClocks$Site" "hoursAhead" "I", Cond.methodLink RX2 126 Lib.Math.min.name, Cond.static Lib.Math.min.name, Cond.initialized "java/lang/Math", Cond.code Lib.Math.min.name Lib.Math.min.code 2 (some .int), Cond.fieldLink RX2 148 "PromiseClocks$Site" "centsOwed" "I", Cond.methodLink RX2 84 yX2_caseAt, Cond.instanceMethod yX2_caseAt, Cond.selects RX2 yX2_caseAt yX2_caseAt, Cond.initialized RX2, Cond.code yX2_caseAt cX2_caseAt 3 (some (.object "PromiseClocks$Case")), Cond.classLink RX2 155 "java/lang/IndexOutOfBoundsException", Cond.initialized "java/lang/IndexOutOfBoundsException", Cond.fieldLink RX2 21 "PromiseClocks" "cases" "[LPromiseClocks$Case;", Cond.methodLink RX2 37 yX2_checkRange, Cond.static yX2_checkRange, Cond.code yX2_checkRange cX2_checkRange 3 none, Cond.methodLink RX2 116 yX2_checkArgument, Cond.static yX2_checkArgument, Cond.code yX2_checkArgument cX2_checkArgument 1 none, Cond.classLink RX2 166 "java/lang/IllegalArgumentException", Cond.initialized "java/lang/IllegalArgumentException"]
def wsX2_work_r2 : List Cond := [Cond.methodLink RX2 54 yX2_checkState, Cond.static yX2_checkState, Cond.code yX2_checkState cX2_checkState 1 none, Cond.classLink RX2 171 "java/lang/IllegalStateException", Cond.initialized "java/lang/IllegalStateException", Cond.methodLink RX2 151 yX2_isCoveredToday, Cond.instanceMethod yX2_isCoveredToday, Cond.selects RX2 yX2_isCoveredToday yX2_isCoveredToday, Cond.code yX2_isCoveredToday cX2_isCoveredToday 2 (some .boolean), Cond.fieldLink RX2 186 "PromiseClocks$Case" "kind" "I", Cond.fieldLink RX2 29 "PromiseClocks" "now" "I", Cond.methodLink RX2 65 yX1_covers, Cond.instanceMethod yX1_covers, Cond.selects RX1 yX1_covers yX1_covers, Cond.initialized RX1, Cond.code yX1_covers cX1_covers 4 (some .boolean), Cond.fieldLink RX1 31 "PromiseClocks$Site" "contractCount" "I", Cond.fieldLink RX1 21 "PromiseClocks$Site" "contractKinds" "[I", Cond.fieldLink RX1 25 "PromiseClocks$Site" "contractFrom" "[I", Cond.fieldLink RX1 28 "PromiseClocks$Site" "contractTo" "[I"]
def wsX2_work : List Cond := .code yX2_work cX2_work 7 (some .int) :: ((wsX2_work_r1 ++ wsX2_work_r2) ++ wsX00 ++ wsX10 ++ wsX20 ++ (vx_atS RX2 159 "java/lang/IndexOutOfBoundsException" ["java/lang/RuntimeException", "java/lang/Exception"]).filter goodWord ++ (vx_atS RX2 170 "java/lang/IllegalArgumentException" ["java/lang/RuntimeException", "java/lang/Exception"]).filter goodWord ++ (vx_atS RX2 175 "java/lang/IllegalStateException" ["java/lang/RuntimeException", "java/lang/Exception"]).filter goodWord)
def wsX2_ahead : List Cond := .code yX2_ahead cX2_ahead 2 (some .int) :: ([.fieldLink RX2 145 "PromiseClocks$Site" "hoursAhead" "I", .methodLink RX2 33 yX2_siteAt, .instanceMethod yX2_siteAt, .selects RX2 yX2_siteAt yX2_siteAt, .initialized RX2, .code yX2_siteAt cX2_siteAt 3 (some (.object "PromiseClocks$Site")), .classLink RX2 155 "java/lang/IndexOutOfBoundsException", .initialized "java/lang/IndexOutOfBoundsException", .fieldLink RX2 11 "PromiseClocks" "sites" "[LPromiseClocks$Site;"] ++ wsX10 ++ wsX20 ++ (vx_atS RX2 159 "java/lang/IndexOutOfBoundsException" ["java/lang/RuntimeException", "java/lang/Exception"]).filter goodWord)
def wsX2_owes : List Cond := .code yX2_owes cX2_owes 2 (some .int) :: ([.fieldLink RX2 148 "PromiseClocks$Site" "centsOwed" "I", .methodLink RX2 33 yX2_siteAt, .instanceMethod yX2_siteAt, .selects RX2 yX2_siteAt yX2_siteAt, .initialized RX2, .code yX2_siteAt cX2_siteAt 3 (some (.object "PromiseClocks$Site")), .classLink RX2 155 "java/lang/IndexOutOfBoundsException", .initialized "java/lang/IndexOutOfBoundsException", .fieldLink RX2 11 "PromiseClocks" "sites" "[LPromiseClocks$Site;"] ++ wsX10 ++ wsX20 ++ (vx_atS RX2 159 "java/lang/IndexOutOfBoundsException" ["java/lang/RuntimeException", "java/lang/Exception"]).filter goodWord)
def wsX3_init : List Cond := .code yX3_init cX3_init 2 none :: ([.methodLink RX3 1 objectInit, .instanceMethod objectInit, .code objectInit ⟨#[0xb1]⟩ 1 none, .arrayClass .int, .fieldLink RX3 7 "PromiseClocksModel" "days" "[I", .fieldLink RX3 13 "PromiseClocksModel" "first" "[I", .fieldLink RX3 16 "PromiseClocksModel" "last" "[I", .fieldLink RX3 19 "PromiseClocksModel" "covers" "[I", .fieldLink RX3 22 "PromiseClocksModel" "from" "[I", .fieldLink RX3 25 "PromiseClocksModel" "to" "[I", .fieldLink RX3 28 "PromiseClocksModel" "contracts" "[I", .fieldLink RX3 31 "PromiseClocksModel" "promise" "[I", .fieldLink RX3 34 "PromiseClocksModel" "siteOf" "[I", .fieldLink RX3 37 "PromiseClocksModel" "kindOf" "[I", .fieldLink RX3 40 "PromiseClocksModel" "gravity" "[I", .fieldLink RX3 43 "PromiseClocksModel" "state" "[I", .fieldLink RX3 46 "PromiseClocksModel" "head" "[I", .arrayClass .boolean, .fieldLink RX3 49 "PromiseClocksModel" "rests" "[Z", .fieldLink RX3 53 "PromiseClocksModel" "clock" "[I", .fieldLink RX3 56 "PromiseClocksModel" "reached" "[Z", .fieldLink RX3 59 "PromiseClocksModel" "ahead" "[I", .fieldLink RX3 62 "PromiseClocksModel" "owes" "[I"] ++ wsX30)
def wsX3_thrown : List Cond := .code yX3_thrown cX3_thrown 1 (some .int) :: ([.fieldLink RX3 65 "PromiseClocksModel" "thrown" "I"] ++ wsX30)
def wsX3_in : List Cond := .code yX3_in cX3_in 3 (some .boolean) :: ([])
def wsX3_asked : List Cond := .code yX3_asked cX3_asked 2 (some .boolean) :: ([.fieldLink RX3 65 "PromiseClocksModel" "thrown" "I"] ++ wsX30)
def wsX3_asked_ : List Cond := .code yX3_asked_ cX3_asked_ 3 (some .boolean) :: ([.fieldLink RX3 65 "PromiseClocksModel" "thrown" "I"] ++ wsX30)
def wsX3_asked__ : List Cond := .code yX3_asked__ cX3_asked__ 4 (some .boolean) :: ([.fieldLink RX3 65 "PromiseClocksModel" "thrown" "I"] ++ wsX30)
def wsX3_told : List Cond := .code yX3_told cX3_told 2 (some .int) :: ([.fieldLink RX3 65 "PromiseClocksModel" "thrown" "I"] ++ wsX30)
def wsX3_isSite : List Cond := .code yX3_isSite cX3_isSite 1 (some .boolean) :: ([.methodLink RX3 69 yX3_in, .static yX3_in, .initialized RX3, .code yX3_in cX3_in 3 (some .boolean)])
def wsX3_isKind : List Cond := .code yX3_isKind cX3_isKind 1 (some .boolean) :: ([.methodLink RX3 69 yX3_in, .static yX3_in, .initialized RX3, .code yX3_in cX3_in 3 (some .boolean)])
def wsX3_isCase : List Cond := .code yX3_isCase cX3_isCase 2 (some .boolean) :: ([.fieldLink RX3 73 "PromiseClocksModel" "cases" "I", .methodLink RX3 69 yX3_in, .static yX3_in, .initialized RX3, .code yX3_in cX3_in 3 (some .boolean)] ++ wsX30)
def wsX3_setCalendar : List Cond := .code yX3_setCalendar cX3_setCalendar 6 (some .int) :: ([.fieldLink RX3 7 "PromiseClocksModel" "days" "[I", .fieldLink RX3 13 "PromiseClocksModel" "first" "[I", .fieldLink RX3 16 "PromiseClocksModel" "last" "[I", .methodLink RX3 76 yX3_isSite, .static yX3_isSite, .initialized RX3, .code yX3_isSite cX3_isSite 1 (some .boolean), .methodLink RX3 69 yX3_in, .static yX3_in, .code yX3_in cX3_in 3 (some .boolean), .methodLink RX3 80 yX3_asked_, .instanceMethod yX3_asked_, .selects RX3 yX3_asked_ yX3_asked_, .code yX3_asked_ cX3_asked_ 3 (some .boolean), .fieldLink RX3 65 "PromiseClocksModel" "thrown" "I"] ++ wsX30)
def wsX3_addContract : List Cond := .code yX3_addContract cX3_addContract 7 (some .int) :: ([.fieldLink RX3 28 "PromiseClocksModel" "contracts" "[I", .fieldLink RX3 19 "PromiseClocksModel" "covers" "[I", .fieldLink RX3 22 "PromiseClocksModel" "from" "[I", .fieldLink RX3 25 "PromiseClocksModel" "to" "[I", .methodLink RX3 76 yX3_isSite, .static yX3_isSite, .initialized RX3, .code yX3_isSite cX3_isSite 1 (some .boolean), .methodLink RX3 69 yX3_in, .static yX3_in, .code yX3_in cX3_in 3 (some .boolean), .methodLink RX3 84 yX3_asked__, .instanceMethod yX3_asked__, .selects RX3 yX3_asked__ yX3_asked__, .code yX3_asked__ cX3_asked__ 4 (some .boolean), .fieldLink RX3 65 "PromiseClocksModel" "thrown" "I"] ++ wsX30)
def wsX3_setPromise : List Cond := .code yX3_setPromise cX3_setPromise 5 (some .int) :: ([.fieldLink RX3 31 "PromiseClocksModel" "promise" "[I", .methodLink RX3 69 yX3_in, .static yX3_in, .initialized RX3, .code yX3_in cX3_in 3 (some .boolean), .methodLink RX3 87 yX3_asked, .instanceMethod yX3_asked, .selects RX3 yX3_asked yX3_asked, .code yX3_asked cX3_asked 2 (some .boolean), .fieldLink RX3 65 "PromiseClocksModel" "thrown" "I"] ++ wsX30)
def wsX3_covered : List Cond := .code yX3_covered cX3_covered 6 (some .boolean) :: ([.fieldLink RX3 28 "PromiseClocksModel" "contracts" "[I", .fieldLink RX3 19 "PromiseClocksModel" "covers" "[I", .fieldLink RX3 22 "PromiseClocksModel" "from" "[I", .fieldLink RX3 25 "PromiseClocksModel" "to" "[I", .methodLink RX3 69 yX3_in, .static yX3_in, .initialized RX3, .code yX3_in cX3_in 3 (some .boolean)] ++ wsX30)
def wsX3_isCovered : List Cond := .code yX3_isCovered cX3_isCovered 4 (some .boolean) :: ([.methodLink RX3 76 yX3_isSite, .static yX3_isSite, .initialized RX3, .code yX3_isSite cX3_isSite 1 (some .boolean), .methodLink RX3 69 yX3_in, .static yX3_in, .code yX3_in cX3_in 3 (some .boolean), .methodLink RX3 90 yX3_isKind, .static yX3_isKind, .code yX3_isKind cX3_isKind 1 (some .boolean), .methodLink RX3 80 yX3_asked_, .instanceMethod yX3_asked_, .selects RX3 yX3_asked_ yX3_asked_, .code yX3_asked_ cX3_asked_ 3 (some .boolean), .fieldLink RX3 65 "PromiseClocksModel" "thrown" "I", .methodLink RX3 93 yX3_covered, .instanceMethod yX3_covered, .selects RX3 yX3_covered yX3_covered, .code yX3_covered cX3_covered 6 (some .boolean), .fieldLink RX3 28 "PromiseClocksModel" "contracts" "[I", .fieldLink RX3 19 "PromiseClocksModel" "covers" "[I", .fieldLink RX3 22 "PromiseClocksModel" "from" "[I", .fieldLink RX3 25 "PromiseClocksModel" "to" "[I"] ++ wsX30)
def wsX3_nextGap : List Cond := .code yX3_nextGap cX3_nextGap 5 (some .int) :: ([.methodLink RX3 76 yX3_isSite, .static yX3_isSite, .initialized RX3, .code yX3_isSite cX3_isSite 1 (some .boolean), .methodLink RX3 69 yX3_in, .static yX3_in, .code yX3_in cX3_in 3 (some .boolean), .methodLink RX3 90 yX3_isKind, .static yX3_isKind, .code yX3_isKind cX3_isKind 1 (some .boolean), .methodLink RX3 80 yX3_asked_, .instanceMethod yX3_asked_, .selects RX3 yX3_asked_ yX3_asked_, .code yX3_asked_ cX3_asked_ 3 (some .boolean), .fieldLink RX3 65 "PromiseClocksModel" "thrown" "I", .methodLink RX3 93 yX3_covered, .instanceMethod yX3_covered, .selects RX3 yX3_covered yX3_covered, .code yX3_covered cX3_covered 6 (some .boolean), .fieldLink RX3 28 "PromiseClocksModel" "contracts" "[I", .fieldLink RX3 19 "PromiseClocksModel" "covers" "[I", .fieldLink RX3 22 "PromiseClocksModel" "from" "[I", .fieldLink RX3 25 "PromiseClocksModel" "to" "[I"] ++ wsX30)
def wsX3_counts : List Cond := .code yX3_counts cX3_counts 3 (some .boolean) :: ([.fieldLink RX3 7 "PromiseClocksModel" "days" "[I", .fieldLink RX3 13 "PromiseClocksModel" "first" "[I", .fieldLink RX3 16 "PromiseClocksModel" "last" "[I", .methodLink RX3 69 yX3_in, .static yX3_in, .initialized RX3, .code yX3_in cX3_in 3 (some .boolean)] ++ wsX30)
def wsX3_pass : List Cond := .code yX3_pass cX3_pass 6 (some .int) :: ([.fieldLink RX3 96 "PromiseClocksModel" "now" "I", .fieldLink RX3 73 "PromiseClocksModel" "cases" "I", .fieldLink RX3 43 "PromiseClocksModel" "state" "[I", .fieldLink RX3 49 "PromiseClocksModel" "rests" "[Z", .fieldLink RX3 34 "PromiseClocksModel" "siteOf" "[I", .fieldLink RX3 53 "PromiseClocksModel" "clock" "[I", .fieldLink RX3 56 "PromiseClocksModel" "reached" "[Z", .methodLink RX3 69 yX3_in, .static yX3_in, .initialized RX3, .code yX3_in cX3_in 3 (some .boolean), .methodLink RX3 80 yX3_asked_, .instanceMethod yX3_asked_, .selects RX3 yX3_asked_ yX3_asked_, .code yX3_asked_ cX3_asked_ 3 (some .boolean), .fieldLink RX3 65 "PromiseClocksModel" "thrown" "I", .methodLink RX3 99 yX3_counts, .instanceMethod yX3_counts, .selects RX3 yX3_counts yX3_counts, .code yX3_counts cX3_counts 3 (some .boolean), .fieldLink RX3 7 "PromiseClocksModel" "days" "[I", .fieldLink RX3 13 "PromiseClocksModel" "first" "[I", .fieldLink RX3 16 "PromiseClocksModel" "last" "[I"] ++ wsX30)
def wsX3_time : List Cond := .code yX3_time cX3_time 1 (some .int) :: ([.fieldLink RX3 96 "PromiseClocksModel" "now" "I", .methodLink RX3 103 yX3_told, .instanceMethod yX3_told, .selects RX3 yX3_told yX3_told, .initialized RX3, .code yX3_told cX3_told 2 (some .int), .fieldLink RX3 65 "PromiseClocksModel" "thrown" "I"] ++ wsX30)
def wsX3_hours : List Cond := .code yX3_hours cX3_hours 7 (some .int) :: ([.methodLink RX3 76 yX3_isSite, .static yX3_isSite, .initialized RX3, .code yX3_isSite cX3_isSite 1 (some .boolean), .methodLink RX3 69 yX3_in, .static yX3_in, .code yX3_in cX3_in 3 (some .boolean), .methodLink RX3 80 yX3_asked_, .instanceMethod yX3_asked_, .selects RX3 yX3_asked_ yX3_asked_, .code yX3_asked_ cX3_asked_ 3 (some .boolean), .fieldLink RX3 65 "PromiseClocksModel" "thrown" "I", .methodLink RX3 99 yX3_counts, .instanceMethod yX3_counts, .selects RX3 yX3_counts yX3_counts, .code yX3_counts cX3_counts 3 (some .boolean), .fieldLink RX3 7 "PromiseClocksModel" "days" "[I", .fieldLink RX3 13 "PromiseClocksModel" "first" "[I", .fieldLink RX3 16 "PromiseClocksModel" "last" "[I"] ++ wsX30)
def wsX3_hoursOneByOne : List Cond := .code yX3_hoursOneByOne cX3_hoursOneByOne 4 (some .int) :: ([.methodLink RX3 107 yX3_hours, .instanceMethod yX3_hours, .selects RX3 yX3_hours yX3_hours, .initialized RX3, .code yX3_hours cX3_hours 7 (some .int), .methodLink RX3 76 yX3_isSite, .static yX3_isSite, .code yX3_isSite cX3_isSite 1 (some .boolean), .methodLink RX3 69 yX3_in, .static yX3_in, .code yX3_in cX3_in 3 (some .boolean), .methodLink RX3 80 yX3_asked_, .instanceMethod yX3_asked_, .selects RX3 yX3_asked_ yX3_asked_, .code yX3_asked_ cX3_asked_ 3 (some .boolean), .fieldLink RX3 65 "PromiseClocksModel" "thrown" "I", .methodLink RX3 99 yX3_counts, .instanceMethod yX3_counts, .selects RX3 yX3_counts yX3_counts, .code yX3_counts cX3_counts 3 (some .boolean), .fieldLink RX3 7 "PromiseClocksModel" "days" "[I", .fieldLink RX3 13 "PromiseClocksModel" "first" "[I", .fieldLink RX3 16 "PromiseClocksModel" "last" "[I"] ++ wsX30)
def wsX3_open : List Cond := .code yX3_open cX3_open 4 (some .int) :: ([.fieldLink RX3 73 "PromiseClocksModel" "cases" "I", .fieldLink RX3 34 "PromiseClocksModel" "siteOf" "[I", .fieldLink RX3 37 "PromiseClocksModel" "kindOf" "[I", .fieldLink RX3 40 "PromiseClocksModel" "gravity" "[I", .fieldLink RX3 43 "PromiseClocksModel" "state" "[I", .fieldLink RX3 46 "PromiseClocksModel" "head" "[I", .methodLink RX3 76 yX3_isSite, .static yX3_isSite, .initialized RX3, .code yX3_isSite cX3_isSite 1 (some .boolean), .methodLink RX3 69 yX3_in, .static yX3_in, .code yX3_in cX3_in 3 (some .boolean), .methodLink RX3 90 yX3_isKind, .static yX3_isKind, .code yX3_isKind cX3_isKind 1 (some .boolean), .methodLink RX3 84 yX3_asked__, .instanceMethod yX3_asked__, .selects RX3 yX3_asked__ yX3_asked__, .code yX3_asked__ cX3_asked__ 4 (some .boolean), .fieldLink RX3 65 "PromiseClocksModel" "thrown" "I"] ++ wsX30)
def wsX3_missed : List Cond := .code yX3_missed cX3_missed 3 (some .boolean) :: ([.fieldLink RX3 53 "PromiseClocksModel" "clock" "[I", .fieldLink RX3 31 "PromiseClocksModel" "promise" "[I", .fieldLink RX3 40 "PromiseClocksModel" "gravity" "[I"] ++ wsX30)
def wsX3_missedOf : List Cond := .code yX3_missedOf cX3_missedOf 4 (some .int) :: ([.fieldLink RX3 56 "PromiseClocksModel" "reached" "[Z", .methodLink RX3 111 yX3_missed, .instanceMethod yX3_missed, .selects RX3 yX3_missed yX3_missed, .initialized RX3, .code yX3_missed cX3_missed 3 (some .boolean), .fieldLink RX3 53 "PromiseClocksModel" "clock" "[I", .fieldLink RX3 31 "PromiseClocksModel" "promise" "[I", .fieldLink RX3 40 "PromiseClocksModel" "gravity" "[I"] ++ wsX30)
def wsX3_reach_r1 : List Cond := [Cond.fieldLink RX3 43 "PromiseClocksModel" "state" "[I", Cond.fieldLink RX3 56 "PromiseClocksModel" "reached" "[Z", Cond.fieldLink RX3 73 "PromiseClocksModel" "cases" "I", Cond.fieldLink RX3 46 "PromiseClocksModel" "head" "[I", Cond.fieldLink RX3 34 "PromiseClocksModel" "siteOf" "[I", Cond.fieldLink RX3 37 "PromiseClocksModel" "kindOf" "[I", Cond.fieldLink RX3 96 "PromiseClocksModel" "now" "I", Cond.fieldLink RX3 62 "PromiseClocksModel" "owes" "[I", Cond.methodLink RX3 114 yX3_isCase, Cond.instanceMethod yX3_isCase, Cond.selects RX3 yX3_isCase yX3_isCase, Cond.initialized RX3, Cond.code yX3_isCase cX3_isCase 2 (some .boolean), Cond.methodLink RX3 69 yX3_in, Cond.static yX3_in, Cond.code yX3_in cX3_in 3 (some .boolean), Cond.methodLink RX3 84 yX3_asked__, Cond.instanceMethod yX3_asked__, Cond.selects RX3 yX3_asked__ yX3_asked__, Cond.code yX3_asked__ cX3_asked__ 4 (some .boolean), Cond.fieldLink RX3 65 "PromiseClocksModel" "thrown" "I", Cond.methodLink RX3 117 yX3_missedOf, Cond.instanceMethod yX3_missedOf, Cond.selects RX3 yX3_missedOf yX3_missedOf]
def wsX3_reach_r2 : List Cond := [Cond.code yX3_missedOf cX3_missedOf 4 (some .int), Cond.methodLink RX3 111 yX3_missed, Cond.instanceMethod yX3_missed, Cond.selects RX3 yX3_missed yX3_missed, Cond.code yX3_missed cX3_missed 3 (some .boolean), Cond.fieldLink RX3 53 "PromiseClocksModel" "clock" "[I", Cond.fieldLink RX3 31 "PromiseClocksModel" "promise" "[I", Cond.fieldLink RX3 40 "PromiseClocksModel" "gravity" "[I", Cond.methodLink RX3 93 yX3_covered, Cond.instanceMethod yX3_covered, Cond.selects RX3 yX3_covered yX3_covered, Cond.code yX3_covered cX3_covered 6 (some .boolean), Cond.fieldLink RX3 28 "PromiseClocksModel" "contracts" "[I", Cond.fieldLink RX3 19 "PromiseClocksModel" "covers" "[I", Cond.fieldLink RX3 22 "PromiseClocksModel" "from" "[I", Cond.fieldLink RX3 25 "PromiseClocksModel" "to" "[I"]
def wsX3_reach : List Cond := .code yX3_reach cX3_reach 7 (some .int) :: ((wsX3_reach_r1 ++ wsX3_reach_r2) ++ wsX30)
def wsX3_rest : List Cond := .code yX3_rest cX3_rest 5 (some .boolean) :: ([.fieldLink RX3 43 "PromiseClocksModel" "state" "[I", .fieldLink RX3 49 "PromiseClocksModel" "rests" "[Z", .methodLink RX3 114 yX3_isCase, .instanceMethod yX3_isCase, .selects RX3 yX3_isCase yX3_isCase, .initialized RX3, .code yX3_isCase cX3_isCase 2 (some .boolean), .fieldLink RX3 73 "PromiseClocksModel" "cases" "I", .methodLink RX3 69 yX3_in, .static yX3_in, .code yX3_in cX3_in 3 (some .boolean), .methodLink RX3 80 yX3_asked_, .instanceMethod yX3_asked_, .selects RX3 yX3_asked_ yX3_asked_, .code yX3_asked_ cX3_asked_ 3 (some .boolean), .fieldLink RX3 65 "PromiseClocksModel" "thrown" "I"] ++ wsX30)
def wsX3_setGravity : List Cond := .code yX3_setGravity cX3_setGravity 5 (some .int) :: ([.fieldLink RX3 43 "PromiseClocksModel" "state" "[I", .fieldLink RX3 40 "PromiseClocksModel" "gravity" "[I", .methodLink RX3 114 yX3_isCase, .instanceMethod yX3_isCase, .selects RX3 yX3_isCase yX3_isCase, .initialized RX3, .code yX3_isCase cX3_isCase 2 (some .boolean), .fieldLink RX3 73 "PromiseClocksModel" "cases" "I", .methodLink RX3 69 yX3_in, .static yX3_in, .code yX3_in cX3_in 3 (some .boolean), .methodLink RX3 84 yX3_asked__, .instanceMethod yX3_asked__, .selects RX3 yX3_asked__ yX3_asked__, .code yX3_asked__ cX3_asked__ 4 (some .boolean), .fieldLink RX3 65 "PromiseClocksModel" "thrown" "I"] ++ wsX30)
def wsX3_joinedTo : List Cond := .code yX3_joinedTo cX3_joinedTo 4 (some .int) :: ([.fieldLink RX3 73 "PromiseClocksModel" "cases" "I", .fieldLink RX3 43 "PromiseClocksModel" "state" "[I", .fieldLink RX3 46 "PromiseClocksModel" "head" "[I"] ++ wsX30)
def wsX3_join : List Cond := .code yX3_join cX3_join 5 (some .int) :: ([.fieldLink RX3 34 "PromiseClocksModel" "siteOf" "[I", .fieldLink RX3 43 "PromiseClocksModel" "state" "[I", .fieldLink RX3 46 "PromiseClocksModel" "head" "[I", .methodLink RX3 114 yX3_isCase, .instanceMethod yX3_isCase, .selects RX3 yX3_isCase yX3_isCase, .initialized RX3, .code yX3_isCase cX3_isCase 2 (some .boolean), .fieldLink RX3 73 "PromiseClocksModel" "cases" "I", .methodLink RX3 69 yX3_in, .static yX3_in, .code yX3_in cX3_in 3 (some .boolean), .methodLink RX3 120 yX3_joinedTo, .instanceMethod yX3_joinedTo, .selects RX3 yX3_joinedTo yX3_joinedTo, .code yX3_joinedTo cX3_joinedTo 4 (some .int), .methodLink RX3 84 yX3_asked__, .instanceMethod yX3_asked__, .selects RX3 yX3_asked__ yX3_asked__, .code yX3_asked__ cX3_asked__ 4 (some .boolean), .fieldLink RX3 65 "PromiseClocksModel" "thrown" "I"] ++ wsX30)
def wsX3_openAnew : List Cond := .code yX3_openAnew cX3_openAnew 3 (some .int) :: ([.fieldLink RX3 43 "PromiseClocksModel" "state" "[I", .fieldLink RX3 49 "PromiseClocksModel" "rests" "[Z", .fieldLink RX3 56 "PromiseClocksModel" "reached" "[Z", .fieldLink RX3 53 "PromiseClocksModel" "clock" "[I", .methodLink RX3 114 yX3_isCase, .instanceMethod yX3_isCase, .selects RX3 yX3_isCase yX3_isCase, .initialized RX3, .code yX3_isCase cX3_isCase 2 (some .boolean), .fieldLink RX3 73 "PromiseClocksModel" "cases" "I", .methodLink RX3 69 yX3_in, .static yX3_in, .code yX3_in cX3_in 3 (some .boolean), .methodLink RX3 80 yX3_asked_, .instanceMethod yX3_asked_, .selects RX3 yX3_asked_ yX3_asked_, .code yX3_asked_ cX3_asked_ 3 (some .boolean), .fieldLink RX3 65 "PromiseClocksModel" "thrown" "I"] ++ wsX30)
def wsX3_stateOf : List Cond := .code yX3_stateOf cX3_stateOf 2 (some .int) :: ([.fieldLink RX3 43 "PromiseClocksModel" "state" "[I", .methodLink RX3 114 yX3_isCase, .instanceMethod yX3_isCase, .selects RX3 yX3_isCase yX3_isCase, .initialized RX3, .code yX3_isCase cX3_isCase 2 (some .boolean), .fieldLink RX3 73 "PromiseClocksModel" "cases" "I", .methodLink RX3 69 yX3_in, .static yX3_in, .code yX3_in cX3_in 3 (some .boolean), .methodLink RX3 87 yX3_asked, .instanceMethod yX3_asked, .selects RX3 yX3_asked yX3_asked, .code yX3_asked cX3_asked 2 (some .boolean), .fieldLink RX3 65 "PromiseClocksModel" "thrown" "I"] ++ wsX30)
def wsX3_isStage : List Cond := .code yX3_isStage cX3_isStage 1 (some .boolean) :: ([.methodLink RX3 69 yX3_in, .static yX3_in, .initialized RX3, .code yX3_in cX3_in 3 (some .boolean)])
def wsX3_clock : List Cond := .code yX3_clock cX3_clock 3 (some .int) :: ([.fieldLink RX3 53 "PromiseClocksModel" "clock" "[I", .methodLink RX3 114 yX3_isCase, .instanceMethod yX3_isCase, .selects RX3 yX3_isCase yX3_isCase, .initialized RX3, .code yX3_isCase cX3_isCase 2 (some .boolean), .fieldLink RX3 73 "PromiseClocksModel" "cases" "I", .methodLink RX3 69 yX3_in, .static yX3_in, .code yX3_in cX3_in 3 (some .boolean), .methodLink RX3 123 yX3_isStage, .static yX3_isStage, .code yX3_isStage cX3_isStage 1 (some .boolean), .methodLink RX3 80 yX3_asked_, .instanceMethod yX3_asked_, .selects RX3 yX3_asked_ yX3_asked_, .code yX3_asked_ cX3_asked_ 3 (some .boolean), .fieldLink RX3 65 "PromiseClocksModel" "thrown" "I"] ++ wsX30)
def wsX3_isMissed : List Cond := .code yX3_isMissed cX3_isMissed 3 (some .boolean) :: ([.methodLink RX3 114 yX3_isCase, .instanceMethod yX3_isCase, .selects RX3 yX3_isCase yX3_isCase, .initialized RX3, .code yX3_isCase cX3_isCase 2 (some .boolean), .fieldLink RX3 73 "PromiseClocksModel" "cases" "I", .methodLink RX3 69 yX3_in, .static yX3_in, .code yX3_in cX3_in 3 (some .boolean), .methodLink RX3 123 yX3_isStage, .static yX3_isStage, .code yX3_isStage cX3_isStage 1 (some .boolean), .methodLink RX3 80 yX3_asked_, .instanceMethod yX3_asked_, .selects RX3 yX3_asked_ yX3_asked_, .code yX3_asked_ cX3_asked_ 3 (some .boolean), .fieldLink RX3 65 "PromiseClocksModel" "thrown" "I", .methodLink RX3 111 yX3_missed, .instanceMethod yX3_missed, .selects RX3 yX3_missed yX3_missed, .code yX3_missed cX3_missed 3 (some .boolean), .fieldLink RX3 53 "PromiseClocksModel" "clock" "[I", .fieldLink RX3 31 "PromiseClocksModel" "promise" "[I", .fieldLink RX3 40 "PromiseClocksModel" "gravity" "[I"] ++ wsX30)
def wsX3_stepOf : List Cond := .code yX3_stepOf cX3_stepOf 7 (some .int) :: ([.fieldLink RX3 53 "PromiseClocksModel" "clock" "[I", .fieldLink RX3 31 "PromiseClocksModel" "promise" "[I", .fieldLink RX3 40 "PromiseClocksModel" "gravity" "[I", .fieldLink RX3 56 "PromiseClocksModel" "reached" "[Z"] ++ wsX30)
def wsX3_step : List Cond := .code yX3_step cX3_step 2 (some .int) :: ([.methodLink RX3 114 yX3_isCase, .instanceMethod yX3_isCase, .selects RX3 yX3_isCase yX3_isCase, .initialized RX3, .code yX3_isCase cX3_isCase 2 (some .boolean), .fieldLink RX3 73 "PromiseClocksModel" "cases" "I", .methodLink RX3 69 yX3_in, .static yX3_in, .code yX3_in cX3_in 3 (some .boolean), .methodLink RX3 87 yX3_asked, .instanceMethod yX3_asked, .selects RX3 yX3_asked yX3_asked, .code yX3_asked cX3_asked 2 (some .boolean), .fieldLink RX3 65 "PromiseClocksModel" "thrown" "I", .methodLink RX3 126 yX3_stepOf, .instanceMethod yX3_stepOf, .selects RX3 yX3_stepOf yX3_stepOf, .code yX3_stepOf cX3_stepOf 7 (some .int), .fieldLink RX3 53 "PromiseClocksModel" "clock" "[I", .fieldLink RX3 31 "PromiseClocksModel" "promise" "[I", .fieldLink RX3 40 "PromiseClocksModel" "gravity" "[I", .fieldLink RX3 56 "PromiseClocksModel" "reached" "[Z"] ++ wsX30)
def wsX3_mostUrgent : List Cond := .code yX3_mostUrgent cX3_mostUrgent 4 (some .int) :: ([.fieldLink RX3 73 "PromiseClocksModel" "cases" "I", .fieldLink RX3 43 "PromiseClocksModel" "state" "[I", .fieldLink RX3 49 "PromiseClocksModel" "rests" "[Z", .fieldLink RX3 40 "PromiseClocksModel" "gravity" "[I", .methodLink RX3 126 yX3_stepOf, .instanceMethod yX3_stepOf, .selects RX3 yX3_stepOf yX3_stepOf, .initialized RX3, .code yX3_stepOf cX3_stepOf 7 (some .int), .fieldLink RX3 53 "PromiseClocksModel" "clock" "[I", .fieldLink RX3 31 "PromiseClocksModel" "promise" "[I", .fieldLink RX3 56 "PromiseClocksModel" "reached" "[Z", .methodLink RX3 103 yX3_told, .instanceMethod yX3_told, .selects RX3 yX3_told yX3_told, .code yX3_told cX3_told 2 (some .int), .fieldLink RX3 65 "PromiseClocksModel" "thrown" "I"] ++ wsX30)
def wsX3_buy : List Cond := .code yX3_buy cX3_buy 3 (some .int) :: ([.fieldLink RX3 59 "PromiseClocksModel" "ahead" "[I", .fieldLink RX3 62 "PromiseClocksModel" "owes" "[I", .methodLink RX3 76 yX3_isSite, .static yX3_isSite, .initialized RX3, .code yX3_isSite cX3_isSite 1 (some .boolean), .methodLink RX3 69 yX3_in, .static yX3_in, .code yX3_in cX3_in 3 (some .boolean), .methodLink RX3 80 yX3_asked_, .instanceMethod yX3_asked_, .selects RX3 yX3_asked_ yX3_asked_, .code yX3_asked_ cX3_asked_ 3 (some .boolean), .fieldLink RX3 65 "PromiseClocksModel" "thrown" "I"] ++ wsX30)
def wsX3_work_r1 : List Cond := [Cond.fieldLink RX3 43 "PromiseClocksModel" "state" "[I", Cond.fieldLink RX3 34 "PromiseClocksModel" "siteOf" "[I", Cond.fieldLink RX3 37 "PromiseClocksModel" "kindOf" "[I", Cond.fieldLink RX3 96 "PromiseClocksModel" "now" "I", Cond.fieldLink RX3 59 "PromiseClocksModel" "ahead" "[I", Cond.fieldLink RX3 62 "PromiseClocksModel" "owes" "[I", Cond.methodLink RX3 114 yX3_isCase, Cond.instanceMethod yX3_isCase, Cond.selects RX3 yX3_isCase yX3_isCase, Cond.initialized RX3, Cond.code yX3_isCase cX3_isCase 2 (some .boolean), Cond.fieldLink RX3 73 "PromiseClocksModel" "cases" "I", Cond.methodLink RX3 69 yX3_in, Cond.static yX3_in, Cond.code yX3_in cX3_in 3 (some .boolean), Cond.methodLink RX3 84 yX3_asked__, Cond.instanceMethod yX3_asked__, Cond.selects RX3 yX3_asked__ yX3_asked__, Cond.code yX3_asked__ cX3_asked__ 4 (some .boolean), Cond.fieldLink RX3 65 "PromiseClocksModel" "thrown" "I", Cond.methodLink RX3 93 yX3_covered, Cond.instanceMethod yX3_covered, Cond.selects RX3 yX3_covered yX3_covered, Cond.code yX3_covered cX3_covered 6 (some .boolean)]
def wsX3_work_r2 : List Cond := [Cond.fieldLink RX3 28 "PromiseClocksModel" "contracts" "[I", Cond.fieldLink RX3 19 "PromiseClocksModel" "covers" "[I", Cond.fieldLink RX3 22 "PromiseClocksModel" "from" "[I", Cond.fieldLink RX3 25 "PromiseClocksModel" "to" "[I"]
def wsX3_work : List Cond := .code yX3_work cX3_work 6 (some .int) :: ((wsX3_work_r1 ++ wsX3_work_r2) ++ wsX30)
def wsX3_ahead : List Cond := .code yX3_ahead cX3_ahead 2 (some .int) :: ([.fieldLink RX3 59 "PromiseClocksModel" "ahead" "[I", .methodLink RX3 76 yX3_isSite, .static yX3_isSite, .initialized RX3, .code yX3_isSite cX3_isSite 1 (some .boolean), .methodLink RX3 69 yX3_in, .static yX3_in, .code yX3_in cX3_in 3 (some .boolean), .methodLink RX3 87 yX3_asked, .instanceMethod yX3_asked, .selects RX3 yX3_asked yX3_asked, .code yX3_asked cX3_asked 2 (some .boolean), .fieldLink RX3 65 "PromiseClocksModel" "thrown" "I"] ++ wsX30)
def wsX3_owes : List Cond := .code yX3_owes cX3_owes 2 (some .int) :: ([.fieldLink RX3 62 "PromiseClocksModel" "owes" "[I", .methodLink RX3 76 yX3_isSite, .static yX3_isSite, .initialized RX3, .code yX3_isSite cX3_isSite 1 (some .boolean), .methodLink RX3 69 yX3_in, .static yX3_in, .code yX3_in cX3_in 3 (some .boolean), .methodLink RX3 87 yX3_asked, .instanceMethod yX3_asked, .selects RX3 yX3_asked yX3_asked, .code yX3_asked cX3_asked 2 (some .boolean), .fieldLink RX3 65 "PromiseClocksModel" "thrown" "I"] ++ wsX30)
def wsJ9_max_7cf53 : List Cond := .code yJ9_max_7cf53 cJ9_max_7cf53 2 (some .int) :: ([])
def wsJ9_min_7cf53 : List Cond := .code yJ9_min_7cf53 cJ9_min_7cf53 2 (some .int) :: ([])
def wsL_setCalendar_r1 : List Cond := [Cond.classLink RL 13 "java/lang/IndexOutOfBoundsException", Cond.classLink RL 15 "java/lang/IllegalArgumentException", Cond.methodLink RL 7 yX2_setCalendar, Cond.instanceMethod yX2_setCalendar, Cond.selects RX2 yX2_setCalendar yX2_setCalendar, Cond.initialized RX2, Cond.code yX2_setCalendar cX2_setCalendar 7 (some .int), Cond.fieldLink RX2 41 "PromiseClocks$Site" "days" "I", Cond.fieldLink RX2 44 "PromiseClocks$Site" "firstHour" "I", Cond.fieldLink RX2 47 "PromiseClocks$Site" "lastHour" "I", Cond.methodLink RX2 33 yX2_siteAt, Cond.instanceMethod yX2_siteAt, Cond.selects RX2 yX2_siteAt yX2_siteAt, Cond.code yX2_siteAt cX2_siteAt 3 (some (.object "PromiseClocks$Site")), Cond.classLink RX2 155 "java/lang/IndexOutOfBoundsException", Cond.initialized "java/lang/IndexOutOfBoundsException", Cond.fieldLink RX2 11 "PromiseClocks" "sites" "[LPromiseClocks$Site;", Cond.methodLink RX2 37 yX2_checkRange, Cond.static yX2_checkRange, Cond.code yX2_checkRange cX2_checkRange 3 none, Cond.methodLink RX2 116 yX2_checkArgument, Cond.static yX2_checkArgument, Cond.code yX2_checkArgument cX2_checkArgument 1 none, Cond.classLink RX2 166 "java/lang/IllegalArgumentException"]
def wsL_setCalendar_r2 : List Cond := [Cond.initialized "java/lang/IllegalArgumentException"]
def wsL_setCalendar : List Cond := .codeWith yL_setCalendar cL_setCalendar 7 (some .int) [(0, 14, 17, 13), (0, 14, 21, 15)] :: ((wsL_setCalendar_r1 ++ wsL_setCalendar_r2) ++ wsX10 ++ wsX20 ++ (vx_atS RX2 159 "java/lang/IndexOutOfBoundsException" ["java/lang/RuntimeException", "java/lang/Exception"]).filter goodWord ++ (vx_atS RX2 170 "java/lang/IllegalArgumentException" ["java/lang/RuntimeException", "java/lang/Exception"]).filter goodWord)
def wsL_addContract_r1 : List Cond := [Cond.classLink RL 13 "java/lang/IndexOutOfBoundsException", Cond.classLink RL 15 "java/lang/IllegalArgumentException", Cond.classLink RL 20 "java/lang/IllegalStateException", Cond.methodLink RL 17 yX2_addContract, Cond.instanceMethod yX2_addContract, Cond.selects RX2 yX2_addContract yX2_addContract, Cond.initialized RX2, Cond.code yX2_addContract cX2_addContract 7 (some .int), Cond.fieldLink RX2 58 "PromiseClocks$Site" "contractCount" "I", Cond.methodLink RX2 33 yX2_siteAt, Cond.instanceMethod yX2_siteAt, Cond.selects RX2 yX2_siteAt yX2_siteAt, Cond.code yX2_siteAt cX2_siteAt 3 (some (.object "PromiseClocks$Site")), Cond.classLink RX2 155 "java/lang/IndexOutOfBoundsException", Cond.initialized "java/lang/IndexOutOfBoundsException", Cond.fieldLink RX2 11 "PromiseClocks" "sites" "[LPromiseClocks$Site;", Cond.methodLink RX2 37 yX2_checkRange, Cond.static yX2_checkRange, Cond.code yX2_checkRange cX2_checkRange 3 none, Cond.methodLink RX2 116 yX2_checkArgument, Cond.static yX2_checkArgument, Cond.code yX2_checkArgument cX2_checkArgument 1 none, Cond.classLink RX2 166 "java/lang/IllegalArgumentException", Cond.initialized "java/lang/IllegalArgumentException"]
def wsL_addContract_r2 : List Cond := [Cond.methodLink RX2 50 yX1_keepContract, Cond.instanceMethod yX1_keepContract, Cond.selects RX1 yX1_keepContract yX1_keepContract, Cond.initialized RX1, Cond.code yX1_keepContract cX1_keepContract 4 (some .boolean), Cond.fieldLink RX1 31 "PromiseClocks$Site" "contractCount" "I", Cond.fieldLink RX1 21 "PromiseClocks$Site" "contractKinds" "[I", Cond.fieldLink RX1 25 "PromiseClocks$Site" "contractFrom" "[I", Cond.fieldLink RX1 28 "PromiseClocks$Site" "contractTo" "[I", Cond.methodLink RX2 54 yX2_checkState, Cond.static yX2_checkState, Cond.code yX2_checkState cX2_checkState 1 none, Cond.classLink RX2 171 "java/lang/IllegalStateException", Cond.initialized "java/lang/IllegalStateException"]
def wsL_addContract : List Cond := .codeWith yL_addContract cL_addContract 7 (some .int) [(0, 14, 17, 13), (0, 14, 21, 15), (0, 14, 25, 20)] :: ((wsL_addContract_r1 ++ wsL_addContract_r2) ++ wsX10 ++ wsX20 ++ (vx_atS RX2 159 "java/lang/IndexOutOfBoundsException" ["java/lang/RuntimeException", "java/lang/Exception"]).filter goodWord ++ (vx_atS RX2 170 "java/lang/IllegalArgumentException" ["java/lang/RuntimeException", "java/lang/Exception"]).filter goodWord ++ (vx_atS RX2 175 "java/lang/IllegalStateException" ["java/lang/RuntimeException", "java/lang/Exception"]).filter goodWord)
def wsL_setPromise : List Cond := .codeWith yL_setPromise cL_setPromise 6 (some .int) [(0, 12, 15, 15)] :: ([.classLink RL 15 "java/lang/IllegalArgumentException", .methodLink RL 22 yX2_setPromise, .instanceMethod yX2_setPromise, .selects RX2 yX2_setPromise yX2_setPromise, .initialized RX2, .code yX2_setPromise cX2_setPromise 6 (some .int), .fieldLink RX2 15 "PromiseClocks" "promises" "[I", .methodLink RX2 37 yX2_checkRange, .static yX2_checkRange, .code yX2_checkRange cX2_checkRange 3 none, .methodLink RX2 116 yX2_checkArgument, .static yX2_checkArgument, .code yX2_checkArgument cX2_checkArgument 1 none, .classLink RX2 166 "java/lang/IllegalArgumentException", .initialized "java/lang/IllegalArgumentException"] ++ wsX20 ++ (vx_atS RX2 170 "java/lang/IllegalArgumentException" ["java/lang/RuntimeException", "java/lang/Exception"]).filter goodWord)
def wsL_isCovered_r1 : List Cond := [Cond.classLink RL 13 "java/lang/IndexOutOfBoundsException", Cond.classLink RL 15 "java/lang/IllegalArgumentException", Cond.methodLink RL 26 yX2_isCovered, Cond.instanceMethod yX2_isCovered, Cond.selects RX2 yX2_isCovered yX2_isCovered, Cond.initialized RX2, Cond.code yX2_isCovered cX2_isCovered 5 (some .boolean), Cond.methodLink RX2 33 yX2_siteAt, Cond.instanceMethod yX2_siteAt, Cond.selects RX2 yX2_siteAt yX2_siteAt, Cond.code yX2_siteAt cX2_siteAt 3 (some (.object "PromiseClocks$Site")), Cond.classLink RX2 155 "java/lang/IndexOutOfBoundsException", Cond.initialized "java/lang/IndexOutOfBoundsException", Cond.fieldLink RX2 11 "PromiseClocks" "sites" "[LPromiseClocks$Site;", Cond.methodLink RX2 61 yX2_checkKind, Cond.static yX2_checkKind, Cond.code yX2_checkKind cX2_checkKind 1 none, Cond.methodLink RX2 37 yX2_checkRange, Cond.static yX2_checkRange, Cond.code yX2_checkRange cX2_checkRange 3 none, Cond.methodLink RX2 116 yX2_checkArgument, Cond.static yX2_checkArgument, Cond.code yX2_checkArgument cX2_checkArgument 1 none, Cond.classLink RX2 166 "java/lang/IllegalArgumentException"]
def wsL_isCovered_r2 : List Cond := [Cond.initialized "java/lang/IllegalArgumentException", Cond.methodLink RX2 65 yX1_covers, Cond.instanceMethod yX1_covers, Cond.selects RX1 yX1_covers yX1_covers, Cond.initialized RX1, Cond.code yX1_covers cX1_covers 4 (some .boolean), Cond.fieldLink RX1 31 "PromiseClocks$Site" "contractCount" "I", Cond.fieldLink RX1 21 "PromiseClocks$Site" "contractKinds" "[I", Cond.fieldLink RX1 25 "PromiseClocks$Site" "contractFrom" "[I", Cond.fieldLink RX1 28 "PromiseClocks$Site" "contractTo" "[I"]
def wsL_isCovered : List Cond := .codeWith yL_isCovered cL_isCovered 6 (some .int) [(0, 19, 22, 13), (0, 19, 26, 15)] :: ((wsL_isCovered_r1 ++ wsL_isCovered_r2) ++ wsX20 ++ wsX10 ++ (vx_atS RX2 159 "java/lang/IndexOutOfBoundsException" ["java/lang/RuntimeException", "java/lang/Exception"]).filter goodWord ++ (vx_atS RX2 170 "java/lang/IllegalArgumentException" ["java/lang/RuntimeException", "java/lang/Exception"]).filter goodWord)
def wsL_nextGap_r1 : List Cond := [Cond.classLink RL 13 "java/lang/IndexOutOfBoundsException", Cond.classLink RL 15 "java/lang/IllegalArgumentException", Cond.methodLink RL 30 yX2_nextGap, Cond.instanceMethod yX2_nextGap, Cond.selects RX2 yX2_nextGap yX2_nextGap, Cond.initialized RX2, Cond.code yX2_nextGap cX2_nextGap 6 (some .int), Cond.methodLink RX2 33 yX2_siteAt, Cond.instanceMethod yX2_siteAt, Cond.selects RX2 yX2_siteAt yX2_siteAt, Cond.code yX2_siteAt cX2_siteAt 3 (some (.object "PromiseClocks$Site")), Cond.classLink RX2 155 "java/lang/IndexOutOfBoundsException", Cond.initialized "java/lang/IndexOutOfBoundsException", Cond.fieldLink RX2 11 "PromiseClocks" "sites" "[LPromiseClocks$Site;", Cond.methodLink RX2 61 yX2_checkKind, Cond.static yX2_checkKind, Cond.code yX2_checkKind cX2_checkKind 1 none, Cond.methodLink RX2 37 yX2_checkRange, Cond.static yX2_checkRange, Cond.code yX2_checkRange cX2_checkRange 3 none, Cond.methodLink RX2 116 yX2_checkArgument, Cond.static yX2_checkArgument, Cond.code yX2_checkArgument cX2_checkArgument 1 none, Cond.classLink RX2 166 "java/lang/IllegalArgumentException"]
def wsL_nextGap_r2 : List Cond := [Cond.initialized "java/lang/IllegalArgumentException", Cond.methodLink RX2 65 yX1_covers, Cond.instanceMethod yX1_covers, Cond.selects RX1 yX1_covers yX1_covers, Cond.initialized RX1, Cond.code yX1_covers cX1_covers 4 (some .boolean), Cond.fieldLink RX1 31 "PromiseClocks$Site" "contractCount" "I", Cond.fieldLink RX1 21 "PromiseClocks$Site" "contractKinds" "[I", Cond.fieldLink RX1 25 "PromiseClocks$Site" "contractFrom" "[I", Cond.fieldLink RX1 28 "PromiseClocks$Site" "contractTo" "[I"]
def wsL_nextGap : List Cond := .codeWith yL_nextGap cL_nextGap 6 (some .int) [(0, 12, 15, 13), (0, 12, 19, 15)] :: ((wsL_nextGap_r1 ++ wsL_nextGap_r2) ++ wsX20 ++ wsX10 ++ (vx_atS RX2 159 "java/lang/IndexOutOfBoundsException" ["java/lang/RuntimeException", "java/lang/Exception"]).filter goodWord ++ (vx_atS RX2 170 "java/lang/IllegalArgumentException" ["java/lang/RuntimeException", "java/lang/Exception"]).filter goodWord)
def wsL_pass_r1 : List Cond := [Cond.classLink RL 15 "java/lang/IllegalArgumentException", Cond.classLink RL 20 "java/lang/IllegalStateException", Cond.methodLink RL 33 yX2_pass, Cond.instanceMethod yX2_pass, Cond.selects RX2 yX2_pass yX2_pass, Cond.initialized RX2, Cond.code yX2_pass cX2_pass 6 (some .int), Cond.fieldLink RX2 29 "PromiseClocks" "now" "I", Cond.fieldLink RX2 21 "PromiseClocks" "cases" "[LPromiseClocks$Case;", Cond.methodLink RX2 37 yX2_checkRange, Cond.static yX2_checkRange, Cond.code yX2_checkRange cX2_checkRange 3 none, Cond.methodLink RX2 116 yX2_checkArgument, Cond.static yX2_checkArgument, Cond.code yX2_checkArgument cX2_checkArgument 1 none, Cond.classLink RX2 166 "java/lang/IllegalArgumentException", Cond.initialized "java/lang/IllegalArgumentException", Cond.methodLink RX2 54 yX2_checkState, Cond.static yX2_checkState, Cond.code yX2_checkState cX2_checkState 1 none, Cond.classLink RX2 171 "java/lang/IllegalStateException", Cond.initialized "java/lang/IllegalStateException", Cond.methodLink RX2 69 yX0_runClocks, Cond.instanceMethod yX0_runClocks]
def wsL_pass_r2 : List Cond := [Cond.selects RX0 yX0_runClocks yX0_runClocks, Cond.initialized RX0, Cond.code yX0_runClocks cX0_runClocks 5 none, Cond.fieldLink RX0 30 "PromiseClocks$Case" "site" "LPromiseClocks$Site;", Cond.fieldLink RX0 26 "PromiseClocks$Case" "clocks" "[I", Cond.methodLink RX0 40 yX0_isRunning, Cond.instanceMethod yX0_isRunning, Cond.selects RX0 yX0_isRunning yX0_isRunning, Cond.code yX0_isRunning cX0_isRunning 1 (some .boolean), Cond.fieldLink RX0 9 "PromiseClocks$Case" "state" "I", Cond.fieldLink RX0 15 "PromiseClocks$Case" "rests" "Z", Cond.methodLink RX0 44 yX1_countHours, Cond.instanceMethod yX1_countHours, Cond.selects RX1 yX1_countHours yX1_countHours, Cond.initialized RX1, Cond.code yX1_countHours cX1_countHours 3 (some .int), Cond.methodLink RX1 44 yX1_countBefore, Cond.instanceMethod yX1_countBefore, Cond.selects RX1 yX1_countBefore yX1_countBefore, Cond.code yX1_countBefore cX1_countBefore 7 (some .int), Cond.fieldLink RX1 9 "PromiseClocks$Site" "days" "I", Cond.fieldLink RX1 18 "PromiseClocks$Site" "lastHour" "I", Cond.fieldLink RX1 15 "PromiseClocks$Site" "firstHour" "I", Cond.methodLink RX1 53 Lib.Math.max.name]
def wsL_pass_r3 : List Cond := [Cond.static Lib.Math.max.name, Cond.initialized "java/lang/Math", Cond.code Lib.Math.max.name Lib.Math.max.code 2 (some .int), Cond.methodLink RX1 59 Lib.Math.min.name, Cond.static Lib.Math.min.name, Cond.code Lib.Math.min.name Lib.Math.min.code 2 (some .int), Cond.methodLink RX1 48 yJ6_bitCount_0f7a4, Cond.static yJ6_bitCount_0f7a4, Cond.initialized RJ6, Cond.code yJ6_bitCount_0f7a4 cJ6_bitCount_0f7a4 1 (some .int), Cond.constant RJ6 265 (1431655765), Cond.constant RJ6 266 (858993459), Cond.constant RJ6 267 (252645135), Cond.methodLink RX1 40 yX1_countsDay, Cond.instanceMethod yX1_countsDay, Cond.selects RX1 yX1_countsDay yX1_countsDay, Cond.code yX1_countsDay cX1_countsDay 2 (some .boolean), Cond.methodLink RX0 50 yX0_hasReached, Cond.instanceMethod yX0_hasReached, Cond.selects RX0 yX0_hasReached yX0_hasReached, Cond.code yX0_hasReached cX0_hasReached 2 (some .boolean), Cond.fieldLink RX0 23 "PromiseClocks$Case" "stagesReached" "I"]
def wsL_pass : List Cond := .codeWith yL_pass cL_pass 4 (some .int) [(0, 9, 12, 15), (0, 9, 15, 20)] :: ((wsL_pass_r1 ++ (wsL_pass_r2 ++ wsL_pass_r3)) ++ wsX20 ++ wsX00 ++ wsX10 ++ (vx_atS RX2 170 "java/lang/IllegalArgumentException" ["java/lang/RuntimeException", "java/lang/Exception"]).filter goodWord ++ (vx_atS RX2 175 "java/lang/IllegalStateException" ["java/lang/RuntimeException", "java/lang/Exception"]).filter goodWord)
def wsL_hours_r1 : List Cond := [Cond.classLink RL 13 "java/lang/IndexOutOfBoundsException", Cond.classLink RL 15 "java/lang/IllegalArgumentException", Cond.methodLink RL 37 yX2_hours, Cond.instanceMethod yX2_hours, Cond.selects RX2 yX2_hours yX2_hours, Cond.initialized RX2, Cond.code yX2_hours cX2_hours 5 (some .int), Cond.methodLink RX2 33 yX2_siteAt, Cond.instanceMethod yX2_siteAt, Cond.selects RX2 yX2_siteAt yX2_siteAt, Cond.code yX2_siteAt cX2_siteAt 3 (some (.object "PromiseClocks$Site")), Cond.classLink RX2 155 "java/lang/IndexOutOfBoundsException", Cond.initialized "java/lang/IndexOutOfBoundsException", Cond.fieldLink RX2 11 "PromiseClocks" "sites" "[LPromiseClocks$Site;", Cond.methodLink RX2 37 yX2_checkRange, Cond.static yX2_checkRange, Cond.code yX2_checkRange cX2_checkRange 3 none, Cond.methodLink RX2 116 yX2_checkArgument, Cond.static yX2_checkArgument, Cond.code yX2_checkArgument cX2_checkArgument 1 none, Cond.classLink RX2 166 "java/lang/IllegalArgumentException", Cond.initialized "java/lang/IllegalArgumentException", Cond.methodLink RX2 73 yX1_countHours, Cond.instanceMethod yX1_countHours]
def wsL_hours_r2 : List Cond := [Cond.selects RX1 yX1_countHours yX1_countHours, Cond.initialized RX1, Cond.code yX1_countHours cX1_countHours 3 (some .int), Cond.methodLink RX1 44 yX1_countBefore, Cond.instanceMethod yX1_countBefore, Cond.selects RX1 yX1_countBefore yX1_countBefore, Cond.code yX1_countBefore cX1_countBefore 7 (some .int), Cond.fieldLink RX1 9 "PromiseClocks$Site" "days" "I", Cond.fieldLink RX1 18 "PromiseClocks$Site" "lastHour" "I", Cond.fieldLink RX1 15 "PromiseClocks$Site" "firstHour" "I", Cond.methodLink RX1 53 Lib.Math.max.name, Cond.static Lib.Math.max.name, Cond.initialized "java/lang/Math", Cond.code Lib.Math.max.name Lib.Math.max.code 2 (some .int), Cond.methodLink RX1 59 Lib.Math.min.name, Cond.static Lib.Math.min.name, Cond.code Lib.Math.min.name Lib.Math.min.code 2 (some .int), Cond.methodLink RX1 48 yJ6_bitCount_0f7a4, Cond.static yJ6_bitCount_0f7a4, Cond.initialized RJ6, Cond.code yJ6_bitCount_0f7a4 cJ6_bitCount_0f7a4 1 (some .int), Cond.constant RJ6 265 (1431655765), Cond.constant RJ6 266 (858993459), Cond.constant RJ6 267 (252645135)]
def wsL_hours_r3 : List Cond := [Cond.methodLink RX1 40 yX1_countsDay, Cond.instanceMethod yX1_countsDay, Cond.selects RX1 yX1_countsDay yX1_countsDay, Cond.code yX1_countsDay cX1_countsDay 2 (some .boolean)]
def wsL_hours : List Cond := .codeWith yL_hours cL_hours 6 (some .int) [(0, 12, 15, 13), (0, 12, 19, 15)] :: ((wsL_hours_r1 ++ (wsL_hours_r2 ++ wsL_hours_r3)) ++ wsX20 ++ wsX10 ++ (vx_atS RX2 159 "java/lang/IndexOutOfBoundsException" ["java/lang/RuntimeException", "java/lang/Exception"]).filter goodWord ++ (vx_atS RX2 170 "java/lang/IllegalArgumentException" ["java/lang/RuntimeException", "java/lang/Exception"]).filter goodWord)
def wsL_hoursOneByOne_r1 : List Cond := [Cond.classLink RL 13 "java/lang/IndexOutOfBoundsException", Cond.classLink RL 15 "java/lang/IllegalArgumentException", Cond.methodLink RL 40 yX2_hoursOneByOne, Cond.instanceMethod yX2_hoursOneByOne, Cond.selects RX2 yX2_hoursOneByOne yX2_hoursOneByOne, Cond.initialized RX2, Cond.code yX2_hoursOneByOne cX2_hoursOneByOne 7 (some .int), Cond.methodLink RX2 33 yX2_siteAt, Cond.instanceMethod yX2_siteAt, Cond.selects RX2 yX2_siteAt yX2_siteAt, Cond.code yX2_siteAt cX2_siteAt 3 (some (.object "PromiseClocks$Site")), Cond.classLink RX2 155 "java/lang/IndexOutOfBoundsException", Cond.initialized "java/lang/IndexOutOfBoundsException", Cond.fieldLink RX2 11 "PromiseClocks" "sites" "[LPromiseClocks$Site;", Cond.methodLink RX2 37 yX2_checkRange, Cond.static yX2_checkRange, Cond.code yX2_checkRange cX2_checkRange 3 none, Cond.methodLink RX2 116 yX2_checkArgument, Cond.static yX2_checkArgument, Cond.code yX2_checkArgument cX2_checkArgument 1 none, Cond.classLink RX2 166 "java/lang/IllegalArgumentException", Cond.initialized "java/lang/IllegalArgumentException", Cond.methodLink RX2 77 yX1_counts, Cond.instanceMethod yX1_counts]
def wsL_hoursOneByOne_r2 : List Cond := [Cond.selects RX1 yX1_counts yX1_counts, Cond.initialized RX1, Cond.code yX1_counts cX1_counts 3 (some .boolean), Cond.fieldLink RX1 15 "PromiseClocks$Site" "firstHour" "I", Cond.fieldLink RX1 18 "PromiseClocks$Site" "lastHour" "I", Cond.methodLink RX1 40 yX1_countsDay, Cond.instanceMethod yX1_countsDay, Cond.selects RX1 yX1_countsDay yX1_countsDay, Cond.code yX1_countsDay cX1_countsDay 2 (some .boolean), Cond.fieldLink RX1 9 "PromiseClocks$Site" "days" "I"]
def wsL_hoursOneByOne : List Cond := .codeWith yL_hoursOneByOne cL_hoursOneByOne 6 (some .int) [(0, 12, 15, 13), (0, 12, 19, 15)] :: ((wsL_hoursOneByOne_r1 ++ wsL_hoursOneByOne_r2) ++ wsX20 ++ wsX10 ++ (vx_atS RX2 159 "java/lang/IndexOutOfBoundsException" ["java/lang/RuntimeException", "java/lang/Exception"]).filter goodWord ++ (vx_atS RX2 170 "java/lang/IllegalArgumentException" ["java/lang/RuntimeException", "java/lang/Exception"]).filter goodWord)
def wsL_open_r1 : List Cond := [Cond.classLink RL 13 "java/lang/IndexOutOfBoundsException", Cond.classLink RL 15 "java/lang/IllegalArgumentException", Cond.classLink RL 20 "java/lang/IllegalStateException", Cond.methodLink RL 43 yX2_open, Cond.instanceMethod yX2_open, Cond.selects RX2 yX2_open yX2_open, Cond.initialized RX2, Cond.code yX2_open cX2_open 6 (some .int), Cond.fieldLink RX2 25 "PromiseClocks" "caseCount" "I", Cond.fieldLink RX2 21 "PromiseClocks" "cases" "[LPromiseClocks$Case;", Cond.classLink RX2 19 RX0, Cond.instantiable RX0 8, Cond.initialized RX0, Cond.methodLink RX2 33 yX2_siteAt, Cond.instanceMethod yX2_siteAt, Cond.selects RX2 yX2_siteAt yX2_siteAt, Cond.code yX2_siteAt cX2_siteAt 3 (some (.object "PromiseClocks$Site")), Cond.classLink RX2 155 "java/lang/IndexOutOfBoundsException", Cond.initialized "java/lang/IndexOutOfBoundsException", Cond.fieldLink RX2 11 "PromiseClocks" "sites" "[LPromiseClocks$Site;", Cond.methodLink RX2 61 yX2_checkKind, Cond.static yX2_checkKind, Cond.code yX2_checkKind cX2_checkKind 1 none, Cond.methodLink RX2 37 yX2_checkRange]
def wsL_open_r2 : List Cond := [Cond.static yX2_checkRange, Cond.code yX2_checkRange cX2_checkRange 3 none, Cond.methodLink RX2 116 yX2_checkArgument, Cond.static yX2_checkArgument, Cond.code yX2_checkArgument cX2_checkArgument 1 none, Cond.classLink RX2 166 "java/lang/IllegalArgumentException", Cond.initialized "java/lang/IllegalArgumentException", Cond.methodLink RX2 54 yX2_checkState, Cond.static yX2_checkState, Cond.code yX2_checkState cX2_checkState 1 none, Cond.classLink RX2 171 "java/lang/IllegalStateException", Cond.initialized "java/lang/IllegalStateException", Cond.methodLink RX2 81 yX0_init, Cond.instanceMethod yX0_init, Cond.code yX0_init cX0_init 4 none, Cond.methodLink RX0 3 objectInit, Cond.instanceMethod objectInit, Cond.code objectInit ⟨#[0xb1]⟩ 1 none, Cond.fieldLink RX0 9 "PromiseClocks$Case" "state" "I", Cond.fieldLink RX0 15 "PromiseClocks$Case" "rests" "Z", Cond.fieldLink RX0 19 "PromiseClocks$Case" "head" "LPromiseClocks$Case;", Cond.fieldLink RX0 23 "PromiseClocks$Case" "stagesReached" "I", Cond.arrayClass .int, Cond.fieldLink RX0 26 "PromiseClocks$Case" "clocks" "[I"]
def wsL_open_r3 : List Cond := [Cond.fieldLink RX0 30 "PromiseClocks$Case" "site" "LPromiseClocks$Site;", Cond.fieldLink RX0 34 "PromiseClocks$Case" "kind" "I", Cond.fieldLink RX0 37 "PromiseClocks$Case" "gravity" "I"]
def wsL_open : List Cond := .codeWith yL_open cL_open 6 (some .int) [(0, 12, 15, 13), (0, 12, 19, 15), (0, 12, 23, 20)] :: ((wsL_open_r1 ++ (wsL_open_r2 ++ wsL_open_r3)) ++ wsX20 ++ wsX00 ++ (vx_atS RX2 159 "java/lang/IndexOutOfBoundsException" ["java/lang/RuntimeException", "java/lang/Exception"]).filter goodWord ++ (vx_atS RX2 170 "java/lang/IllegalArgumentException" ["java/lang/RuntimeException", "java/lang/Exception"]).filter goodWord ++ (vx_atS RX2 175 "java/lang/IllegalStateException" ["java/lang/RuntimeException", "java/lang/Exception"]).filter goodWord)
def wsL_reach_r1 : List Cond := [Cond.classLink RL 13 "java/lang/IndexOutOfBoundsException", Cond.classLink RL 15 "java/lang/IllegalArgumentException", Cond.classLink RL 20 "java/lang/IllegalStateException", Cond.methodLink RL 46 yX2_reach, Cond.instanceMethod yX2_reach, Cond.selects RX2 yX2_reach yX2_reach, Cond.initialized RX2, Cond.code yX2_reach cX2_reach 5 (some .int), Cond.fieldLink RX2 88 "PromiseClocks$Case" "state" "I", Cond.fieldLink RX2 94 "PromiseClocks$Case" "stagesReached" "I", Cond.methodLink RX2 84 yX2_caseAt, Cond.instanceMethod yX2_caseAt, Cond.selects RX2 yX2_caseAt yX2_caseAt, Cond.code yX2_caseAt cX2_caseAt 3 (some (.object "PromiseClocks$Case")), Cond.classLink RX2 155 "java/lang/IndexOutOfBoundsException", Cond.initialized "java/lang/IndexOutOfBoundsException", Cond.fieldLink RX2 21 "PromiseClocks" "cases" "[LPromiseClocks$Case;", Cond.methodLink RX2 37 yX2_checkRange, Cond.static yX2_checkRange, Cond.code yX2_checkRange cX2_checkRange 3 none, Cond.methodLink RX2 116 yX2_checkArgument, Cond.static yX2_checkArgument, Cond.code yX2_checkArgument cX2_checkArgument 1 none, Cond.classLink RX2 166 "java/lang/IllegalArgumentException"]
def wsL_reach_r2 : List Cond := [Cond.initialized "java/lang/IllegalArgumentException", Cond.methodLink RX2 91 yX0_hasReached, Cond.instanceMethod yX0_hasReached, Cond.selects RX0 yX0_hasReached yX0_hasReached, Cond.initialized RX0, Cond.code yX0_hasReached cX0_hasReached 2 (some .boolean), Cond.fieldLink RX0 23 "PromiseClocks$Case" "stagesReached" "I", Cond.methodLink RX2 54 yX2_checkState, Cond.static yX2_checkState, Cond.code yX2_checkState cX2_checkState 1 none, Cond.classLink RX2 171 "java/lang/IllegalStateException", Cond.initialized "java/lang/IllegalStateException", Cond.methodLink RX2 97 yX2_countMissedOfReached, Cond.instanceMethod yX2_countMissedOfReached, Cond.selects RX2 yX2_countMissedOfReached yX2_countMissedOfReached, Cond.code yX2_countMissedOfReached cX2_countMissedOfReached 4 (some .int), Cond.methodLink RX2 134 yX2_misses, Cond.instanceMethod yX2_misses, Cond.selects RX2 yX2_misses yX2_misses, Cond.code yX2_misses cX2_misses 3 (some .boolean), Cond.fieldLink RX2 131 "PromiseClocks$Case" "clocks" "[I", Cond.methodLink RX2 176 yX2_promiseFor, Cond.instanceMethod yX2_promiseFor, Cond.selects RX2 yX2_promiseFor yX2_promiseFor]
def wsL_reach_r3 : List Cond := [Cond.code yX2_promiseFor cX2_promiseFor 3 (some .int), Cond.fieldLink RX2 15 "PromiseClocks" "promises" "[I", Cond.fieldLink RX2 109 "PromiseClocks$Case" "gravity" "I", Cond.methodLink RX2 101 yX2_closeMended, Cond.instanceMethod yX2_closeMended, Cond.selects RX2 yX2_closeMended yX2_closeMended, Cond.code yX2_closeMended cX2_closeMended 7 none, Cond.fieldLink RX2 112 "PromiseClocks$Case" "site" "LPromiseClocks$Site;", Cond.fieldLink RX2 148 "PromiseClocks$Site" "centsOwed" "I", Cond.methodLink RX2 189 yX0_isJoinedTo, Cond.instanceMethod yX0_isJoinedTo, Cond.selects RX0 yX0_isJoinedTo yX0_isJoinedTo, Cond.code yX0_isJoinedTo cX0_isJoinedTo 2 (some .boolean), Cond.fieldLink RX0 9 "PromiseClocks$Case" "state" "I", Cond.fieldLink RX0 19 "PromiseClocks$Case" "head" "LPromiseClocks$Case;", Cond.methodLink RX2 151 yX2_isCoveredToday, Cond.instanceMethod yX2_isCoveredToday, Cond.selects RX2 yX2_isCoveredToday yX2_isCoveredToday, Cond.code yX2_isCoveredToday cX2_isCoveredToday 2 (some .boolean), Cond.fieldLink RX2 186 "PromiseClocks$Case" "kind" "I", Cond.fieldLink RX2 29 "PromiseClocks" "now" "I", Cond.methodLink RX2 65 yX1_covers, Cond.instanceMethod yX1_covers, Cond.selects RX1 yX1_covers yX1_covers]
def wsL_reach_r4 : List Cond := [Cond.initialized RX1, Cond.code yX1_covers cX1_covers 4 (some .boolean), Cond.fieldLink RX1 31 "PromiseClocks$Site" "contractCount" "I", Cond.fieldLink RX1 21 "PromiseClocks$Site" "contractKinds" "[I", Cond.fieldLink RX1 25 "PromiseClocks$Site" "contractFrom" "[I", Cond.fieldLink RX1 28 "PromiseClocks$Site" "contractTo" "[I"]
def wsL_reach : List Cond := .codeWith yL_reach cL_reach 5 (some .int) [(0, 10, 13, 13), (0, 10, 17, 15), (0, 10, 21, 20)] :: ((wsL_reach_r1 ++ (wsL_reach_r2 ++ (wsL_reach_r3 ++ wsL_reach_r4))) ++ wsX00 ++ wsX20 ++ wsX10 ++ (vx_atS RX2 159 "java/lang/IndexOutOfBoundsException" ["java/lang/RuntimeException", "java/lang/Exception"]).filter goodWord ++ (vx_atS RX2 170 "java/lang/IllegalArgumentException" ["java/lang/RuntimeException", "java/lang/Exception"]).filter goodWord ++ (vx_atS RX2 175 "java/lang/IllegalStateException" ["java/lang/RuntimeException", "java/lang/Exception"]).filter goodWord)
def wsL_rest : List Cond := .codeWith yL_rest cL_rest 5 (some .int) [(0, 17, 20, 13), (0, 17, 24, 20)] :: ([.classLink RL 13 "java/lang/IndexOutOfBoundsException", .classLink RL 20 "java/lang/IllegalStateException", .methodLink RL 50 yX2_rest, .instanceMethod yX2_rest, .selects RX2 yX2_rest yX2_rest, .initialized RX2, .code yX2_rest cX2_rest 5 (some .boolean), .fieldLink RX2 88 "PromiseClocks$Case" "state" "I", .fieldLink RX2 105 "PromiseClocks$Case" "rests" "Z", .methodLink RX2 84 yX2_caseAt, .instanceMethod yX2_caseAt, .selects RX2 yX2_caseAt yX2_caseAt, .code yX2_caseAt cX2_caseAt 3 (some (.object "PromiseClocks$Case")), .classLink RX2 155 "java/lang/IndexOutOfBoundsException", .initialized "java/lang/IndexOutOfBoundsException", .fieldLink RX2 21 "PromiseClocks" "cases" "[LPromiseClocks$Case;", .methodLink RX2 54 yX2_checkState, .static yX2_checkState, .code yX2_checkState cX2_checkState 1 none, .classLink RX2 171 "java/lang/IllegalStateException", .initialized "java/lang/IllegalStateException"] ++ wsX00 ++ wsX20 ++ (vx_atS RX2 159 "java/lang/IndexOutOfBoundsException" ["java/lang/RuntimeException", "java/lang/Exception"]).filter goodWord ++ (vx_atS RX2 175 "java/lang/IllegalStateException" ["java/lang/RuntimeException", "java/lang/Exception"]).filter goodWord)
def wsL_setGravity_r1 : List Cond := [Cond.classLink RL 13 "java/lang/IndexOutOfBoundsException", Cond.classLink RL 15 "java/lang/IllegalArgumentException", Cond.classLink RL 20 "java/lang/IllegalStateException", Cond.methodLink RL 54 yX2_setGravity, Cond.instanceMethod yX2_setGravity, Cond.selects RX2 yX2_setGravity yX2_setGravity, Cond.initialized RX2, Cond.code yX2_setGravity cX2_setGravity 5 (some .int), Cond.fieldLink RX2 88 "PromiseClocks$Case" "state" "I", Cond.fieldLink RX2 109 "PromiseClocks$Case" "gravity" "I", Cond.methodLink RX2 84 yX2_caseAt, Cond.instanceMethod yX2_caseAt, Cond.selects RX2 yX2_caseAt yX2_caseAt, Cond.code yX2_caseAt cX2_caseAt 3 (some (.object "PromiseClocks$Case")), Cond.classLink RX2 155 "java/lang/IndexOutOfBoundsException", Cond.initialized "java/lang/IndexOutOfBoundsException", Cond.fieldLink RX2 21 "PromiseClocks" "cases" "[LPromiseClocks$Case;", Cond.methodLink RX2 37 yX2_checkRange, Cond.static yX2_checkRange, Cond.code yX2_checkRange cX2_checkRange 3 none, Cond.methodLink RX2 116 yX2_checkArgument, Cond.static yX2_checkArgument, Cond.code yX2_checkArgument cX2_checkArgument 1 none, Cond.classLink RX2 166 "java/lang/IllegalArgumentException"]
def wsL_setGravity_r2 : List Cond := [Cond.initialized "java/lang/IllegalArgumentException", Cond.methodLink RX2 54 yX2_checkState, Cond.static yX2_checkState, Cond.code yX2_checkState cX2_checkState 1 none, Cond.classLink RX2 171 "java/lang/IllegalStateException", Cond.initialized "java/lang/IllegalStateException"]
def wsL_setGravity : List Cond := .codeWith yL_setGravity cL_setGravity 5 (some .int) [(0, 10, 13, 13), (0, 10, 17, 15), (0, 10, 21, 20)] :: ((wsL_setGravity_r1 ++ wsL_setGravity_r2) ++ wsX00 ++ wsX20 ++ (vx_atS RX2 159 "java/lang/IndexOutOfBoundsException" ["java/lang/RuntimeException", "java/lang/Exception"]).filter goodWord ++ (vx_atS RX2 170 "java/lang/IllegalArgumentException" ["java/lang/RuntimeException", "java/lang/Exception"]).filter goodWord ++ (vx_atS RX2 175 "java/lang/IllegalStateException" ["java/lang/RuntimeException", "java/lang/Exception"]).filter goodWord)
def wsL_join_r1 : List Cond := [Cond.classLink RL 13 "java/lang/IndexOutOfBoundsException", Cond.classLink RL 15 "java/lang/IllegalArgumentException", Cond.classLink RL 20 "java/lang/IllegalStateException", Cond.methodLink RL 57 yX2_join, Cond.instanceMethod yX2_join, Cond.selects RX2 yX2_join yX2_join, Cond.initialized RX2, Cond.code yX2_join cX2_join 5 (some .int), Cond.fieldLink RX2 112 "PromiseClocks$Case" "site" "LPromiseClocks$Site;", Cond.fieldLink RX2 88 "PromiseClocks$Case" "state" "I", Cond.fieldLink RX2 122 "PromiseClocks$Case" "head" "LPromiseClocks$Case;", Cond.methodLink RX2 84 yX2_caseAt, Cond.instanceMethod yX2_caseAt, Cond.selects RX2 yX2_caseAt yX2_caseAt, Cond.code yX2_caseAt cX2_caseAt 3 (some (.object "PromiseClocks$Case")), Cond.classLink RX2 155 "java/lang/IndexOutOfBoundsException", Cond.initialized "java/lang/IndexOutOfBoundsException", Cond.fieldLink RX2 21 "PromiseClocks" "cases" "[LPromiseClocks$Case;", Cond.methodLink RX2 116 yX2_checkArgument, Cond.static yX2_checkArgument, Cond.code yX2_checkArgument cX2_checkArgument 1 none, Cond.classLink RX2 166 "java/lang/IllegalArgumentException", Cond.initialized "java/lang/IllegalArgumentException", Cond.methodLink RX2 119 yX2_countJoinedTo]
def wsL_join_r2 : List Cond := [Cond.instanceMethod yX2_countJoinedTo, Cond.selects RX2 yX2_countJoinedTo yX2_countJoinedTo, Cond.code yX2_countJoinedTo cX2_countJoinedTo 7 (some .int), Cond.methodLink RX2 189 yX0_isJoinedTo, Cond.instanceMethod yX0_isJoinedTo, Cond.selects RX0 yX0_isJoinedTo yX0_isJoinedTo, Cond.initialized RX0, Cond.code yX0_isJoinedTo cX0_isJoinedTo 2 (some .boolean), Cond.fieldLink RX0 9 "PromiseClocks$Case" "state" "I", Cond.fieldLink RX0 19 "PromiseClocks$Case" "head" "LPromiseClocks$Case;", Cond.methodLink RX2 54 yX2_checkState, Cond.static yX2_checkState, Cond.code yX2_checkState cX2_checkState 1 none, Cond.classLink RX2 171 "java/lang/IllegalStateException", Cond.initialized "java/lang/IllegalStateException"]
def wsL_join : List Cond := .codeWith yL_join cL_join 5 (some .int) [(0, 10, 13, 13), (0, 10, 17, 15), (0, 10, 21, 20)] :: ((wsL_join_r1 ++ wsL_join_r2) ++ wsX00 ++ wsX20 ++ (vx_atS RX2 159 "java/lang/IndexOutOfBoundsException" ["java/lang/RuntimeException", "java/lang/Exception"]).filter goodWord ++ (vx_atS RX2 170 "java/lang/IllegalArgumentException" ["java/lang/RuntimeException", "java/lang/Exception"]).filter goodWord ++ (vx_atS RX2 175 "java/lang/IllegalStateException" ["java/lang/RuntimeException", "java/lang/Exception"]).filter goodWord)
def wsL_openAnew_r1 : List Cond := [Cond.classLink RL 13 "java/lang/IndexOutOfBoundsException", Cond.classLink RL 20 "java/lang/IllegalStateException", Cond.methodLink RL 60 yX2_openAnew, Cond.instanceMethod yX2_openAnew, Cond.selects RX2 yX2_openAnew yX2_openAnew, Cond.initialized RX2, Cond.code yX2_openAnew cX2_openAnew 3 (some .int), Cond.fieldLink RX2 88 "PromiseClocks$Case" "state" "I", Cond.fieldLink RX2 105 "PromiseClocks$Case" "rests" "Z", Cond.fieldLink RX2 94 "PromiseClocks$Case" "stagesReached" "I", Cond.methodLink RX2 126 Lib.Math.min.name, Cond.static Lib.Math.min.name, Cond.initialized "java/lang/Math", Cond.code Lib.Math.min.name Lib.Math.min.code 2 (some .int), Cond.fieldLink RX2 131 "PromiseClocks$Case" "clocks" "[I", Cond.methodLink RX2 84 yX2_caseAt, Cond.instanceMethod yX2_caseAt, Cond.selects RX2 yX2_caseAt yX2_caseAt, Cond.code yX2_caseAt cX2_caseAt 3 (some (.object "PromiseClocks$Case")), Cond.classLink RX2 155 "java/lang/IndexOutOfBoundsException", Cond.initialized "java/lang/IndexOutOfBoundsException", Cond.fieldLink RX2 21 "PromiseClocks" "cases" "[LPromiseClocks$Case;", Cond.methodLink RX2 54 yX2_checkState, Cond.static yX2_checkState]
def wsL_openAnew_r2 : List Cond := [Cond.code yX2_checkState cX2_checkState 1 none, Cond.classLink RX2 171 "java/lang/IllegalStateException", Cond.initialized "java/lang/IllegalStateException"]
def wsL_openAnew : List Cond := .codeWith yL_openAnew cL_openAnew 4 (some .int) [(0, 9, 12, 13), (0, 9, 15, 20)] :: ((wsL_openAnew_r1 ++ wsL_openAnew_r2) ++ wsX00 ++ wsX20 ++ (vx_atS RX2 159 "java/lang/IndexOutOfBoundsException" ["java/lang/RuntimeException", "java/lang/Exception"]).filter goodWord ++ (vx_atS RX2 175 "java/lang/IllegalStateException" ["java/lang/RuntimeException", "java/lang/Exception"]).filter goodWord)
def wsL_stateOf : List Cond := .codeWith yL_stateOf cL_stateOf 4 (some .int) [(0, 9, 12, 13)] :: ([.classLink RL 13 "java/lang/IndexOutOfBoundsException", .methodLink RL 63 yX2_stateOf, .instanceMethod yX2_stateOf, .selects RX2 yX2_stateOf yX2_stateOf, .initialized RX2, .code yX2_stateOf cX2_stateOf 2 (some .int), .fieldLink RX2 88 "PromiseClocks$Case" "state" "I", .methodLink RX2 84 yX2_caseAt, .instanceMethod yX2_caseAt, .selects RX2 yX2_caseAt yX2_caseAt, .code yX2_caseAt cX2_caseAt 3 (some (.object "PromiseClocks$Case")), .classLink RX2 155 "java/lang/IndexOutOfBoundsException", .initialized "java/lang/IndexOutOfBoundsException", .fieldLink RX2 21 "PromiseClocks" "cases" "[LPromiseClocks$Case;"] ++ wsX00 ++ wsX20 ++ (vx_atS RX2 159 "java/lang/IndexOutOfBoundsException" ["java/lang/RuntimeException", "java/lang/Exception"]).filter goodWord)
def wsL_clock : List Cond := .codeWith yL_clock cL_clock 5 (some .int) [(0, 10, 13, 13), (0, 10, 17, 15)] :: ([.classLink RL 13 "java/lang/IndexOutOfBoundsException", .classLink RL 15 "java/lang/IllegalArgumentException", .methodLink RL 66 yX2_clock, .instanceMethod yX2_clock, .selects RX2 yX2_clock yX2_clock, .initialized RX2, .code yX2_clock cX2_clock 4 (some .int), .fieldLink RX2 131 "PromiseClocks$Case" "clocks" "[I", .methodLink RX2 84 yX2_caseAt, .instanceMethod yX2_caseAt, .selects RX2 yX2_caseAt yX2_caseAt, .code yX2_caseAt cX2_caseAt 3 (some (.object "PromiseClocks$Case")), .classLink RX2 155 "java/lang/IndexOutOfBoundsException", .initialized "java/lang/IndexOutOfBoundsException", .fieldLink RX2 21 "PromiseClocks" "cases" "[LPromiseClocks$Case;", .methodLink RX2 37 yX2_checkRange, .static yX2_checkRange, .code yX2_checkRange cX2_checkRange 3 none, .methodLink RX2 116 yX2_checkArgument, .static yX2_checkArgument, .code yX2_checkArgument cX2_checkArgument 1 none, .classLink RX2 166 "java/lang/IllegalArgumentException", .initialized "java/lang/IllegalArgumentException"] ++ wsX00 ++ wsX20 ++ (vx_atS RX2 159 "java/lang/IndexOutOfBoundsException" ["java/lang/RuntimeException", "java/lang/Exception"]).filter goodWord ++ (vx_atS RX2 170 "java/lang/IllegalArgumentException" ["java/lang/RuntimeException", "java/lang/Exception"]).filter goodWord)
def wsL_isMissed_r1 : List Cond := [Cond.classLink RL 13 "java/lang/IndexOutOfBoundsException", Cond.classLink RL 15 "java/lang/IllegalArgumentException", Cond.methodLink RL 69 yX2_isMissed, Cond.instanceMethod yX2_isMissed, Cond.selects RX2 yX2_isMissed yX2_isMissed, Cond.initialized RX2, Cond.code yX2_isMissed cX2_isMissed 4 (some .boolean), Cond.methodLink RX2 84 yX2_caseAt, Cond.instanceMethod yX2_caseAt, Cond.selects RX2 yX2_caseAt yX2_caseAt, Cond.code yX2_caseAt cX2_caseAt 3 (some (.object "PromiseClocks$Case")), Cond.classLink RX2 155 "java/lang/IndexOutOfBoundsException", Cond.initialized "java/lang/IndexOutOfBoundsException", Cond.fieldLink RX2 21 "PromiseClocks" "cases" "[LPromiseClocks$Case;", Cond.methodLink RX2 37 yX2_checkRange, Cond.static yX2_checkRange, Cond.code yX2_checkRange cX2_checkRange 3 none, Cond.methodLink RX2 116 yX2_checkArgument, Cond.static yX2_checkArgument, Cond.code yX2_checkArgument cX2_checkArgument 1 none, Cond.classLink RX2 166 "java/lang/IllegalArgumentException", Cond.initialized "java/lang/IllegalArgumentException", Cond.methodLink RX2 134 yX2_misses, Cond.instanceMethod yX2_misses]
def wsL_isMissed_r2 : List Cond := [Cond.selects RX2 yX2_misses yX2_misses, Cond.code yX2_misses cX2_misses 3 (some .boolean), Cond.fieldLink RX2 131 "PromiseClocks$Case" "clocks" "[I", Cond.methodLink RX2 176 yX2_promiseFor, Cond.instanceMethod yX2_promiseFor, Cond.selects RX2 yX2_promiseFor yX2_promiseFor, Cond.code yX2_promiseFor cX2_promiseFor 3 (some .int), Cond.fieldLink RX2 15 "PromiseClocks" "promises" "[I", Cond.fieldLink RX2 109 "PromiseClocks$Case" "gravity" "I"]
def wsL_isMissed : List Cond := .codeWith yL_isMissed cL_isMissed 5 (some .int) [(0, 17, 20, 13), (0, 17, 24, 15)] :: ((wsL_isMissed_r1 ++ wsL_isMissed_r2) ++ wsX20 ++ wsX00 ++ (vx_atS RX2 159 "java/lang/IndexOutOfBoundsException" ["java/lang/RuntimeException", "java/lang/Exception"]).filter goodWord ++ (vx_atS RX2 170 "java/lang/IllegalArgumentException" ["java/lang/RuntimeException", "java/lang/Exception"]).filter goodWord)
def wsL_step_r1 : List Cond := [Cond.classLink RL 13 "java/lang/IndexOutOfBoundsException", Cond.methodLink RL 73 yX2_step, Cond.instanceMethod yX2_step, Cond.selects RX2 yX2_step yX2_step, Cond.initialized RX2, Cond.code yX2_step cX2_step 2 (some .int), Cond.methodLink RX2 84 yX2_caseAt, Cond.instanceMethod yX2_caseAt, Cond.selects RX2 yX2_caseAt yX2_caseAt, Cond.code yX2_caseAt cX2_caseAt 3 (some (.object "PromiseClocks$Case")), Cond.classLink RX2 155 "java/lang/IndexOutOfBoundsException", Cond.initialized "java/lang/IndexOutOfBoundsException", Cond.fieldLink RX2 21 "PromiseClocks" "cases" "[LPromiseClocks$Case;", Cond.methodLink RX2 138 yX2_greatestStep, Cond.instanceMethod yX2_greatestStep, Cond.selects RX2 yX2_greatestStep yX2_greatestStep, Cond.code yX2_greatestStep cX2_greatestStep 4 (some .int), Cond.methodLink RX2 183 Lib.Math.max.name, Cond.static Lib.Math.max.name, Cond.initialized "java/lang/Math", Cond.code Lib.Math.max.name Lib.Math.max.code 2 (some .int), Cond.methodLink RX2 180 yX2_stepOfStage, Cond.instanceMethod yX2_stepOfStage, Cond.selects RX2 yX2_stepOfStage yX2_stepOfStage]
def wsL_step_r2 : List Cond := [Cond.code yX2_stepOfStage cX2_stepOfStage 5 (some .int), Cond.fieldLink RX2 131 "PromiseClocks$Case" "clocks" "[I", Cond.methodLink RX2 91 yX0_hasReached, Cond.instanceMethod yX0_hasReached, Cond.selects RX0 yX0_hasReached yX0_hasReached, Cond.initialized RX0, Cond.code yX0_hasReached cX0_hasReached 2 (some .boolean), Cond.fieldLink RX0 23 "PromiseClocks$Case" "stagesReached" "I", Cond.methodLink RX2 176 yX2_promiseFor, Cond.instanceMethod yX2_promiseFor, Cond.selects RX2 yX2_promiseFor yX2_promiseFor, Cond.code yX2_promiseFor cX2_promiseFor 3 (some .int), Cond.fieldLink RX2 15 "PromiseClocks" "promises" "[I", Cond.fieldLink RX2 109 "PromiseClocks$Case" "gravity" "I"]
def wsL_step : List Cond := .codeWith yL_step cL_step 4 (some .int) [(0, 9, 12, 13)] :: ((wsL_step_r1 ++ wsL_step_r2) ++ wsX20 ++ wsX00 ++ (vx_atS RX2 159 "java/lang/IndexOutOfBoundsException" ["java/lang/RuntimeException", "java/lang/Exception"]).filter goodWord)
def wsL_buy : List Cond := .codeWith yL_buy cL_buy 5 (some .int) [(0, 10, 13, 13), (0, 10, 17, 15)] :: ([.classLink RL 13 "java/lang/IndexOutOfBoundsException", .classLink RL 15 "java/lang/IllegalArgumentException", .methodLink RL 76 yX2_buy, .instanceMethod yX2_buy, .selects RX2 yX2_buy yX2_buy, .initialized RX2, .code yX2_buy cX2_buy 4 (some .int), .fieldLink RX2 145 "PromiseClocks$Site" "hoursAhead" "I", .fieldLink RX2 148 "PromiseClocks$Site" "centsOwed" "I", .methodLink RX2 33 yX2_siteAt, .instanceMethod yX2_siteAt, .selects RX2 yX2_siteAt yX2_siteAt, .code yX2_siteAt cX2_siteAt 3 (some (.object "PromiseClocks$Site")), .classLink RX2 155 "java/lang/IndexOutOfBoundsException", .initialized "java/lang/IndexOutOfBoundsException", .fieldLink RX2 11 "PromiseClocks" "sites" "[LPromiseClocks$Site;", .methodLink RX2 37 yX2_checkRange, .static yX2_checkRange, .code yX2_checkRange cX2_checkRange 3 none, .methodLink RX2 116 yX2_checkArgument, .static yX2_checkArgument, .code yX2_checkArgument cX2_checkArgument 1 none, .classLink RX2 166 "java/lang/IllegalArgumentException", .initialized "java/lang/IllegalArgumentException"] ++ wsX10 ++ wsX20 ++ (vx_atS RX2 159 "java/lang/IndexOutOfBoundsException" ["java/lang/RuntimeException", "java/lang/Exception"]).filter goodWord ++ (vx_atS RX2 170 "java/lang/IllegalArgumentException" ["java/lang/RuntimeException", "java/lang/Exception"]).filter goodWord)
def wsL_work_r1 : List Cond := [Cond.classLink RL 13 "java/lang/IndexOutOfBoundsException", Cond.classLink RL 15 "java/lang/IllegalArgumentException", Cond.classLink RL 20 "java/lang/IllegalStateException", Cond.methodLink RL 79 yX2_work, Cond.instanceMethod yX2_work, Cond.selects RX2 yX2_work yX2_work, Cond.initialized RX2, Cond.code yX2_work cX2_work 7 (some .int), Cond.fieldLink RX2 88 "PromiseClocks$Case" "state" "I", Cond.fieldLink RX2 112 "PromiseClocks$Case" "site" "LPromiseClocks$Site;", Cond.fieldLink RX2 145 "PromiseClocks$Site" "hoursAhead" "I", Cond.methodLink RX2 126 Lib.Math.min.name, Cond.static Lib.Math.min.name, Cond.initialized "java/lang/Math", Cond.code Lib.Math.min.name Lib.Math.min.code 2 (some .int), Cond.fieldLink RX2 148 "PromiseClocks$Site" "centsOwed" "I", Cond.methodLink RX2 84 yX2_caseAt, Cond.instanceMethod yX2_caseAt, Cond.selects RX2 yX2_caseAt yX2_caseAt, Cond.code yX2_caseAt cX2_caseAt 3 (some (.object "PromiseClocks$Case")), Cond.classLink RX2 155 "java/lang/IndexOutOfBoundsException", Cond.initialized "java/lang/IndexOutOfBoundsException", Cond.fieldLink RX2 21 "PromiseClocks" "cases" "[LPromiseClocks$Case;", Cond.methodLink RX2 37 yX2_checkRange]
def wsL_work_r2 : List Cond := [Cond.static yX2_checkRange, Cond.code yX2_checkRange cX2_checkRange 3 none, Cond.methodLink RX2 116 yX2_checkArgument, Cond.static yX2_checkArgument, Cond.code yX2_checkArgument cX2_checkArgument 1 none, Cond.classLink RX2 166 "java/lang/IllegalArgumentException", Cond.initialized "java/lang/IllegalArgumentException", Cond.methodLink RX2 54 yX2_checkState, Cond.static yX2_checkState, Cond.code yX2_checkState cX2_checkState 1 none, Cond.classLink RX2 171 "java/lang/IllegalStateException", Cond.initialized "java/lang/IllegalStateException", Cond.methodLink RX2 151 yX2_isCoveredToday, Cond.instanceMethod yX2_isCoveredToday, Cond.selects RX2 yX2_isCoveredToday yX2_isCoveredToday, Cond.code yX2_isCoveredToday cX2_isCoveredToday 2 (some .boolean), Cond.fieldLink RX2 186 "PromiseClocks$Case" "kind" "I", Cond.fieldLink RX2 29 "PromiseClocks" "now" "I", Cond.methodLink RX2 65 yX1_covers, Cond.instanceMethod yX1_covers, Cond.selects RX1 yX1_covers yX1_covers, Cond.initialized RX1, Cond.code yX1_covers cX1_covers 4 (some .boolean), Cond.fieldLink RX1 31 "PromiseClocks$Site" "contractCount" "I"]
def wsL_work_r3 : List Cond := [Cond.fieldLink RX1 21 "PromiseClocks$Site" "contractKinds" "[I", Cond.fieldLink RX1 25 "PromiseClocks$Site" "contractFrom" "[I", Cond.fieldLink RX1 28 "PromiseClocks$Site" "contractTo" "[I"]
def wsL_work : List Cond := .codeWith yL_work cL_work 5 (some .int) [(0, 10, 13, 13), (0, 10, 17, 15), (0, 10, 21, 20)] :: ((wsL_work_r1 ++ (wsL_work_r2 ++ wsL_work_r3)) ++ wsX00 ++ wsX10 ++ wsX20 ++ (vx_atS RX2 159 "java/lang/IndexOutOfBoundsException" ["java/lang/RuntimeException", "java/lang/Exception"]).filter goodWord ++ (vx_atS RX2 170 "java/lang/IllegalArgumentException" ["java/lang/RuntimeException", "java/lang/Exception"]).filter goodWord ++ (vx_atS RX2 175 "java/lang/IllegalStateException" ["java/lang/RuntimeException", "java/lang/Exception"]).filter goodWord)
def wsL_ahead : List Cond := .codeWith yL_ahead cL_ahead 4 (some .int) [(0, 9, 12, 13)] :: ([.classLink RL 13 "java/lang/IndexOutOfBoundsException", .methodLink RL 82 yX2_ahead, .instanceMethod yX2_ahead, .selects RX2 yX2_ahead yX2_ahead, .initialized RX2, .code yX2_ahead cX2_ahead 2 (some .int), .fieldLink RX2 145 "PromiseClocks$Site" "hoursAhead" "I", .methodLink RX2 33 yX2_siteAt, .instanceMethod yX2_siteAt, .selects RX2 yX2_siteAt yX2_siteAt, .code yX2_siteAt cX2_siteAt 3 (some (.object "PromiseClocks$Site")), .classLink RX2 155 "java/lang/IndexOutOfBoundsException", .initialized "java/lang/IndexOutOfBoundsException", .fieldLink RX2 11 "PromiseClocks" "sites" "[LPromiseClocks$Site;"] ++ wsX10 ++ wsX20 ++ (vx_atS RX2 159 "java/lang/IndexOutOfBoundsException" ["java/lang/RuntimeException", "java/lang/Exception"]).filter goodWord)
def wsL_owes : List Cond := .codeWith yL_owes cL_owes 4 (some .int) [(0, 9, 12, 13)] :: ([.classLink RL 13 "java/lang/IndexOutOfBoundsException", .methodLink RL 85 yX2_owes, .instanceMethod yX2_owes, .selects RX2 yX2_owes yX2_owes, .initialized RX2, .code yX2_owes cX2_owes 2 (some .int), .fieldLink RX2 148 "PromiseClocks$Site" "centsOwed" "I", .methodLink RX2 33 yX2_siteAt, .instanceMethod yX2_siteAt, .selects RX2 yX2_siteAt yX2_siteAt, .code yX2_siteAt cX2_siteAt 3 (some (.object "PromiseClocks$Site")), .classLink RX2 155 "java/lang/IndexOutOfBoundsException", .initialized "java/lang/IndexOutOfBoundsException", .fieldLink RX2 11 "PromiseClocks" "sites" "[LPromiseClocks$Site;"] ++ wsX10 ++ wsX20 ++ (vx_atS RX2 159 "java/lang/IndexOutOfBoundsException" ["java/lang/RuntimeException", "java/lang/Exception"]).filter goodWord)
def wsL_law0_r1 : List Cond := [Cond.classLink RL 8 RX2, Cond.instantiable RX2 5, Cond.initialized RX2, Cond.classLink RL 89 RX3, Cond.instantiable RX3 21, Cond.initialized RX3, Cond.arrayClass .long, Cond.methodLink RL 88 yX2_init, Cond.instanceMethod yX2_init, Cond.code yX2_init cX2_init 2 none, Cond.methodLink RX2 1 objectInit, Cond.instanceMethod objectInit, Cond.code objectInit ⟨#[0xb1]⟩ 1 none, Cond.classLink RX2 9 RX1, Cond.fieldLink RX2 11 "PromiseClocks" "sites" "[LPromiseClocks$Site;", Cond.arrayClass .int, Cond.fieldLink RX2 15 "PromiseClocks" "promises" "[I", Cond.classLink RX2 19 RX0, Cond.fieldLink RX2 21 "PromiseClocks" "cases" "[LPromiseClocks$Case;", Cond.fieldLink RX2 25 "PromiseClocks" "caseCount" "I", Cond.fieldLink RX2 29 "PromiseClocks" "now" "I", Cond.instantiable RX1 9, Cond.initialized RX1, Cond.instanceMethod yX1_init]
def wsL_law0_r2 : List Cond := [Cond.code yX1_init cX1_init 1 none, Cond.methodLink RX1 3 objectInit, Cond.fieldLink RX1 9 "PromiseClocks$Site" "days" "I", Cond.fieldLink RX1 15 "PromiseClocks$Site" "firstHour" "I", Cond.fieldLink RX1 18 "PromiseClocks$Site" "lastHour" "I", Cond.fieldLink RX1 21 "PromiseClocks$Site" "contractKinds" "[I", Cond.fieldLink RX1 25 "PromiseClocks$Site" "contractFrom" "[I", Cond.fieldLink RX1 28 "PromiseClocks$Site" "contractTo" "[I", Cond.fieldLink RX1 31 "PromiseClocks$Site" "contractCount" "I", Cond.fieldLink RX1 34 "PromiseClocks$Site" "hoursAhead" "I", Cond.fieldLink RX1 37 "PromiseClocks$Site" "centsOwed" "I", Cond.methodLink RL 91 yX3_init, Cond.instanceMethod yX3_init, Cond.code yX3_init cX3_init 2 none, Cond.methodLink RX3 1 objectInit, Cond.fieldLink RX3 7 "PromiseClocksModel" "days" "[I", Cond.fieldLink RX3 13 "PromiseClocksModel" "first" "[I", Cond.fieldLink RX3 16 "PromiseClocksModel" "last" "[I", Cond.fieldLink RX3 19 "PromiseClocksModel" "covers" "[I", Cond.fieldLink RX3 22 "PromiseClocksModel" "from" "[I", Cond.fieldLink RX3 25 "PromiseClocksModel" "to" "[I", Cond.fieldLink RX3 28 "PromiseClocksModel" "contracts" "[I", Cond.fieldLink RX3 31 "PromiseClocksModel" "promise" "[I", Cond.fieldLink RX3 34 "PromiseClocksModel" "siteOf" "[I"]
def wsL_law0_r3 : List Cond := [Cond.fieldLink RX3 37 "PromiseClocksModel" "kindOf" "[I", Cond.fieldLink RX3 40 "PromiseClocksModel" "gravity" "[I", Cond.fieldLink RX3 43 "PromiseClocksModel" "state" "[I", Cond.fieldLink RX3 46 "PromiseClocksModel" "head" "[I", Cond.arrayClass .boolean, Cond.fieldLink RX3 49 "PromiseClocksModel" "rests" "[Z", Cond.fieldLink RX3 53 "PromiseClocksModel" "clock" "[I", Cond.fieldLink RX3 56 "PromiseClocksModel" "reached" "[Z", Cond.fieldLink RX3 59 "PromiseClocksModel" "ahead" "[I", Cond.fieldLink RX3 62 "PromiseClocksModel" "owes" "[I", Cond.methodLink RL 92 yL_setCalendar, Cond.static yL_setCalendar, Cond.initialized RL, Cond.codeWith yL_setCalendar cL_setCalendar 7 (some .int) [(0, 14, 17, 13), (0, 14, 21, 15)], Cond.classLink RL 13 "java/lang/IndexOutOfBoundsException", Cond.classLink RL 15 "java/lang/IllegalArgumentException", Cond.methodLink RL 7 yX2_setCalendar, Cond.instanceMethod yX2_setCalendar, Cond.selects RX2 yX2_setCalendar yX2_setCalendar, Cond.code yX2_setCalendar cX2_setCalendar 7 (some .int), Cond.fieldLink RX2 41 "PromiseClocks$Site" "days" "I", Cond.fieldLink RX2 44 "PromiseClocks$Site" "firstHour" "I", Cond.fieldLink RX2 47 "PromiseClocks$Site" "lastHour" "I", Cond.methodLink RX2 33 yX2_siteAt]
def wsL_law0_r4 : List Cond := [Cond.instanceMethod yX2_siteAt, Cond.selects RX2 yX2_siteAt yX2_siteAt, Cond.code yX2_siteAt cX2_siteAt 3 (some (.object "PromiseClocks$Site")), Cond.classLink RX2 155 "java/lang/IndexOutOfBoundsException", Cond.initialized "java/lang/IndexOutOfBoundsException", Cond.methodLink RX2 37 yX2_checkRange, Cond.static yX2_checkRange, Cond.code yX2_checkRange cX2_checkRange 3 none, Cond.methodLink RX2 116 yX2_checkArgument, Cond.static yX2_checkArgument, Cond.code yX2_checkArgument cX2_checkArgument 1 none, Cond.classLink RX2 166 "java/lang/IllegalArgumentException", Cond.initialized "java/lang/IllegalArgumentException", Cond.methodLink RL 97 yX3_setCalendar, Cond.instanceMethod yX3_setCalendar, Cond.selects RX3 yX3_setCalendar yX3_setCalendar, Cond.code yX3_setCalendar cX3_setCalendar 6 (some .int), Cond.methodLink RX3 76 yX3_isSite, Cond.static yX3_isSite, Cond.code yX3_isSite cX3_isSite 1 (some .boolean), Cond.methodLink RX3 69 yX3_in, Cond.static yX3_in, Cond.code yX3_in cX3_in 3 (some .boolean), Cond.methodLink RX3 80 yX3_asked_]
def wsL_law0_r5 : List Cond := [Cond.instanceMethod yX3_asked_, Cond.selects RX3 yX3_asked_ yX3_asked_, Cond.code yX3_asked_ cX3_asked_ 3 (some .boolean), Cond.fieldLink RX3 65 "PromiseClocksModel" "thrown" "I", Cond.methodLink RL 98 yX3_thrown, Cond.instanceMethod yX3_thrown, Cond.selects RX3 yX3_thrown yX3_thrown, Cond.code yX3_thrown cX3_thrown 1 (some .int), Cond.methodLink RL 102 yL_addContract, Cond.static yL_addContract, Cond.codeWith yL_addContract cL_addContract 7 (some .int) [(0, 14, 17, 13), (0, 14, 21, 15), (0, 14, 25, 20)], Cond.classLink RL 20 "java/lang/IllegalStateException", Cond.methodLink RL 17 yX2_addContract, Cond.instanceMethod yX2_addContract, Cond.selects RX2 yX2_addContract yX2_addContract, Cond.code yX2_addContract cX2_addContract 7 (some .int), Cond.fieldLink RX2 58 "PromiseClocks$Site" "contractCount" "I", Cond.methodLink RX2 50 yX1_keepContract, Cond.instanceMethod yX1_keepContract, Cond.selects RX1 yX1_keepContract yX1_keepContract, Cond.code yX1_keepContract cX1_keepContract 4 (some .boolean), Cond.methodLink RX2 54 yX2_checkState, Cond.static yX2_checkState, Cond.code yX2_checkState cX2_checkState 1 none]
def wsL_law0_r6 : List Cond := [Cond.classLink RX2 171 "java/lang/IllegalStateException", Cond.initialized "java/lang/IllegalStateException", Cond.methodLink RL 104 yX3_addContract, Cond.instanceMethod yX3_addContract, Cond.selects RX3 yX3_addContract yX3_addContract, Cond.code yX3_addContract cX3_addContract 7 (some .int), Cond.methodLink RX3 84 yX3_asked__, Cond.instanceMethod yX3_asked__, Cond.selects RX3 yX3_asked__ yX3_asked__, Cond.code yX3_asked__ cX3_asked__ 4 (some .boolean), Cond.methodLink RL 105 yL_setPromise, Cond.static yL_setPromise, Cond.codeWith yL_setPromise cL_setPromise 6 (some .int) [(0, 12, 15, 15)], Cond.methodLink RL 22 yX2_setPromise, Cond.instanceMethod yX2_setPromise, Cond.selects RX2 yX2_setPromise yX2_setPromise, Cond.code yX2_setPromise cX2_setPromise 6 (some .int), Cond.methodLink RL 108 yX3_setPromise, Cond.instanceMethod yX3_setPromise, Cond.selects RX3 yX3_setPromise yX3_setPromise, Cond.code yX3_setPromise cX3_setPromise 5 (some .int), Cond.methodLink RX3 87 yX3_asked, Cond.instanceMethod yX3_asked, Cond.selects RX3 yX3_asked yX3_asked]
def wsL_law0_r7 : List Cond := [Cond.code yX3_asked cX3_asked 2 (some .boolean), Cond.methodLink RL 109 yL_isCovered, Cond.static yL_isCovered, Cond.codeWith yL_isCovered cL_isCovered 6 (some .int) [(0, 19, 22, 13), (0, 19, 26, 15)], Cond.methodLink RL 26 yX2_isCovered, Cond.instanceMethod yX2_isCovered, Cond.selects RX2 yX2_isCovered yX2_isCovered, Cond.code yX2_isCovered cX2_isCovered 5 (some .boolean), Cond.methodLink RX2 61 yX2_checkKind, Cond.static yX2_checkKind, Cond.code yX2_checkKind cX2_checkKind 1 none, Cond.methodLink RX2 65 yX1_covers, Cond.instanceMethod yX1_covers, Cond.selects RX1 yX1_covers yX1_covers, Cond.code yX1_covers cX1_covers 4 (some .boolean), Cond.methodLink RL 111 yX3_isCovered, Cond.instanceMethod yX3_isCovered, Cond.selects RX3 yX3_isCovered yX3_isCovered, Cond.code yX3_isCovered cX3_isCovered 4 (some .boolean), Cond.methodLink RX3 90 yX3_isKind, Cond.static yX3_isKind, Cond.code yX3_isKind cX3_isKind 1 (some .boolean), Cond.methodLink RX3 93 yX3_covered, Cond.instanceMethod yX3_covered]
def wsL_law0_r8 : List Cond := [Cond.selects RX3 yX3_covered yX3_covered, Cond.code yX3_covered cX3_covered 6 (some .boolean), Cond.methodLink RL 112 yL_nextGap, Cond.static yL_nextGap, Cond.codeWith yL_nextGap cL_nextGap 6 (some .int) [(0, 12, 15, 13), (0, 12, 19, 15)], Cond.methodLink RL 30 yX2_nextGap, Cond.instanceMethod yX2_nextGap, Cond.selects RX2 yX2_nextGap yX2_nextGap, Cond.code yX2_nextGap cX2_nextGap 6 (some .int), Cond.methodLink RL 114 yX3_nextGap, Cond.instanceMethod yX3_nextGap, Cond.selects RX3 yX3_nextGap yX3_nextGap, Cond.code yX3_nextGap cX3_nextGap 5 (some .int), Cond.methodLink RL 115 yL_pass, Cond.static yL_pass, Cond.codeWith yL_pass cL_pass 4 (some .int) [(0, 9, 12, 15), (0, 9, 15, 20)], Cond.methodLink RL 33 yX2_pass, Cond.instanceMethod yX2_pass, Cond.selects RX2 yX2_pass yX2_pass, Cond.code yX2_pass cX2_pass 6 (some .int), Cond.methodLink RX2 69 yX0_runClocks, Cond.instanceMethod yX0_runClocks, Cond.selects RX0 yX0_runClocks yX0_runClocks, Cond.initialized RX0]
def wsL_law0_r9 : List Cond := [Cond.code yX0_runClocks cX0_runClocks 5 none, Cond.fieldLink RX0 30 "PromiseClocks$Case" "site" "LPromiseClocks$Site;", Cond.fieldLink RX0 26 "PromiseClocks$Case" "clocks" "[I", Cond.methodLink RX0 40 yX0_isRunning, Cond.instanceMethod yX0_isRunning, Cond.selects RX0 yX0_isRunning yX0_isRunning, Cond.code yX0_isRunning cX0_isRunning 1 (some .boolean), Cond.fieldLink RX0 9 "PromiseClocks$Case" "state" "I", Cond.fieldLink RX0 15 "PromiseClocks$Case" "rests" "Z", Cond.methodLink RX0 44 yX1_countHours, Cond.instanceMethod yX1_countHours, Cond.selects RX1 yX1_countHours yX1_countHours, Cond.code yX1_countHours cX1_countHours 3 (some .int), Cond.methodLink RX1 44 yX1_countBefore, Cond.instanceMethod yX1_countBefore, Cond.selects RX1 yX1_countBefore yX1_countBefore, Cond.code yX1_countBefore cX1_countBefore 7 (some .int), Cond.methodLink RX1 53 Lib.Math.max.name, Cond.static Lib.Math.max.name, Cond.initialized "java/lang/Math", Cond.code Lib.Math.max.name Lib.Math.max.code 2 (some .int), Cond.methodLink RX1 59 Lib.Math.min.name, Cond.static Lib.Math.min.name, Cond.code Lib.Math.min.name Lib.Math.min.code 2 (some .int)]
def wsL_law0_r10 : List Cond := [Cond.methodLink RX1 48 yJ6_bitCount_0f7a4, Cond.static yJ6_bitCount_0f7a4, Cond.initialized RJ6, Cond.code yJ6_bitCount_0f7a4 cJ6_bitCount_0f7a4 1 (some .int), Cond.constant RJ6 265 (1431655765), Cond.constant RJ6 266 (858993459), Cond.constant RJ6 267 (252645135), Cond.methodLink RX1 40 yX1_countsDay, Cond.instanceMethod yX1_countsDay, Cond.selects RX1 yX1_countsDay yX1_countsDay, Cond.code yX1_countsDay cX1_countsDay 2 (some .boolean), Cond.methodLink RX0 50 yX0_hasReached, Cond.instanceMethod yX0_hasReached, Cond.selects RX0 yX0_hasReached yX0_hasReached, Cond.code yX0_hasReached cX0_hasReached 2 (some .boolean), Cond.fieldLink RX0 23 "PromiseClocks$Case" "stagesReached" "I", Cond.methodLink RL 118 yX3_pass, Cond.instanceMethod yX3_pass, Cond.selects RX3 yX3_pass yX3_pass, Cond.code yX3_pass cX3_pass 6 (some .int), Cond.fieldLink RX3 96 "PromiseClocksModel" "now" "I", Cond.fieldLink RX3 73 "PromiseClocksModel" "cases" "I", Cond.methodLink RX3 99 yX3_counts, Cond.instanceMethod yX3_counts]
def wsL_law0_r11 : List Cond := [Cond.selects RX3 yX3_counts yX3_counts, Cond.code yX3_counts cX3_counts 3 (some .boolean), Cond.methodLink RL 119 yX2_time, Cond.instanceMethod yX2_time, Cond.selects RX2 yX2_time yX2_time, Cond.code yX2_time cX2_time 1 (some .int), Cond.methodLink RL 122 yX3_time, Cond.instanceMethod yX3_time, Cond.selects RX3 yX3_time yX3_time, Cond.code yX3_time cX3_time 1 (some .int), Cond.methodLink RX3 103 yX3_told, Cond.instanceMethod yX3_told, Cond.selects RX3 yX3_told yX3_told, Cond.code yX3_told cX3_told 2 (some .int), Cond.methodLink RL 123 yL_hours, Cond.static yL_hours, Cond.codeWith yL_hours cL_hours 6 (some .int) [(0, 12, 15, 13), (0, 12, 19, 15)], Cond.methodLink RL 37 yX2_hours, Cond.instanceMethod yX2_hours, Cond.selects RX2 yX2_hours yX2_hours, Cond.code yX2_hours cX2_hours 5 (some .int), Cond.methodLink RX2 73 yX1_countHours, Cond.methodLink RL 125 yX3_hours, Cond.instanceMethod yX3_hours]
def wsL_law0_r12 : List Cond := [Cond.selects RX3 yX3_hours yX3_hours, Cond.code yX3_hours cX3_hours 7 (some .int), Cond.methodLink RL 126 yL_hoursOneByOne, Cond.static yL_hoursOneByOne, Cond.codeWith yL_hoursOneByOne cL_hoursOneByOne 6 (some .int) [(0, 12, 15, 13), (0, 12, 19, 15)], Cond.methodLink RL 40 yX2_hoursOneByOne, Cond.instanceMethod yX2_hoursOneByOne, Cond.selects RX2 yX2_hoursOneByOne yX2_hoursOneByOne, Cond.code yX2_hoursOneByOne cX2_hoursOneByOne 7 (some .int), Cond.methodLink RX2 77 yX1_counts, Cond.instanceMethod yX1_counts, Cond.selects RX1 yX1_counts yX1_counts, Cond.code yX1_counts cX1_counts 3 (some .boolean), Cond.methodLink RL 128 yX3_hoursOneByOne, Cond.instanceMethod yX3_hoursOneByOne, Cond.selects RX3 yX3_hoursOneByOne yX3_hoursOneByOne, Cond.code yX3_hoursOneByOne cX3_hoursOneByOne 4 (some .int), Cond.methodLink RX3 107 yX3_hours, Cond.methodLink RL 129 yL_open, Cond.static yL_open, Cond.codeWith yL_open cL_open 6 (some .int) [(0, 12, 15, 13), (0, 12, 19, 15), (0, 12, 23, 20)], Cond.methodLink RL 43 yX2_open, Cond.instanceMethod yX2_open, Cond.selects RX2 yX2_open yX2_open]
def wsL_law0_r13 : List Cond := [Cond.code yX2_open cX2_open 6 (some .int), Cond.instantiable RX0 8, Cond.methodLink RX2 81 yX0_init, Cond.instanceMethod yX0_init, Cond.code yX0_init cX0_init 4 none, Cond.methodLink RX0 3 objectInit, Cond.fieldLink RX0 19 "PromiseClocks$Case" "head" "LPromiseClocks$Case;", Cond.fieldLink RX0 34 "PromiseClocks$Case" "kind" "I", Cond.fieldLink RX0 37 "PromiseClocks$Case" "gravity" "I", Cond.methodLink RL 131 yX3_open, Cond.instanceMethod yX3_open, Cond.selects RX3 yX3_open yX3_open, Cond.code yX3_open cX3_open 4 (some .int), Cond.methodLink RL 132 yL_reach, Cond.static yL_reach, Cond.codeWith yL_reach cL_reach 5 (some .int) [(0, 10, 13, 13), (0, 10, 17, 15), (0, 10, 21, 20)], Cond.methodLink RL 46 yX2_reach, Cond.instanceMethod yX2_reach, Cond.selects RX2 yX2_reach yX2_reach, Cond.code yX2_reach cX2_reach 5 (some .int), Cond.fieldLink RX2 88 "PromiseClocks$Case" "state" "I", Cond.fieldLink RX2 94 "PromiseClocks$Case" "stagesReached" "I", Cond.methodLink RX2 84 yX2_caseAt, Cond.instanceMethod yX2_caseAt]
def wsL_law0_r14 : List Cond := [Cond.selects RX2 yX2_caseAt yX2_caseAt, Cond.code yX2_caseAt cX2_caseAt 3 (some (.object "PromiseClocks$Case")), Cond.methodLink RX2 91 yX0_hasReached, Cond.methodLink RX2 97 yX2_countMissedOfReached, Cond.instanceMethod yX2_countMissedOfReached, Cond.selects RX2 yX2_countMissedOfReached yX2_countMissedOfReached, Cond.code yX2_countMissedOfReached cX2_countMissedOfReached 4 (some .int), Cond.methodLink RX2 134 yX2_misses, Cond.instanceMethod yX2_misses, Cond.selects RX2 yX2_misses yX2_misses, Cond.code yX2_misses cX2_misses 3 (some .boolean), Cond.fieldLink RX2 131 "PromiseClocks$Case" "clocks" "[I", Cond.methodLink RX2 176 yX2_promiseFor, Cond.instanceMethod yX2_promiseFor, Cond.selects RX2 yX2_promiseFor yX2_promiseFor, Cond.code yX2_promiseFor cX2_promiseFor 3 (some .int), Cond.fieldLink RX2 109 "PromiseClocks$Case" "gravity" "I", Cond.methodLink RX2 101 yX2_closeMended, Cond.instanceMethod yX2_closeMended, Cond.selects RX2 yX2_closeMended yX2_closeMended, Cond.code yX2_closeMended cX2_closeMended 7 none, Cond.fieldLink RX2 112 "PromiseClocks$Case" "site" "LPromiseClocks$Site;", Cond.fieldLink RX2 148 "PromiseClocks$Site" "centsOwed" "I", Cond.methodLink RX2 189 yX0_isJoinedTo]
def wsL_law0_r15 : List Cond := [Cond.instanceMethod yX0_isJoinedTo, Cond.selects RX0 yX0_isJoinedTo yX0_isJoinedTo, Cond.code yX0_isJoinedTo cX0_isJoinedTo 2 (some .boolean), Cond.methodLink RX2 151 yX2_isCoveredToday, Cond.instanceMethod yX2_isCoveredToday, Cond.selects RX2 yX2_isCoveredToday yX2_isCoveredToday, Cond.code yX2_isCoveredToday cX2_isCoveredToday 2 (some .boolean), Cond.fieldLink RX2 186 "PromiseClocks$Case" "kind" "I", Cond.methodLink RL 135 yX3_reach, Cond.instanceMethod yX3_reach, Cond.selects RX3 yX3_reach yX3_reach, Cond.code yX3_reach cX3_reach 7 (some .int), Cond.methodLink RX3 114 yX3_isCase, Cond.instanceMethod yX3_isCase, Cond.selects RX3 yX3_isCase yX3_isCase, Cond.code yX3_isCase cX3_isCase 2 (some .boolean), Cond.methodLink RX3 117 yX3_missedOf, Cond.instanceMethod yX3_missedOf, Cond.selects RX3 yX3_missedOf yX3_missedOf, Cond.code yX3_missedOf cX3_missedOf 4 (some .int), Cond.methodLink RX3 111 yX3_missed, Cond.instanceMethod yX3_missed, Cond.selects RX3 yX3_missed yX3_missed, Cond.code yX3_missed cX3_missed 3 (some .boolean)]
def wsL_law0_r16 : List Cond := [Cond.methodLink RL 136 yL_rest, Cond.static yL_rest, Cond.codeWith yL_rest cL_rest 5 (some .int) [(0, 17, 20, 13), (0, 17, 24, 20)], Cond.methodLink RL 50 yX2_rest, Cond.instanceMethod yX2_rest, Cond.selects RX2 yX2_rest yX2_rest, Cond.code yX2_rest cX2_rest 5 (some .boolean), Cond.fieldLink RX2 105 "PromiseClocks$Case" "rests" "Z", Cond.methodLink RL 139 yX3_rest, Cond.instanceMethod yX3_rest, Cond.selects RX3 yX3_rest yX3_rest, Cond.code yX3_rest cX3_rest 5 (some .boolean), Cond.methodLink RL 140 yL_setGravity, Cond.static yL_setGravity, Cond.codeWith yL_setGravity cL_setGravity 5 (some .int) [(0, 10, 13, 13), (0, 10, 17, 15), (0, 10, 21, 20)], Cond.methodLink RL 54 yX2_setGravity, Cond.instanceMethod yX2_setGravity, Cond.selects RX2 yX2_setGravity yX2_setGravity, Cond.code yX2_setGravity cX2_setGravity 5 (some .int), Cond.methodLink RL 142 yX3_setGravity, Cond.instanceMethod yX3_setGravity, Cond.selects RX3 yX3_setGravity yX3_setGravity, Cond.code yX3_setGravity cX3_setGravity 5 (some .int), Cond.methodLink RL 143 yL_join]
def wsL_law0_r17 : List Cond := [Cond.static yL_join, Cond.codeWith yL_join cL_join 5 (some .int) [(0, 10, 13, 13), (0, 10, 17, 15), (0, 10, 21, 20)], Cond.methodLink RL 57 yX2_join, Cond.instanceMethod yX2_join, Cond.selects RX2 yX2_join yX2_join, Cond.code yX2_join cX2_join 5 (some .int), Cond.fieldLink RX2 122 "PromiseClocks$Case" "head" "LPromiseClocks$Case;", Cond.methodLink RX2 119 yX2_countJoinedTo, Cond.instanceMethod yX2_countJoinedTo, Cond.selects RX2 yX2_countJoinedTo yX2_countJoinedTo, Cond.code yX2_countJoinedTo cX2_countJoinedTo 7 (some .int), Cond.methodLink RL 145 yX3_join, Cond.instanceMethod yX3_join, Cond.selects RX3 yX3_join yX3_join, Cond.code yX3_join cX3_join 5 (some .int), Cond.methodLink RX3 120 yX3_joinedTo, Cond.instanceMethod yX3_joinedTo, Cond.selects RX3 yX3_joinedTo yX3_joinedTo, Cond.code yX3_joinedTo cX3_joinedTo 4 (some .int), Cond.methodLink RL 146 yL_openAnew, Cond.static yL_openAnew, Cond.codeWith yL_openAnew cL_openAnew 4 (some .int) [(0, 9, 12, 13), (0, 9, 15, 20)], Cond.methodLink RL 60 yX2_openAnew, Cond.instanceMethod yX2_openAnew]
def wsL_law0_r18 : List Cond := [Cond.selects RX2 yX2_openAnew yX2_openAnew, Cond.code yX2_openAnew cX2_openAnew 3 (some .int), Cond.methodLink RX2 126 Lib.Math.min.name, Cond.methodLink RL 148 yX3_openAnew, Cond.instanceMethod yX3_openAnew, Cond.selects RX3 yX3_openAnew yX3_openAnew, Cond.code yX3_openAnew cX3_openAnew 3 (some .int), Cond.methodLink RL 149 yL_stateOf, Cond.static yL_stateOf, Cond.codeWith yL_stateOf cL_stateOf 4 (some .int) [(0, 9, 12, 13)], Cond.methodLink RL 63 yX2_stateOf, Cond.instanceMethod yX2_stateOf, Cond.selects RX2 yX2_stateOf yX2_stateOf, Cond.code yX2_stateOf cX2_stateOf 2 (some .int), Cond.methodLink RL 151 yX3_stateOf, Cond.instanceMethod yX3_stateOf, Cond.selects RX3 yX3_stateOf yX3_stateOf, Cond.code yX3_stateOf cX3_stateOf 2 (some .int), Cond.methodLink RL 152 yL_clock, Cond.static yL_clock, Cond.codeWith yL_clock cL_clock 5 (some .int) [(0, 10, 13, 13), (0, 10, 17, 15)], Cond.methodLink RL 66 yX2_clock, Cond.instanceMethod yX2_clock, Cond.selects RX2 yX2_clock yX2_clock]
def wsL_law0_r19 : List Cond := [Cond.code yX2_clock cX2_clock 4 (some .int), Cond.methodLink RL 154 yX3_clock, Cond.instanceMethod yX3_clock, Cond.selects RX3 yX3_clock yX3_clock, Cond.code yX3_clock cX3_clock 3 (some .int), Cond.methodLink RX3 123 yX3_isStage, Cond.static yX3_isStage, Cond.code yX3_isStage cX3_isStage 1 (some .boolean), Cond.methodLink RL 155 yL_isMissed, Cond.static yL_isMissed, Cond.codeWith yL_isMissed cL_isMissed 5 (some .int) [(0, 17, 20, 13), (0, 17, 24, 15)], Cond.methodLink RL 69 yX2_isMissed, Cond.instanceMethod yX2_isMissed, Cond.selects RX2 yX2_isMissed yX2_isMissed, Cond.code yX2_isMissed cX2_isMissed 4 (some .boolean), Cond.methodLink RL 157 yX3_isMissed, Cond.instanceMethod yX3_isMissed, Cond.selects RX3 yX3_isMissed yX3_isMissed, Cond.code yX3_isMissed cX3_isMissed 3 (some .boolean), Cond.methodLink RL 158 yL_step, Cond.static yL_step, Cond.codeWith yL_step cL_step 4 (some .int) [(0, 9, 12, 13)], Cond.methodLink RL 73 yX2_step, Cond.instanceMethod yX2_step]
def wsL_law0_r20 : List Cond := [Cond.selects RX2 yX2_step yX2_step, Cond.code yX2_step cX2_step 2 (some .int), Cond.methodLink RX2 138 yX2_greatestStep, Cond.instanceMethod yX2_greatestStep, Cond.selects RX2 yX2_greatestStep yX2_greatestStep, Cond.code yX2_greatestStep cX2_greatestStep 4 (some .int), Cond.methodLink RX2 183 Lib.Math.max.name, Cond.methodLink RX2 180 yX2_stepOfStage, Cond.instanceMethod yX2_stepOfStage, Cond.selects RX2 yX2_stepOfStage yX2_stepOfStage, Cond.code yX2_stepOfStage cX2_stepOfStage 5 (some .int), Cond.methodLink RL 160 yX3_step, Cond.instanceMethod yX3_step, Cond.selects RX3 yX3_step yX3_step, Cond.code yX3_step cX3_step 2 (some .int), Cond.methodLink RX3 126 yX3_stepOf, Cond.instanceMethod yX3_stepOf, Cond.selects RX3 yX3_stepOf yX3_stepOf, Cond.code yX3_stepOf cX3_stepOf 7 (some .int), Cond.methodLink RL 161 yX2_mostUrgent, Cond.instanceMethod yX2_mostUrgent, Cond.selects RX2 yX2_mostUrgent yX2_mostUrgent, Cond.code yX2_mostUrgent cX2_mostUrgent 7 (some .int), Cond.methodLink RX2 141 yX0_isRunning]
def wsL_law0_r21 : List Cond := [Cond.methodLink RL 164 yX3_mostUrgent, Cond.instanceMethod yX3_mostUrgent, Cond.selects RX3 yX3_mostUrgent yX3_mostUrgent, Cond.code yX3_mostUrgent cX3_mostUrgent 4 (some .int), Cond.methodLink RL 165 yL_buy, Cond.static yL_buy, Cond.codeWith yL_buy cL_buy 5 (some .int) [(0, 10, 13, 13), (0, 10, 17, 15)], Cond.methodLink RL 76 yX2_buy, Cond.instanceMethod yX2_buy, Cond.selects RX2 yX2_buy yX2_buy, Cond.code yX2_buy cX2_buy 4 (some .int), Cond.fieldLink RX2 145 "PromiseClocks$Site" "hoursAhead" "I", Cond.methodLink RL 167 yX3_buy, Cond.instanceMethod yX3_buy, Cond.selects RX3 yX3_buy yX3_buy, Cond.code yX3_buy cX3_buy 3 (some .int), Cond.methodLink RL 168 yL_work, Cond.static yL_work, Cond.codeWith yL_work cL_work 5 (some .int) [(0, 10, 13, 13), (0, 10, 17, 15), (0, 10, 21, 20)], Cond.methodLink RL 79 yX2_work, Cond.instanceMethod yX2_work, Cond.selects RX2 yX2_work yX2_work, Cond.code yX2_work cX2_work 7 (some .int), Cond.methodLink RL 170 yX3_work]
def wsL_law0_r22 : List Cond := [Cond.instanceMethod yX3_work, Cond.selects RX3 yX3_work yX3_work, Cond.code yX3_work cX3_work 6 (some .int), Cond.methodLink RL 171 yL_ahead, Cond.static yL_ahead, Cond.codeWith yL_ahead cL_ahead 4 (some .int) [(0, 9, 12, 13)], Cond.methodLink RL 82 yX2_ahead, Cond.instanceMethod yX2_ahead, Cond.selects RX2 yX2_ahead yX2_ahead, Cond.code yX2_ahead cX2_ahead 2 (some .int), Cond.methodLink RL 173 yX3_ahead, Cond.instanceMethod yX3_ahead, Cond.selects RX3 yX3_ahead yX3_ahead, Cond.code yX3_ahead cX3_ahead 2 (some .int), Cond.methodLink RL 174 yL_owes, Cond.static yL_owes, Cond.codeWith yL_owes cL_owes 4 (some .int) [(0, 9, 12, 13)], Cond.methodLink RL 85 yX2_owes, Cond.instanceMethod yX2_owes, Cond.selects RX2 yX2_owes yX2_owes, Cond.code yX2_owes cX2_owes 2 (some .int), Cond.methodLink RL 176 yX3_owes, Cond.instanceMethod yX3_owes, Cond.selects RX3 yX3_owes yX3_owes]
def wsL_law0_r23 : List Cond := [Cond.code yX3_owes cX3_owes 2 (some .int)]
def wsL_law0 : List Cond := (wsL_law0_r1 ++ (wsL_law0_r2 ++ (wsL_law0_r3 ++ (wsL_law0_r4 ++ (wsL_law0_r5 ++ (wsL_law0_r6 ++ (wsL_law0_r7 ++ (wsL_law0_r8 ++ (wsL_law0_r9 ++ (wsL_law0_r10 ++ (wsL_law0_r11 ++ (wsL_law0_r12 ++ (wsL_law0_r13 ++ (wsL_law0_r14 ++ (wsL_law0_r15 ++ (wsL_law0_r16 ++ (wsL_law0_r17 ++ (wsL_law0_r18 ++ (wsL_law0_r19 ++ (wsL_law0_r20 ++ (wsL_law0_r21 ++ (wsL_law0_r22 ++ wsL_law0_r23)))))))))))))))))))))) ++ wsX20 ++ wsX30 ++ wsX10 ++ wsX00 ++ ([] : List Cond)
def wsL_law : List Cond := wsL_law0 ++ (vx_atS RX2 159 "java/lang/IndexOutOfBoundsException" ["java/lang/RuntimeException", "java/lang/Exception"]).filter goodWord ++ (vx_atS RX2 170 "java/lang/IllegalArgumentException" ["java/lang/RuntimeException", "java/lang/Exception"]).filter goodWord ++ (vx_atS RX2 175 "java/lang/IllegalStateException" ["java/lang/RuntimeException", "java/lang/Exception"]).filter goodWord
abbrev vwCl : List vw_C := [(RX0, TX0, 8), (RX1, TX1, 9), (RX2, TX2, 5), (RX3, TX3, 21)]
end
section
set_option maxRecDepth 20000 in
theorem wsL_law_i1 : ∀ w ∈ wsL_law0_r1, w ∈ lw_tbl := fun w h => (goodIn_p wsL_law0_r1 [40, 43] (by decide +kernel) (by decide +kernel) w h).1
set_option maxRecDepth 20000 in
theorem wsL_law_i2 : ∀ w ∈ wsL_law0_r2, w ∈ lw_tbl := fun w h => (goodIn_p wsL_law0_r2 [51, 522] (by decide +kernel) (by decide +kernel) w h).1
set_option maxRecDepth 20000 in
theorem wsL_law_i3 : ∀ w ∈ wsL_law0_r3, w ∈ lw_tbl := fun w h => (goodIn_p wsL_law0_r3 [143] (by decide +kernel) (by decide +kernel) w h).1
set_option maxRecDepth 20000 in
theorem wsL_law_i4 : ∀ w ∈ wsL_law0_r4, w ∈ lw_tbl := fun w h => (goodIn_p wsL_law0_r4 [147, 218, 221, 596, 599, 602] (by decide +kernel) (by decide +kernel) w h).1
set_option maxRecDepth 20000 in
theorem wsL_law_i5 : ∀ w ∈ wsL_law0_r5, w ∈ lw_tbl := fun w h => (goodIn_p wsL_law0_r5 [606, 592, 245, 249, 252] (by decide +kernel) (by decide +kernel) w h).1
set_option maxRecDepth 20000 in
theorem wsL_law_i6 : ∀ w ∈ wsL_law0_r6, w ∈ lw_tbl := fun w h => (goodIn_p wsL_law0_r6 [610, 614, 275, 618] (by decide +kernel) (by decide +kernel) w h).1
set_option maxRecDepth 20000 in
theorem wsL_law_i7 : ∀ w ∈ wsL_law0_r7, w ∈ lw_tbl := fun w h => (goodIn_p wsL_law0_r7 [622, 282, 285, 290, 626, 629] (by decide +kernel) (by decide +kernel) w h).1
set_option maxRecDepth 20000 in
theorem wsL_law_i8 : ∀ w ∈ wsL_law0_r8, w ∈ lw_tbl := fun w h => (goodIn_p wsL_law0_r8 [633, 297, 637, 304] (by decide +kernel) (by decide +kernel) w h).1
set_option maxRecDepth 20000 in
theorem wsL_law_i9 : ∀ w ∈ wsL_law0_r9, w ∈ lw_tbl := fun w h => (goodIn_p wsL_law0_r9 [308, 115, 313, 317, 134, 331] (by decide +kernel) (by decide +kernel) w h).1
set_option maxRecDepth 20000 in
theorem wsL_law_i10 : ∀ w ∈ wsL_law0_r10, w ∈ lw_tbl := fun w h => (goodIn_p wsL_law0_r10 [320, 327, 127, 641] (by decide +kernel) (by decide +kernel) w h).1
set_option maxRecDepth 20000 in
theorem wsL_law_i11 : ∀ w ∈ wsL_law0_r11, w ∈ lw_tbl := fun w h => (goodIn_p wsL_law0_r11 [645, 107, 649, 653, 339] (by decide +kernel) (by decide +kernel) w h).1
set_option maxRecDepth 20000 in
theorem wsL_law_i12 : ∀ w ∈ wsL_law0_r12, w ∈ lw_tbl := fun w h => (goodIn_p wsL_law0_r12 [657, 347, 351, 661] (by decide +kernel) (by decide +kernel) w h).1
set_option maxRecDepth 20000 in
theorem wsL_law_i13 : ∀ w ∈ wsL_law0_r13, w ∈ lw_tbl := fun w h => (goodIn_p wsL_law0_r13 [358, 362, 666, 403] (by decide +kernel) (by decide +kernel) w h).1
set_option maxRecDepth 20000 in
theorem wsL_law_i14 : ∀ w ∈ wsL_law0_r14, w ∈ lw_tbl := fun w h => (goodIn_p wsL_law0_r14 [407, 412, 416, 131, 420] (by decide +kernel) (by decide +kernel) w h).1
set_option maxRecDepth 20000 in
theorem wsL_law_i15 : ∀ w ∈ wsL_law0_r15, w ∈ lw_tbl := fun w h => (goodIn_p wsL_law0_r15 [424, 428, 670, 674, 678, 682] (by decide +kernel) (by decide +kernel) w h).1
set_option maxRecDepth 20000 in
theorem wsL_law_i16 : ∀ w ∈ wsL_law0_r16, w ∈ lw_tbl := fun w h => (goodIn_p wsL_law0_r16 [435, 686, 442, 690] (by decide +kernel) (by decide +kernel) w h).1
set_option maxRecDepth 20000 in
theorem wsL_law_i17 : ∀ w ∈ wsL_law0_r17, w ∈ lw_tbl := fun w h => (goodIn_p wsL_law0_r17 [449, 453, 694, 698] (by decide +kernel) (by decide +kernel) w h).1
set_option maxRecDepth 20000 in
theorem wsL_law_i18 : ∀ w ∈ wsL_law0_r18, w ∈ lw_tbl := fun w h => (goodIn_p wsL_law0_r18 [460, 702, 468, 706] (by decide +kernel) (by decide +kernel) w h).1
set_option maxRecDepth 20000 in
theorem wsL_law_i19 : ∀ w ∈ wsL_law0_r19, w ∈ lw_tbl := fun w h => (goodIn_p wsL_law0_r19 [475, 710, 713, 482, 717] (by decide +kernel) (by decide +kernel) w h).1
set_option maxRecDepth 20000 in
theorem wsL_law_i20 : ∀ w ∈ wsL_law0_r20, w ∈ lw_tbl := fun w h => (goodIn_p wsL_law0_r20 [489, 119, 123, 721, 725, 111] (by decide +kernel) (by decide +kernel) w h).1
set_option maxRecDepth 20000 in
theorem wsL_law_i21 : ∀ w ∈ wsL_law0_r21, w ∈ lw_tbl := fun w h => (goodIn_p wsL_law0_r21 [729, 496, 733, 503] (by decide +kernel) (by decide +kernel) w h).1
set_option maxRecDepth 20000 in
theorem wsL_law_i22 : ∀ w ∈ wsL_law0_r22, w ∈ lw_tbl := fun w h => (goodIn_p wsL_law0_r22 [737, 510, 741, 517] (by decide +kernel) (by decide +kernel) w h).1
set_option maxRecDepth 20000 in
theorem wsL_law_i23 : ∀ w ∈ wsL_law0_r23, w ∈ lw_tbl := fun w h => (goodIn_p wsL_law0_r23 [745] (by decide +kernel) (by decide +kernel) w h).1
theorem wsL_law_t2 : ∀ w ∈ wsX20, w ∈ lw_tbl := by decide +kernel
theorem wsL_law_t3 : ∀ w ∈ wsX30, w ∈ lw_tbl := by decide +kernel
theorem wsL_law_t1 : ∀ w ∈ wsX10, w ∈ lw_tbl := by decide +kernel
theorem wsL_law_t0 : ∀ w ∈ wsX00, w ∈ lw_tbl := by decide +kernel
theorem wsL_law_in0 : ∀ w ∈ wsL_law0, w ∈ lw_tbl := fun w h => (List.mem_append.mp h).elim (fun h => (List.mem_append.mp h).elim (fun h => (List.mem_append.mp h).elim (fun h => (List.mem_append.mp h).elim (fun h => (List.mem_append.mp h).elim (fun h => (List.mem_append.mp h).elim (fun h => wsL_law_i1 w h) (fun h => (List.mem_append.mp h).elim (fun h => wsL_law_i2 w h) (fun h => (List.mem_append.mp h).elim (fun h => wsL_law_i3 w h) (fun h => (List.mem_append.mp h).elim (fun h => wsL_law_i4 w h) (fun h => (List.mem_append.mp h).elim (fun h => wsL_law_i5 w h) (fun h => (List.mem_append.mp h).elim (fun h => wsL_law_i6 w h) (fun h => (List.mem_append.mp h).elim (fun h => wsL_law_i7 w h) (fun h => (List.mem_append.mp h).elim (fun h => wsL_law_i8 w h) (fun h => (List.mem_append.mp h).elim (fun h => wsL_law_i9 w h) (fun h => (List.mem_append.mp h).elim (fun h => wsL_law_i10 w h) (fun h => (List.mem_append.mp h).elim (fun h => wsL_law_i11 w h) (fun h => (List.mem_append.mp h).elim (fun h => wsL_law_i12 w h) (fun h => (List.mem_append.mp h).elim (fun h => wsL_law_i13 w h) (fun h => (List.mem_append.mp h).elim (fun h => wsL_law_i14 w h) (fun h => (List.mem_append.mp h).elim (fun h => wsL_law_i15 w h) (fun h => (List.mem_append.mp h).elim (fun h => wsL_law_i16 w h) (fun h => (List.mem_append.mp h).elim (fun h => wsL_law_i17 w h) (fun h => (List.mem_append.mp h).elim (fun h => wsL_law_i18 w h) (fun h => (List.mem_append.mp h).elim (fun h => wsL_law_i19 w h) (fun h => (List.mem_append.mp h).elim (fun h => wsL_law_i20 w h) (fun h => (List.mem_append.mp h).elim (fun h => wsL_law_i21 w h) (fun h => (List.mem_append.mp h).elim (fun h => wsL_law_i22 w h) (fun h => wsL_law_i23 w h))))))))))))))))))))))) (fun h => wsL_law_t2 w h)) (fun h => wsL_law_t3 w h)) (fun h => wsL_law_t1 w h)) (fun h => wsL_law_t0 w h)) (fun h => absurd h List.not_mem_nil)
theorem wsL_law_x0 : ∀ w ∈ (vx_atS RX2 159 "java/lang/IndexOutOfBoundsException" ["java/lang/RuntimeException", "java/lang/Exception"]).filter goodWord, w ∈ lw_tbl := by decide +kernel
theorem wsL_law_x1 : ∀ w ∈ (vx_atS RX2 170 "java/lang/IllegalArgumentException" ["java/lang/RuntimeException", "java/lang/Exception"]).filter goodWord, w ∈ lw_tbl := by decide +kernel
theorem wsL_law_x2 : ∀ w ∈ (vx_atS RX2 175 "java/lang/IllegalStateException" ["java/lang/RuntimeException", "java/lang/Exception"]).filter goodWord, w ∈ lw_tbl := by decide +kernel
theorem wsL_law_in : ∀ w ∈ wsL_law, w ∈ lw_tbl := fun w h => (List.mem_append.mp h).elim (fun h => (List.mem_append.mp h).elim (fun h => (List.mem_append.mp h).elim (fun h => wsL_law_in0 w h) (fun h => wsL_law_x0 w h)) (fun h => wsL_law_x1 w h)) (fun h => wsL_law_x2 w h)
theorem inlX0 : ∀ w ∈ wsX00, w ∈ wsL_law := fun _ h => List.mem_append_left _ (List.mem_append_left _ (List.mem_append_left _ (List.mem_append_left _ (List.mem_append_right _ h))))
theorem inX0 : ∀ w ∈ wsX00, w ∈ lw_tbl := fun w h => wsL_law_in w (inlX0 w h)
theorem inlX1 : ∀ w ∈ wsX10, w ∈ wsL_law := fun _ h => List.mem_append_left _ (List.mem_append_left _ (List.mem_append_left _ (List.mem_append_left _ (List.mem_append_left _ (List.mem_append_right _ h)))))
theorem inX1 : ∀ w ∈ wsX10, w ∈ lw_tbl := fun w h => wsL_law_in w (inlX1 w h)
theorem inlX2 : ∀ w ∈ wsX20, w ∈ wsL_law := fun _ h => List.mem_append_left _ (List.mem_append_left _ (List.mem_append_left _ (List.mem_append_left _ (List.mem_append_left _ (List.mem_append_left _ (List.mem_append_left _ (List.mem_append_right _ h)))))))
theorem inX2 : ∀ w ∈ wsX20, w ∈ lw_tbl := fun w h => wsL_law_in w (inlX2 w h)
theorem inlX3 : ∀ w ∈ wsX30, w ∈ wsL_law := fun _ h => List.mem_append_left _ (List.mem_append_left _ (List.mem_append_left _ (List.mem_append_left _ (List.mem_append_left _ (List.mem_append_left _ (List.mem_append_right _ h))))))
theorem inX3 : ∀ w ∈ wsX30, w ∈ lw_tbl := fun w h => wsL_law_in w (inlX3 w h)
theorem inJ6 : ∀ w ∈ wsJ60, w ∈ lw_tbl := by decide +kernel
theorem inJ9 : ∀ w ∈ wsJ90, w ∈ lw_tbl := by decide +kernel
theorem inJ0 : ∀ w ∈ wsJ00, w ∈ lw_tbl := by decide +kernel
end
section
theorem dX0_init_0 : decode cX0_init 0 = .ok (.aload_n 0, 1) := by decide +kernel
theorem dX0_init_1 : decode cX0_init 1 = .ok (.invokespecial 3, 3) := by decide +kernel
theorem dX0_init_4 : decode cX0_init 4 = .ok (.aload_n 0, 1) := by decide +kernel
theorem dX0_init_5 : decode cX0_init 5 = .ok (.iconst 0, 1) := by decide +kernel
theorem dX0_init_6 : decode cX0_init 6 = .ok (.putfield 9, 3) := by decide +kernel
theorem dX0_init_9 : decode cX0_init 9 = .ok (.aload_n 0, 1) := by decide +kernel
theorem dX0_init_10 : decode cX0_init 10 = .ok (.iconst 0, 1) := by decide +kernel
theorem dX0_init_11 : decode cX0_init 11 = .ok (.putfield 15, 3) := by decide +kernel
theorem dX0_init_14 : decode cX0_init 14 = .ok (.aload_n 0, 1) := by decide +kernel
theorem dX0_init_15 : decode cX0_init 15 = .ok (.aconst_null, 1) := by decide +kernel
theorem dX0_init_16 : decode cX0_init 16 = .ok (.putfield 19, 3) := by decide +kernel
theorem dX0_init_19 : decode cX0_init 19 = .ok (.aload_n 0, 1) := by decide +kernel
theorem dX0_init_20 : decode cX0_init 20 = .ok (.iconst 0, 1) := by decide +kernel
theorem dX0_init_21 : decode cX0_init 21 = .ok (.putfield 23, 3) := by decide +kernel
theorem dX0_init_24 : decode cX0_init 24 = .ok (.aload_n 0, 1) := by decide +kernel
theorem dX0_init_25 : decode cX0_init 25 = .ok (.iconst 3, 1) := by decide +kernel
theorem dX0_init_26 : decode cX0_init 26 = .ok (.newarray .int, 2) := by decide +kernel
theorem dX0_init_28 : decode cX0_init 28 = .ok (.putfield 26, 3) := by decide +kernel
theorem dX0_init_31 : decode cX0_init 31 = .ok (.aload_n 0, 1) := by decide +kernel
theorem dX0_init_32 : decode cX0_init 32 = .ok (.aload_n 1, 1) := by decide +kernel
theorem dX0_init_33 : decode cX0_init 33 = .ok (.putfield 30, 3) := by decide +kernel
theorem dX0_init_36 : decode cX0_init 36 = .ok (.aload_n 0, 1) := by decide +kernel
theorem dX0_init_37 : decode cX0_init 37 = .ok (.iload_n 2, 1) := by decide +kernel
theorem dX0_init_38 : decode cX0_init 38 = .ok (.putfield 34, 3) := by decide +kernel
theorem dX0_init_41 : decode cX0_init 41 = .ok (.aload_n 0, 1) := by decide +kernel
theorem dX0_init_42 : decode cX0_init 42 = .ok (.iload_n 3, 1) := by decide +kernel
theorem dX0_init_43 : decode cX0_init 43 = .ok (.putfield 37, 3) := by decide +kernel
theorem dX0_init_46 : decode cX0_init 46 = .ok (.return_, 1) := by decide +kernel
theorem dX0_isRunning_0 : decode cX0_isRunning 0 = .ok (.aload_n 0, 1) := by decide +kernel
theorem dX0_isRunning_1 : decode cX0_isRunning 1 = .ok (.getfield 9, 3) := by decide +kernel
theorem dX0_isRunning_4 : decode cX0_isRunning 4 = .ok (.ifCond .ne 14, 3) := by decide +kernel
theorem dX0_isRunning_7 : decode cX0_isRunning 7 = .ok (.aload_n 0, 1) := by decide +kernel
theorem dX0_isRunning_8 : decode cX0_isRunning 8 = .ok (.getfield 15, 3) := by decide +kernel
theorem dX0_isRunning_11 : decode cX0_isRunning 11 = .ok (.ifCond .ne 7, 3) := by decide +kernel
theorem dX0_isRunning_14 : decode cX0_isRunning 14 = .ok (.iconst 1, 1) := by decide +kernel
theorem dX0_isRunning_15 : decode cX0_isRunning 15 = .ok (.goto 4, 3) := by decide +kernel
theorem dX0_isRunning_18 : decode cX0_isRunning 18 = .ok (.iconst 0, 1) := by decide +kernel
theorem dX0_isRunning_19 : decode cX0_isRunning 19 = .ok (.ireturn, 1) := by decide +kernel
theorem dX0_hasReached_0 : decode cX0_hasReached 0 = .ok (.iload_n 1, 1) := by decide +kernel
theorem dX0_hasReached_1 : decode cX0_hasReached 1 = .ok (.aload_n 0, 1) := by decide +kernel
theorem dX0_hasReached_2 : decode cX0_hasReached 2 = .ok (.getfield 23, 3) := by decide +kernel
theorem dX0_hasReached_5 : decode cX0_hasReached 5 = .ok (.if_icmp .ge 7, 3) := by decide +kernel
theorem dX0_hasReached_8 : decode cX0_hasReached 8 = .ok (.iconst 1, 1) := by decide +kernel
theorem dX0_hasReached_9 : decode cX0_hasReached 9 = .ok (.goto 4, 3) := by decide +kernel
theorem dX0_hasReached_12 : decode cX0_hasReached 12 = .ok (.iconst 0, 1) := by decide +kernel
theorem dX0_hasReached_13 : decode cX0_hasReached 13 = .ok (.ireturn, 1) := by decide +kernel
theorem dX0_isJoinedTo_0 : decode cX0_isJoinedTo 0 = .ok (.aload_n 0, 1) := by decide +kernel
theorem dX0_isJoinedTo_1 : decode cX0_isJoinedTo 1 = .ok (.getfield 9, 3) := by decide +kernel
theorem dX0_isJoinedTo_4 : decode cX0_isJoinedTo 4 = .ok (.iconst 1, 1) := by decide +kernel
theorem dX0_isJoinedTo_5 : decode cX0_isJoinedTo 5 = .ok (.if_icmp .ne 15, 3) := by decide +kernel
theorem dX0_isJoinedTo_8 : decode cX0_isJoinedTo 8 = .ok (.aload_n 0, 1) := by decide +kernel
theorem dX0_isJoinedTo_9 : decode cX0_isJoinedTo 9 = .ok (.getfield 19, 3) := by decide +kernel
theorem dX0_isJoinedTo_12 : decode cX0_isJoinedTo 12 = .ok (.aload_n 1, 1) := by decide +kernel
theorem dX0_isJoinedTo_13 : decode cX0_isJoinedTo 13 = .ok (.if_acmp .ne 7, 3) := by decide +kernel
theorem dX0_isJoinedTo_16 : decode cX0_isJoinedTo 16 = .ok (.iconst 1, 1) := by decide +kernel
theorem dX0_isJoinedTo_17 : decode cX0_isJoinedTo 17 = .ok (.goto 4, 3) := by decide +kernel
theorem dX0_isJoinedTo_20 : decode cX0_isJoinedTo 20 = .ok (.iconst 0, 1) := by decide +kernel
theorem dX0_isJoinedTo_21 : decode cX0_isJoinedTo 21 = .ok (.ireturn, 1) := by decide +kernel
set_option maxRecDepth 20000 in
theorem ggX0_runClocks_X0_isRunning : GoodIn wsX0_runClocks wsX0_isRunning := goodIn_r _ [7, 8, 9, 45, 46, 47, 48, 49, 50, 51, 52] (by decide +kernel) (by decide +kernel)
set_option maxRecDepth 20000 in
theorem gX0_runClocks_X0_isRunning : GoodIn wsX0_runClocks (wsV RX0 40 RX0 yX0_isRunning wsX0_isRunning) := goodIn_app (goodIn_of _ (by decide +kernel)) ggX0_runClocks_X0_isRunning
set_option maxRecDepth 20000 in
theorem ggX0_runClocks_X1_countHours : GoodIn wsX0_runClocks wsX1_countHours := goodIn_r _ [14, 15, 16, 17, 13, 18, 19, 20, 21, 22, 23, 24, 25, 26, 27, 28, 29, 30, 31, 32, 33, 34, 35, 36, 37, 38, 39, 53, 54, 55, 56, 57, 58, 59, 60, 61] (by decide +kernel) (by decide +kernel)
set_option maxRecDepth 20000 in
theorem gX0_runClocks_X1_countHours : GoodIn wsX0_runClocks (wsV RX0 44 RX1 yX1_countHours wsX1_countHours) := goodIn_app (goodIn_of _ (by decide +kernel)) ggX0_runClocks_X1_countHours
set_option maxRecDepth 20000 in
theorem ggX0_runClocks_X0_hasReached : GoodIn wsX0_runClocks wsX0_hasReached := goodIn_r _ [43, 44, 45, 46, 47, 48, 49, 50, 51, 52] (by decide +kernel) (by decide +kernel)
set_option maxRecDepth 20000 in
theorem gX0_runClocks_X0_hasReached : GoodIn wsX0_runClocks (wsV RX0 50 RX0 yX0_hasReached wsX0_hasReached) := goodIn_app (goodIn_of _ (by decide +kernel)) ggX0_runClocks_X0_hasReached
theorem dX0_runClocks_0 : decode cX0_runClocks 0 = .ok (.aload_n 0, 1) := by decide +kernel
theorem dX0_runClocks_1 : decode cX0_runClocks 1 = .ok (.invokevirtual 40, 3) := by decide +kernel
theorem dX0_runClocks_4 : decode cX0_runClocks 4 = .ok (.ifCond .ne 4, 3) := by decide +kernel
theorem dX0_runClocks_7 : decode cX0_runClocks 7 = .ok (.return_, 1) := by decide +kernel
theorem dX0_runClocks_8 : decode cX0_runClocks 8 = .ok (.aload_n 0, 1) := by decide +kernel
theorem dX0_runClocks_9 : decode cX0_runClocks 9 = .ok (.getfield 30, 3) := by decide +kernel
theorem dX0_runClocks_12 : decode cX0_runClocks 12 = .ok (.iload_n 1, 1) := by decide +kernel
theorem dX0_runClocks_13 : decode cX0_runClocks 13 = .ok (.iload_n 2, 1) := by decide +kernel
theorem dX0_runClocks_14 : decode cX0_runClocks 14 = .ok (.invokevirtual 44, 3) := by decide +kernel
theorem dX0_runClocks_17 : decode cX0_runClocks 17 = .ok (.istore_n 3, 1) := by decide +kernel
theorem dX0_runClocks_18 : decode cX0_runClocks 18 = .ok (.iconst 0, 1) := by decide +kernel
theorem dX0_runClocks_19 : decode cX0_runClocks 19 = .ok (.istore 4, 2) := by decide +kernel
theorem dX0_runClocks_21 : decode cX0_runClocks 21 = .ok (.iload 4, 2) := by decide +kernel
theorem dX0_runClocks_23 : decode cX0_runClocks 23 = .ok (.iconst 2, 1) := by decide +kernel
theorem dX0_runClocks_24 : decode cX0_runClocks 24 = .ok (.if_icmp .gt 29, 3) := by decide +kernel
theorem dX0_runClocks_27 : decode cX0_runClocks 27 = .ok (.aload_n 0, 1) := by decide +kernel
theorem dX0_runClocks_28 : decode cX0_runClocks 28 = .ok (.iload 4, 2) := by decide +kernel
theorem dX0_runClocks_30 : decode cX0_runClocks 30 = .ok (.invokevirtual 50, 3) := by decide +kernel
theorem dX0_runClocks_33 : decode cX0_runClocks 33 = .ok (.ifCond .ne 14, 3) := by decide +kernel
theorem dX0_runClocks_36 : decode cX0_runClocks 36 = .ok (.aload_n 0, 1) := by decide +kernel
theorem dX0_runClocks_37 : decode cX0_runClocks 37 = .ok (.getfield 26, 3) := by decide +kernel
theorem dX0_runClocks_40 : decode cX0_runClocks 40 = .ok (.iload 4, 2) := by decide +kernel
theorem dX0_runClocks_42 : decode cX0_runClocks 42 = .ok (.dup2, 1) := by decide +kernel
theorem dX0_runClocks_43 : decode cX0_runClocks 43 = .ok (.iaload, 1) := by decide +kernel
theorem dX0_runClocks_44 : decode cX0_runClocks 44 = .ok (.iload_n 3, 1) := by decide +kernel
theorem dX0_runClocks_45 : decode cX0_runClocks 45 = .ok (.iadd, 1) := by decide +kernel
theorem dX0_runClocks_46 : decode cX0_runClocks 46 = .ok (.iastore, 1) := by decide +kernel
theorem dX0_runClocks_47 : decode cX0_runClocks 47 = .ok (.iinc 4 1, 3) := by decide +kernel
theorem dX0_runClocks_50 : decode cX0_runClocks 50 = .ok (.goto (-29), 3) := by decide +kernel
theorem dX0_runClocks_53 : decode cX0_runClocks 53 = .ok (.return_, 1) := by decide +kernel
theorem dX1_init_0 : decode cX1_init 0 = .ok (.aload_n 0, 1) := by decide +kernel
theorem dX1_init_1 : decode cX1_init 1 = .ok (.invokespecial 3, 3) := by decide +kernel
theorem dX1_init_4 : decode cX1_init 4 = .ok (.aload_n 0, 1) := by decide +kernel
theorem dX1_init_5 : decode cX1_init 5 = .ok (.bipush 31, 2) := by decide +kernel
theorem dX1_init_7 : decode cX1_init 7 = .ok (.putfield 9, 3) := by decide +kernel
theorem dX1_init_10 : decode cX1_init 10 = .ok (.aload_n 0, 1) := by decide +kernel
theorem dX1_init_11 : decode cX1_init 11 = .ok (.bipush 8, 2) := by decide +kernel
theorem dX1_init_13 : decode cX1_init 13 = .ok (.putfield 15, 3) := by decide +kernel
theorem dX1_init_16 : decode cX1_init 16 = .ok (.aload_n 0, 1) := by decide +kernel
theorem dX1_init_17 : decode cX1_init 17 = .ok (.bipush 17, 2) := by decide +kernel
theorem dX1_init_19 : decode cX1_init 19 = .ok (.putfield 18, 3) := by decide +kernel
theorem dX1_init_22 : decode cX1_init 22 = .ok (.aload_n 0, 1) := by decide +kernel
theorem dX1_init_23 : decode cX1_init 23 = .ok (.bipush 8, 2) := by decide +kernel
theorem dX1_init_25 : decode cX1_init 25 = .ok (.newarray .int, 2) := by decide +kernel
theorem dX1_init_27 : decode cX1_init 27 = .ok (.putfield 21, 3) := by decide +kernel
theorem dX1_init_30 : decode cX1_init 30 = .ok (.aload_n 0, 1) := by decide +kernel
theorem dX1_init_31 : decode cX1_init 31 = .ok (.bipush 8, 2) := by decide +kernel
theorem dX1_init_33 : decode cX1_init 33 = .ok (.newarray .int, 2) := by decide +kernel
theorem dX1_init_35 : decode cX1_init 35 = .ok (.putfield 25, 3) := by decide +kernel
theorem dX1_init_38 : decode cX1_init 38 = .ok (.aload_n 0, 1) := by decide +kernel
theorem dX1_init_39 : decode cX1_init 39 = .ok (.bipush 8, 2) := by decide +kernel
theorem dX1_init_41 : decode cX1_init 41 = .ok (.newarray .int, 2) := by decide +kernel
theorem dX1_init_43 : decode cX1_init 43 = .ok (.putfield 28, 3) := by decide +kernel
theorem dX1_init_46 : decode cX1_init 46 = .ok (.aload_n 0, 1) := by decide +kernel
theorem dX1_init_47 : decode cX1_init 47 = .ok (.iconst 0, 1) := by decide +kernel
theorem dX1_init_48 : decode cX1_init 48 = .ok (.putfield 31, 3) := by decide +kernel
theorem dX1_init_51 : decode cX1_init 51 = .ok (.aload_n 0, 1) := by decide +kernel
theorem dX1_init_52 : decode cX1_init 52 = .ok (.iconst 0, 1) := by decide +kernel
theorem dX1_init_53 : decode cX1_init 53 = .ok (.putfield 34, 3) := by decide +kernel
theorem dX1_init_56 : decode cX1_init 56 = .ok (.aload_n 0, 1) := by decide +kernel
theorem dX1_init_57 : decode cX1_init 57 = .ok (.iconst 0, 1) := by decide +kernel
theorem dX1_init_58 : decode cX1_init 58 = .ok (.putfield 37, 3) := by decide +kernel
theorem dX1_init_61 : decode cX1_init 61 = .ok (.return_, 1) := by decide +kernel
theorem dX1_keepContract_0 : decode cX1_keepContract 0 = .ok (.aload_n 0, 1) := by decide +kernel
theorem dX1_keepContract_1 : decode cX1_keepContract 1 = .ok (.getfield 31, 3) := by decide +kernel
theorem dX1_keepContract_4 : decode cX1_keepContract 4 = .ok (.bipush 8, 2) := by decide +kernel
theorem dX1_keepContract_6 : decode cX1_keepContract 6 = .ok (.if_icmp .lt 5, 3) := by decide +kernel
theorem dX1_keepContract_9 : decode cX1_keepContract 9 = .ok (.iconst 0, 1) := by decide +kernel
theorem dX1_keepContract_10 : decode cX1_keepContract 10 = .ok (.ireturn, 1) := by decide +kernel
theorem dX1_keepContract_11 : decode cX1_keepContract 11 = .ok (.aload_n 0, 1) := by decide +kernel
theorem dX1_keepContract_12 : decode cX1_keepContract 12 = .ok (.getfield 21, 3) := by decide +kernel
theorem dX1_keepContract_15 : decode cX1_keepContract 15 = .ok (.aload_n 0, 1) := by decide +kernel
theorem dX1_keepContract_16 : decode cX1_keepContract 16 = .ok (.getfield 31, 3) := by decide +kernel
theorem dX1_keepContract_19 : decode cX1_keepContract 19 = .ok (.iload_n 1, 1) := by decide +kernel
theorem dX1_keepContract_20 : decode cX1_keepContract 20 = .ok (.iastore, 1) := by decide +kernel
theorem dX1_keepContract_21 : decode cX1_keepContract 21 = .ok (.aload_n 0, 1) := by decide +kernel
theorem dX1_keepContract_22 : decode cX1_keepContract 22 = .ok (.getfield 25, 3) := by decide +kernel
theorem dX1_keepContract_25 : decode cX1_keepContract 25 = .ok (.aload_n 0, 1) := by decide +kernel
theorem dX1_keepContract_26 : decode cX1_keepContract 26 = .ok (.getfield 31, 3) := by decide +kernel
theorem dX1_keepContract_29 : decode cX1_keepContract 29 = .ok (.iload_n 2, 1) := by decide +kernel
theorem dX1_keepContract_30 : decode cX1_keepContract 30 = .ok (.iastore, 1) := by decide +kernel
theorem dX1_keepContract_31 : decode cX1_keepContract 31 = .ok (.aload_n 0, 1) := by decide +kernel
theorem dX1_keepContract_32 : decode cX1_keepContract 32 = .ok (.getfield 28, 3) := by decide +kernel
theorem dX1_keepContract_35 : decode cX1_keepContract 35 = .ok (.aload_n 0, 1) := by decide +kernel
theorem dX1_keepContract_36 : decode cX1_keepContract 36 = .ok (.getfield 31, 3) := by decide +kernel
theorem dX1_keepContract_39 : decode cX1_keepContract 39 = .ok (.iload_n 3, 1) := by decide +kernel
theorem dX1_keepContract_40 : decode cX1_keepContract 40 = .ok (.iastore, 1) := by decide +kernel
theorem dX1_keepContract_41 : decode cX1_keepContract 41 = .ok (.aload_n 0, 1) := by decide +kernel
theorem dX1_keepContract_42 : decode cX1_keepContract 42 = .ok (.dup, 1) := by decide +kernel
theorem dX1_keepContract_43 : decode cX1_keepContract 43 = .ok (.getfield 31, 3) := by decide +kernel
theorem dX1_keepContract_46 : decode cX1_keepContract 46 = .ok (.iconst 1, 1) := by decide +kernel
theorem dX1_keepContract_47 : decode cX1_keepContract 47 = .ok (.iadd, 1) := by decide +kernel
theorem dX1_keepContract_48 : decode cX1_keepContract 48 = .ok (.putfield 31, 3) := by decide +kernel
theorem dX1_keepContract_51 : decode cX1_keepContract 51 = .ok (.iconst 1, 1) := by decide +kernel
theorem dX1_keepContract_52 : decode cX1_keepContract 52 = .ok (.ireturn, 1) := by decide +kernel
theorem dX1_covers_0 : decode cX1_covers 0 = .ok (.iconst 0, 1) := by decide +kernel
theorem dX1_covers_1 : decode cX1_covers 1 = .ok (.istore_n 3, 1) := by decide +kernel
theorem dX1_covers_2 : decode cX1_covers 2 = .ok (.iload_n 3, 1) := by decide +kernel
theorem dX1_covers_3 : decode cX1_covers 3 = .ok (.aload_n 0, 1) := by decide +kernel
theorem dX1_covers_4 : decode cX1_covers 4 = .ok (.getfield 31, 3) := by decide +kernel
theorem dX1_covers_7 : decode cX1_covers 7 = .ok (.if_icmp .ge 44, 3) := by decide +kernel
theorem dX1_covers_10 : decode cX1_covers 10 = .ok (.aload_n 0, 1) := by decide +kernel
theorem dX1_covers_11 : decode cX1_covers 11 = .ok (.getfield 21, 3) := by decide +kernel
theorem dX1_covers_14 : decode cX1_covers 14 = .ok (.iload_n 3, 1) := by decide +kernel
theorem dX1_covers_15 : decode cX1_covers 15 = .ok (.iaload, 1) := by decide +kernel
theorem dX1_covers_16 : decode cX1_covers 16 = .ok (.iload_n 1, 1) := by decide +kernel
theorem dX1_covers_17 : decode cX1_covers 17 = .ok (.ishr, 1) := by decide +kernel
theorem dX1_covers_18 : decode cX1_covers 18 = .ok (.iconst 1, 1) := by decide +kernel
theorem dX1_covers_19 : decode cX1_covers 19 = .ok (.iand, 1) := by decide +kernel
theorem dX1_covers_20 : decode cX1_covers 20 = .ok (.ifCond .eq 25, 3) := by decide +kernel
theorem dX1_covers_23 : decode cX1_covers 23 = .ok (.aload_n 0, 1) := by decide +kernel
theorem dX1_covers_24 : decode cX1_covers 24 = .ok (.getfield 25, 3) := by decide +kernel
theorem dX1_covers_27 : decode cX1_covers 27 = .ok (.iload_n 3, 1) := by decide +kernel
theorem dX1_covers_28 : decode cX1_covers 28 = .ok (.iaload, 1) := by decide +kernel
theorem dX1_covers_29 : decode cX1_covers 29 = .ok (.iload_n 2, 1) := by decide +kernel
theorem dX1_covers_30 : decode cX1_covers 30 = .ok (.if_icmp .gt 15, 3) := by decide +kernel
theorem dX1_covers_33 : decode cX1_covers 33 = .ok (.iload_n 2, 1) := by decide +kernel
theorem dX1_covers_34 : decode cX1_covers 34 = .ok (.aload_n 0, 1) := by decide +kernel
theorem dX1_covers_35 : decode cX1_covers 35 = .ok (.getfield 28, 3) := by decide +kernel
theorem dX1_covers_38 : decode cX1_covers 38 = .ok (.iload_n 3, 1) := by decide +kernel
theorem dX1_covers_39 : decode cX1_covers 39 = .ok (.iaload, 1) := by decide +kernel
theorem dX1_covers_40 : decode cX1_covers 40 = .ok (.if_icmp .gt 5, 3) := by decide +kernel
theorem dX1_covers_43 : decode cX1_covers 43 = .ok (.iconst 1, 1) := by decide +kernel
theorem dX1_covers_44 : decode cX1_covers 44 = .ok (.ireturn, 1) := by decide +kernel
theorem dX1_covers_45 : decode cX1_covers 45 = .ok (.iinc 3 1, 3) := by decide +kernel
theorem dX1_covers_48 : decode cX1_covers 48 = .ok (.goto (-46), 3) := by decide +kernel
theorem dX1_covers_51 : decode cX1_covers 51 = .ok (.iconst 0, 1) := by decide +kernel
theorem dX1_covers_52 : decode cX1_covers 52 = .ok (.ireturn, 1) := by decide +kernel
theorem dX1_countsDay_0 : decode cX1_countsDay 0 = .ok (.aload_n 0, 1) := by decide +kernel
theorem dX1_countsDay_1 : decode cX1_countsDay 1 = .ok (.getfield 9, 3) := by decide +kernel
theorem dX1_countsDay_4 : decode cX1_countsDay 4 = .ok (.iload_n 1, 1) := by decide +kernel
theorem dX1_countsDay_5 : decode cX1_countsDay 5 = .ok (.bipush 7, 2) := by decide +kernel
theorem dX1_countsDay_7 : decode cX1_countsDay 7 = .ok (.irem, 1) := by decide +kernel
theorem dX1_countsDay_8 : decode cX1_countsDay 8 = .ok (.ishr, 1) := by decide +kernel
theorem dX1_countsDay_9 : decode cX1_countsDay 9 = .ok (.iconst 1, 1) := by decide +kernel
theorem dX1_countsDay_10 : decode cX1_countsDay 10 = .ok (.iand, 1) := by decide +kernel
theorem dX1_countsDay_11 : decode cX1_countsDay 11 = .ok (.ifCond .eq 7, 3) := by decide +kernel
theorem dX1_countsDay_14 : decode cX1_countsDay 14 = .ok (.iconst 1, 1) := by decide +kernel
theorem dX1_countsDay_15 : decode cX1_countsDay 15 = .ok (.goto 4, 3) := by decide +kernel
theorem dX1_countsDay_18 : decode cX1_countsDay 18 = .ok (.iconst 0, 1) := by decide +kernel
theorem dX1_countsDay_19 : decode cX1_countsDay 19 = .ok (.ireturn, 1) := by decide +kernel
set_option maxRecDepth 20000 in
theorem ggX1_counts_X1_countsDay : GoodIn wsX1_counts wsX1_countsDay := goodIn_r _ [7, 8, 9, 10, 11, 12, 13, 14, 15, 16, 17] (by decide +kernel) (by decide +kernel)
set_option maxRecDepth 20000 in
theorem gX1_counts_X1_countsDay : GoodIn wsX1_counts (wsV RX1 40 RX1 yX1_countsDay wsX1_countsDay) := goodIn_app (goodIn_of _ (by decide +kernel)) ggX1_counts_X1_countsDay
theorem dX1_counts_0 : decode cX1_counts 0 = .ok (.iload_n 1, 1) := by decide +kernel
theorem dX1_counts_1 : decode cX1_counts 1 = .ok (.bipush 24, 2) := by decide +kernel
theorem dX1_counts_3 : decode cX1_counts 3 = .ok (.irem, 1) := by decide +kernel
theorem dX1_counts_4 : decode cX1_counts 4 = .ok (.istore_n 2, 1) := by decide +kernel
theorem dX1_counts_5 : decode cX1_counts 5 = .ok (.aload_n 0, 1) := by decide +kernel
theorem dX1_counts_6 : decode cX1_counts 6 = .ok (.iload_n 1, 1) := by decide +kernel
theorem dX1_counts_7 : decode cX1_counts 7 = .ok (.bipush 24, 2) := by decide +kernel
theorem dX1_counts_9 : decode cX1_counts 9 = .ok (.idiv, 1) := by decide +kernel
theorem dX1_counts_10 : decode cX1_counts 10 = .ok (.invokevirtual 40, 3) := by decide +kernel
theorem dX1_counts_13 : decode cX1_counts 13 = .ok (.ifCond .eq 23, 3) := by decide +kernel
theorem dX1_counts_16 : decode cX1_counts 16 = .ok (.aload_n 0, 1) := by decide +kernel
theorem dX1_counts_17 : decode cX1_counts 17 = .ok (.getfield 15, 3) := by decide +kernel
theorem dX1_counts_20 : decode cX1_counts 20 = .ok (.iload_n 2, 1) := by decide +kernel
theorem dX1_counts_21 : decode cX1_counts 21 = .ok (.if_icmp .gt 15, 3) := by decide +kernel
theorem dX1_counts_24 : decode cX1_counts 24 = .ok (.iload_n 2, 1) := by decide +kernel
theorem dX1_counts_25 : decode cX1_counts 25 = .ok (.aload_n 0, 1) := by decide +kernel
theorem dX1_counts_26 : decode cX1_counts 26 = .ok (.getfield 18, 3) := by decide +kernel
theorem dX1_counts_29 : decode cX1_counts 29 = .ok (.if_icmp .gt 7, 3) := by decide +kernel
theorem dX1_counts_32 : decode cX1_counts 32 = .ok (.iconst 1, 1) := by decide +kernel
theorem dX1_counts_33 : decode cX1_counts 33 = .ok (.goto 4, 3) := by decide +kernel
theorem dX1_counts_36 : decode cX1_counts 36 = .ok (.iconst 0, 1) := by decide +kernel
theorem dX1_counts_37 : decode cX1_counts 37 = .ok (.ireturn, 1) := by decide +kernel
set_option maxRecDepth 20000 in
theorem ggX1_countHours_X1_countBefore : GoodIn wsX1_countHours wsX1_countBefore := goodIn_r _ [5, 6, 7, 8, 9, 10, 11, 12, 13, 14, 15, 16, 17, 18, 19, 20, 21, 22, 23, 24, 25, 4, 26, 27, 28, 29, 30, 31, 32, 33, 34, 35] (by decide +kernel) (by decide +kernel)
set_option maxRecDepth 20000 in
theorem gX1_countHours_X1_countBefore : GoodIn wsX1_countHours (wsV RX1 44 RX1 yX1_countBefore wsX1_countBefore) := goodIn_app (goodIn_of _ (by decide +kernel)) ggX1_countHours_X1_countBefore
theorem dX1_countHours_0 : decode cX1_countHours 0 = .ok (.aload_n 0, 1) := by decide +kernel
theorem dX1_countHours_1 : decode cX1_countHours 1 = .ok (.iload_n 2, 1) := by decide +kernel
theorem dX1_countHours_2 : decode cX1_countHours 2 = .ok (.invokevirtual 44, 3) := by decide +kernel
theorem dX1_countHours_5 : decode cX1_countHours 5 = .ok (.aload_n 0, 1) := by decide +kernel
theorem dX1_countHours_6 : decode cX1_countHours 6 = .ok (.iload_n 1, 1) := by decide +kernel
theorem dX1_countHours_7 : decode cX1_countHours 7 = .ok (.invokevirtual 44, 3) := by decide +kernel
theorem dX1_countHours_10 : decode cX1_countHours 10 = .ok (.isub, 1) := by decide +kernel
theorem dX1_countHours_11 : decode cX1_countHours 11 = .ok (.ireturn, 1) := by decide +kernel
set_option maxRecDepth 20000 in
theorem ggX1_countBefore_J6_bitCount_0f7a4 : GoodIn wsX1_countBefore wsJ6_bitCount_0f7a4 := goodIn_r _ [14, 15, 16, 17] (by decide +kernel) (by decide +kernel)
set_option maxRecDepth 20000 in
theorem gX1_countBefore_J6_bitCount_0f7a4 : GoodIn wsX1_countBefore (va_wsS RX1 48 yJ6_bitCount_0f7a4 wsJ6_bitCount_0f7a4) := goodIn_app (goodIn_of _ (by decide +kernel)) ggX1_countBefore_J6_bitCount_0f7a4
set_option maxRecDepth 20000 in
theorem ggX1_countBefore_X1_countsDay : GoodIn wsX1_countBefore wsX1_countsDay := goodIn_r _ [22, 1, 23, 24, 25, 26, 27, 28, 29, 30, 31] (by decide +kernel) (by decide +kernel)
set_option maxRecDepth 20000 in
theorem gX1_countBefore_X1_countsDay : GoodIn wsX1_countBefore (wsV RX1 40 RX1 yX1_countsDay wsX1_countsDay) := goodIn_app (goodIn_of _ (by decide +kernel)) ggX1_countBefore_X1_countsDay
theorem dX1_countBefore_0 : decode cX1_countBefore 0 = .ok (.iload_n 1, 1) := by decide +kernel
theorem dX1_countBefore_1 : decode cX1_countBefore 1 = .ok (.bipush 24, 2) := by decide +kernel
theorem dX1_countBefore_3 : decode cX1_countBefore 3 = .ok (.idiv, 1) := by decide +kernel
theorem dX1_countBefore_4 : decode cX1_countBefore 4 = .ok (.istore_n 2, 1) := by decide +kernel
theorem dX1_countBefore_5 : decode cX1_countBefore 5 = .ok (.aload_n 0, 1) := by decide +kernel
theorem dX1_countBefore_6 : decode cX1_countBefore 6 = .ok (.getfield 9, 3) := by decide +kernel
theorem dX1_countBefore_9 : decode cX1_countBefore 9 = .ok (.iconst 1, 1) := by decide +kernel
theorem dX1_countBefore_10 : decode cX1_countBefore 10 = .ok (.iload_n 2, 1) := by decide +kernel
theorem dX1_countBefore_11 : decode cX1_countBefore 11 = .ok (.bipush 7, 2) := by decide +kernel
theorem dX1_countBefore_13 : decode cX1_countBefore 13 = .ok (.irem, 1) := by decide +kernel
theorem dX1_countBefore_14 : decode cX1_countBefore 14 = .ok (.ishl, 1) := by decide +kernel
theorem dX1_countBefore_15 : decode cX1_countBefore 15 = .ok (.iconst 1, 1) := by decide +kernel
theorem dX1_countBefore_16 : decode cX1_countBefore 16 = .ok (.isub, 1) := by decide +kernel
theorem dX1_countBefore_17 : decode cX1_countBefore 17 = .ok (.iand, 1) := by decide +kernel
theorem dX1_countBefore_18 : decode cX1_countBefore 18 = .ok (.istore_n 3, 1) := by decide +kernel
theorem dX1_countBefore_19 : decode cX1_countBefore 19 = .ok (.iload_n 2, 1) := by decide +kernel
theorem dX1_countBefore_20 : decode cX1_countBefore 20 = .ok (.bipush 7, 2) := by decide +kernel
theorem dX1_countBefore_22 : decode cX1_countBefore 22 = .ok (.idiv, 1) := by decide +kernel
theorem dX1_countBefore_23 : decode cX1_countBefore 23 = .ok (.aload_n 0, 1) := by decide +kernel
theorem dX1_countBefore_24 : decode cX1_countBefore 24 = .ok (.getfield 9, 3) := by decide +kernel
theorem dX1_countBefore_27 : decode cX1_countBefore 27 = .ok (.invokestatic 48, 3) := by decide +kernel
theorem dX1_countBefore_30 : decode cX1_countBefore 30 = .ok (.imul, 1) := by decide +kernel
theorem dX1_countBefore_31 : decode cX1_countBefore 31 = .ok (.iload_n 3, 1) := by decide +kernel
theorem dX1_countBefore_32 : decode cX1_countBefore 32 = .ok (.invokestatic 48, 3) := by decide +kernel
theorem dX1_countBefore_35 : decode cX1_countBefore 35 = .ok (.iadd, 1) := by decide +kernel
theorem dX1_countBefore_36 : decode cX1_countBefore 36 = .ok (.istore 4, 2) := by decide +kernel
theorem dX1_countBefore_38 : decode cX1_countBefore 38 = .ok (.aload_n 0, 1) := by decide +kernel
theorem dX1_countBefore_39 : decode cX1_countBefore 39 = .ok (.getfield 18, 3) := by decide +kernel
theorem dX1_countBefore_42 : decode cX1_countBefore 42 = .ok (.aload_n 0, 1) := by decide +kernel
theorem dX1_countBefore_43 : decode cX1_countBefore 43 = .ok (.getfield 15, 3) := by decide +kernel
theorem dX1_countBefore_46 : decode cX1_countBefore 46 = .ok (.isub, 1) := by decide +kernel
theorem dX1_countBefore_47 : decode cX1_countBefore 47 = .ok (.iconst 1, 1) := by decide +kernel
theorem dX1_countBefore_48 : decode cX1_countBefore 48 = .ok (.iadd, 1) := by decide +kernel
theorem dX1_countBefore_49 : decode cX1_countBefore 49 = .ok (.istore 5, 2) := by decide +kernel
theorem dX1_countBefore_51 : decode cX1_countBefore 51 = .ok (.iload 4, 2) := by decide +kernel
theorem dX1_countBefore_53 : decode cX1_countBefore 53 = .ok (.iload 5, 2) := by decide +kernel
theorem dX1_countBefore_55 : decode cX1_countBefore 55 = .ok (.imul, 1) := by decide +kernel
theorem dX1_countBefore_56 : decode cX1_countBefore 56 = .ok (.istore 6, 2) := by decide +kernel
theorem dX1_countBefore_58 : decode cX1_countBefore 58 = .ok (.aload_n 0, 1) := by decide +kernel
theorem dX1_countBefore_59 : decode cX1_countBefore 59 = .ok (.iload_n 2, 1) := by decide +kernel
theorem dX1_countBefore_60 : decode cX1_countBefore 60 = .ok (.invokevirtual 40, 3) := by decide +kernel
theorem dX1_countBefore_63 : decode cX1_countBefore 63 = .ok (.ifCond .eq 26, 3) := by decide +kernel
theorem dX1_countBefore_66 : decode cX1_countBefore 66 = .ok (.iload 6, 2) := by decide +kernel
theorem dX1_countBefore_68 : decode cX1_countBefore 68 = .ok (.iload_n 1, 1) := by decide +kernel
theorem dX1_countBefore_69 : decode cX1_countBefore 69 = .ok (.bipush 24, 2) := by decide +kernel
theorem dX1_countBefore_71 : decode cX1_countBefore 71 = .ok (.irem, 1) := by decide +kernel
theorem dX1_countBefore_72 : decode cX1_countBefore 72 = .ok (.aload_n 0, 1) := by decide +kernel
theorem dX1_countBefore_73 : decode cX1_countBefore 73 = .ok (.getfield 15, 3) := by decide +kernel
theorem dX1_countBefore_76 : decode cX1_countBefore 76 = .ok (.isub, 1) := by decide +kernel
theorem dX1_countBefore_77 : decode cX1_countBefore 77 = .ok (.iconst 0, 1) := by decide +kernel
theorem dX1_countBefore_78 : decode cX1_countBefore 78 = .ok (.invokestatic 53, 3) := by decide +kernel
theorem dX1_countBefore_81 : decode cX1_countBefore 81 = .ok (.iload 5, 2) := by decide +kernel
theorem dX1_countBefore_83 : decode cX1_countBefore 83 = .ok (.invokestatic 59, 3) := by decide +kernel
theorem dX1_countBefore_86 : decode cX1_countBefore 86 = .ok (.iadd, 1) := by decide +kernel
theorem dX1_countBefore_87 : decode cX1_countBefore 87 = .ok (.istore 6, 2) := by decide +kernel
theorem dX1_countBefore_89 : decode cX1_countBefore 89 = .ok (.iload 6, 2) := by decide +kernel
theorem dX1_countBefore_91 : decode cX1_countBefore 91 = .ok (.ireturn, 1) := by decide +kernel
set_option maxRecDepth 20000 in
theorem ggX2_init_X1_init : GoodIn wsX2_init wsX1_init := goodIn_r _ [15, 16, 2, 3, 17, 18, 19, 6, 20, 21, 22, 23, 24, 25, 31, 32, 33, 34, 35, 36, 37, 38, 39] (by decide +kernel) (by decide +kernel)
set_option maxRecDepth 20000 in
theorem gX2_init_X1_init_n32 : GoodIn wsX2_init (wsX1_init) := ggX2_init_X1_init
theorem dX2_init_0 : decode cX2_init 0 = .ok (.aload_n 0, 1) := by decide +kernel
theorem dX2_init_1 : decode cX2_init 1 = .ok (.invokespecial 1, 3) := by decide +kernel
theorem dX2_init_4 : decode cX2_init 4 = .ok (.aload_n 0, 1) := by decide +kernel
theorem dX2_init_5 : decode cX2_init 5 = .ok (.iconst 4, 1) := by decide +kernel
theorem dX2_init_6 : decode cX2_init 6 = .ok (.anewarray 9, 3) := by decide +kernel
theorem dX2_init_9 : decode cX2_init 9 = .ok (.putfield 11, 3) := by decide +kernel
theorem dX2_init_12 : decode cX2_init 12 = .ok (.aload_n 0, 1) := by decide +kernel
theorem dX2_init_13 : decode cX2_init 13 = .ok (.bipush 9, 2) := by decide +kernel
theorem dX2_init_15 : decode cX2_init 15 = .ok (.newarray .int, 2) := by decide +kernel
theorem dX2_init_17 : decode cX2_init 17 = .ok (.dup, 1) := by decide +kernel
theorem dX2_init_18 : decode cX2_init 18 = .ok (.iconst 0, 1) := by decide +kernel
theorem dX2_init_19 : decode cX2_init 19 = .ok (.iconst 4, 1) := by decide +kernel
theorem dX2_init_20 : decode cX2_init 20 = .ok (.iastore, 1) := by decide +kernel
theorem dX2_init_21 : decode cX2_init 21 = .ok (.dup, 1) := by decide +kernel
theorem dX2_init_22 : decode cX2_init 22 = .ok (.iconst 1, 1) := by decide +kernel
theorem dX2_init_23 : decode cX2_init 23 = .ok (.bipush 8, 2) := by decide +kernel
theorem dX2_init_25 : decode cX2_init 25 = .ok (.iastore, 1) := by decide +kernel
theorem dX2_init_26 : decode cX2_init 26 = .ok (.dup, 1) := by decide +kernel
theorem dX2_init_27 : decode cX2_init 27 = .ok (.iconst 2, 1) := by decide +kernel
theorem dX2_init_28 : decode cX2_init 28 = .ok (.bipush 16, 2) := by decide +kernel
theorem dX2_init_30 : decode cX2_init 30 = .ok (.iastore, 1) := by decide +kernel
theorem dX2_init_31 : decode cX2_init 31 = .ok (.dup, 1) := by decide +kernel
theorem dX2_init_32 : decode cX2_init 32 = .ok (.iconst 3, 1) := by decide +kernel
theorem dX2_init_33 : decode cX2_init 33 = .ok (.iconst 2, 1) := by decide +kernel
theorem dX2_init_34 : decode cX2_init 34 = .ok (.iastore, 1) := by decide +kernel
theorem dX2_init_35 : decode cX2_init 35 = .ok (.dup, 1) := by decide +kernel
theorem dX2_init_36 : decode cX2_init 36 = .ok (.iconst 4, 1) := by decide +kernel
theorem dX2_init_37 : decode cX2_init 37 = .ok (.iconst 4, 1) := by decide +kernel
theorem dX2_init_38 : decode cX2_init 38 = .ok (.iastore, 1) := by decide +kernel
theorem dX2_init_39 : decode cX2_init 39 = .ok (.dup, 1) := by decide +kernel
theorem dX2_init_40 : decode cX2_init 40 = .ok (.iconst 5, 1) := by decide +kernel
theorem dX2_init_41 : decode cX2_init 41 = .ok (.bipush 8, 2) := by decide +kernel
theorem dX2_init_43 : decode cX2_init 43 = .ok (.iastore, 1) := by decide +kernel
theorem dX2_init_44 : decode cX2_init 44 = .ok (.dup, 1) := by decide +kernel
theorem dX2_init_45 : decode cX2_init 45 = .ok (.bipush 6, 2) := by decide +kernel
theorem dX2_init_47 : decode cX2_init 47 = .ok (.iconst 1, 1) := by decide +kernel
theorem dX2_init_48 : decode cX2_init 48 = .ok (.iastore, 1) := by decide +kernel
theorem dX2_init_49 : decode cX2_init 49 = .ok (.dup, 1) := by decide +kernel
theorem dX2_init_50 : decode cX2_init 50 = .ok (.bipush 7, 2) := by decide +kernel
theorem dX2_init_52 : decode cX2_init 52 = .ok (.iconst 2, 1) := by decide +kernel
theorem dX2_init_53 : decode cX2_init 53 = .ok (.iastore, 1) := by decide +kernel
theorem dX2_init_54 : decode cX2_init 54 = .ok (.dup, 1) := by decide +kernel
theorem dX2_init_55 : decode cX2_init 55 = .ok (.bipush 8, 2) := by decide +kernel
theorem dX2_init_57 : decode cX2_init 57 = .ok (.iconst 4, 1) := by decide +kernel
theorem dX2_init_58 : decode cX2_init 58 = .ok (.iastore, 1) := by decide +kernel
theorem dX2_init_59 : decode cX2_init 59 = .ok (.putfield 15, 3) := by decide +kernel
theorem dX2_init_62 : decode cX2_init 62 = .ok (.aload_n 0, 1) := by decide +kernel
theorem dX2_init_63 : decode cX2_init 63 = .ok (.bipush 40, 2) := by decide +kernel
theorem dX2_init_65 : decode cX2_init 65 = .ok (.anewarray 19, 3) := by decide +kernel
theorem dX2_init_68 : decode cX2_init 68 = .ok (.putfield 21, 3) := by decide +kernel
theorem dX2_init_71 : decode cX2_init 71 = .ok (.aload_n 0, 1) := by decide +kernel
theorem dX2_init_72 : decode cX2_init 72 = .ok (.iconst 0, 1) := by decide +kernel
theorem dX2_init_73 : decode cX2_init 73 = .ok (.putfield 25, 3) := by decide +kernel
theorem dX2_init_76 : decode cX2_init 76 = .ok (.aload_n 0, 1) := by decide +kernel
theorem dX2_init_77 : decode cX2_init 77 = .ok (.iconst 0, 1) := by decide +kernel
theorem dX2_init_78 : decode cX2_init 78 = .ok (.putfield 29, 3) := by decide +kernel
theorem dX2_init_81 : decode cX2_init 81 = .ok (.iconst 0, 1) := by decide +kernel
theorem dX2_init_82 : decode cX2_init 82 = .ok (.istore_n 1, 1) := by decide +kernel
theorem dX2_init_83 : decode cX2_init 83 = .ok (.iload_n 1, 1) := by decide +kernel
theorem dX2_init_84 : decode cX2_init 84 = .ok (.iconst 4, 1) := by decide +kernel
theorem dX2_init_85 : decode cX2_init 85 = .ok (.if_icmp .ge 22, 3) := by decide +kernel
theorem dX2_init_88 : decode cX2_init 88 = .ok (.aload_n 0, 1) := by decide +kernel
theorem dX2_init_89 : decode cX2_init 89 = .ok (.getfield 11, 3) := by decide +kernel
theorem dX2_init_92 : decode cX2_init 92 = .ok (.iload_n 1, 1) := by decide +kernel
theorem dX2_init_93 : decode cX2_init 93 = .ok (.new 9, 3) := by decide +kernel
theorem dX2_init_96 : decode cX2_init 96 = .ok (.dup, 1) := by decide +kernel
theorem dX2_init_97 : decode cX2_init 97 = .ok (.invokespecial 32, 3) := by decide +kernel
theorem dX2_init_100 : decode cX2_init 100 = .ok (.aastore, 1) := by decide +kernel
theorem dX2_init_101 : decode cX2_init 101 = .ok (.iinc 1 1, 3) := by decide +kernel
theorem dX2_init_104 : decode cX2_init 104 = .ok (.goto (-21), 3) := by decide +kernel
theorem dX2_init_107 : decode cX2_init 107 = .ok (.return_, 1) := by decide +kernel
set_option maxRecDepth 20000 in
theorem ggX2_setCalendar_X2_siteAt : GoodIn wsX2_setCalendar wsX2_siteAt := goodIn_ca (goodIn_r _ [8, 9, 10, 11, 29, 30, 31, 32, 33] (by decide +kernel) (by decide +kernel)) (goodIn_sub (fun _ h => List.mem_cons_of_mem _ (List.mem_append_left _ (List.mem_append_right _ h))) (by decide +kernel))
set_option maxRecDepth 20000 in
theorem gX2_setCalendar_X2_siteAt : GoodIn wsX2_setCalendar (wsV RX2 33 RX2 yX2_siteAt wsX2_siteAt) := goodIn_app (goodIn_of _ (by decide +kernel)) ggX2_setCalendar_X2_siteAt
set_option maxRecDepth 20000 in
theorem ggX2_setCalendar_X2_checkRange : GoodIn wsX2_setCalendar wsX2_checkRange := goodIn_ca (goodIn_r _ [14, 15, 16, 7, 17, 18, 19] (by decide +kernel) (by decide +kernel)) (goodIn_sub (fun _ h => List.mem_cons_of_mem _ (List.mem_append_right _ h)) (by decide +kernel))
set_option maxRecDepth 20000 in
theorem gX2_setCalendar_X2_checkRange : GoodIn wsX2_setCalendar (va_wsS RX2 37 yX2_checkRange wsX2_checkRange) := goodIn_app (goodIn_of _ (by decide +kernel)) ggX2_setCalendar_X2_checkRange
theorem dX2_setCalendar_0 : decode cX2_setCalendar 0 = .ok (.aload_n 0, 1) := by decide +kernel
theorem dX2_setCalendar_1 : decode cX2_setCalendar 1 = .ok (.iload_n 1, 1) := by decide +kernel
theorem dX2_setCalendar_2 : decode cX2_setCalendar 2 = .ok (.invokevirtual 33, 3) := by decide +kernel
theorem dX2_setCalendar_5 : decode cX2_setCalendar 5 = .ok (.astore 5, 2) := by decide +kernel
theorem dX2_setCalendar_7 : decode cX2_setCalendar 7 = .ok (.iload_n 2, 1) := by decide +kernel
theorem dX2_setCalendar_8 : decode cX2_setCalendar 8 = .ok (.iconst 0, 1) := by decide +kernel
theorem dX2_setCalendar_9 : decode cX2_setCalendar 9 = .ok (.bipush 127, 2) := by decide +kernel
theorem dX2_setCalendar_11 : decode cX2_setCalendar 11 = .ok (.invokestatic 37, 3) := by decide +kernel
theorem dX2_setCalendar_14 : decode cX2_setCalendar 14 = .ok (.iload_n 3, 1) := by decide +kernel
theorem dX2_setCalendar_15 : decode cX2_setCalendar 15 = .ok (.iconst 0, 1) := by decide +kernel
theorem dX2_setCalendar_16 : decode cX2_setCalendar 16 = .ok (.bipush 23, 2) := by decide +kernel
theorem dX2_setCalendar_18 : decode cX2_setCalendar 18 = .ok (.invokestatic 37, 3) := by decide +kernel
theorem dX2_setCalendar_21 : decode cX2_setCalendar 21 = .ok (.iload 4, 2) := by decide +kernel
theorem dX2_setCalendar_23 : decode cX2_setCalendar 23 = .ok (.iload_n 3, 1) := by decide +kernel
theorem dX2_setCalendar_24 : decode cX2_setCalendar 24 = .ok (.bipush 23, 2) := by decide +kernel
theorem dX2_setCalendar_26 : decode cX2_setCalendar 26 = .ok (.invokestatic 37, 3) := by decide +kernel
theorem dX2_setCalendar_29 : decode cX2_setCalendar 29 = .ok (.aload 5, 2) := by decide +kernel
theorem dX2_setCalendar_31 : decode cX2_setCalendar 31 = .ok (.getfield 41, 3) := by decide +kernel
theorem dX2_setCalendar_34 : decode cX2_setCalendar 34 = .ok (.istore 6, 2) := by decide +kernel
theorem dX2_setCalendar_36 : decode cX2_setCalendar 36 = .ok (.aload 5, 2) := by decide +kernel
theorem dX2_setCalendar_38 : decode cX2_setCalendar 38 = .ok (.iload_n 2, 1) := by decide +kernel
theorem dX2_setCalendar_39 : decode cX2_setCalendar 39 = .ok (.putfield 41, 3) := by decide +kernel
theorem dX2_setCalendar_42 : decode cX2_setCalendar 42 = .ok (.aload 5, 2) := by decide +kernel
theorem dX2_setCalendar_44 : decode cX2_setCalendar 44 = .ok (.iload_n 3, 1) := by decide +kernel
theorem dX2_setCalendar_45 : decode cX2_setCalendar 45 = .ok (.putfield 44, 3) := by decide +kernel
theorem dX2_setCalendar_48 : decode cX2_setCalendar 48 = .ok (.aload 5, 2) := by decide +kernel
theorem dX2_setCalendar_50 : decode cX2_setCalendar 50 = .ok (.iload 4, 2) := by decide +kernel
theorem dX2_setCalendar_52 : decode cX2_setCalendar 52 = .ok (.putfield 47, 3) := by decide +kernel
theorem dX2_setCalendar_55 : decode cX2_setCalendar 55 = .ok (.iload 6, 2) := by decide +kernel
theorem dX2_setCalendar_57 : decode cX2_setCalendar 57 = .ok (.ireturn, 1) := by decide +kernel
set_option maxRecDepth 20000 in
theorem ggX2_addContract_X2_siteAt : GoodIn wsX2_addContract wsX2_siteAt := goodIn_ca (goodIn_r _ [6, 7, 8, 9, 41, 42, 43, 44, 45] (by decide +kernel) (by decide +kernel)) (goodIn_sub (fun _ h => List.mem_cons_of_mem _ (List.mem_append_left _ (List.mem_append_left _ (List.mem_append_right _ h)))) (by decide +kernel))
set_option maxRecDepth 20000 in
theorem gX2_addContract_X2_siteAt : GoodIn wsX2_addContract (wsV RX2 33 RX2 yX2_siteAt wsX2_siteAt) := goodIn_app (goodIn_of _ (by decide +kernel)) ggX2_addContract_X2_siteAt
set_option maxRecDepth 20000 in
theorem ggX2_addContract_X2_checkRange : GoodIn wsX2_addContract wsX2_checkRange := goodIn_ca (goodIn_r _ [12, 13, 14, 5, 15, 16, 17] (by decide +kernel) (by decide +kernel)) (goodIn_sub (fun _ h => List.mem_cons_of_mem _ (List.mem_append_left _ (List.mem_append_right _ h))) (by decide +kernel))
set_option maxRecDepth 20000 in
theorem gX2_addContract_X2_checkRange : GoodIn wsX2_addContract (va_wsS RX2 37 yX2_checkRange wsX2_checkRange) := goodIn_app (goodIn_of _ (by decide +kernel)) ggX2_addContract_X2_checkRange
set_option maxRecDepth 20000 in
theorem ggX2_addContract_X1_keepContract : GoodIn wsX2_addContract wsX1_keepContract := goodIn_r _ [22, 23, 24, 25, 26, 32, 33, 34, 35, 36, 37, 38, 39, 40] (by decide +kernel) (by decide +kernel)
set_option maxRecDepth 20000 in
theorem gX2_addContract_X1_keepContract : GoodIn wsX2_addContract (wsV RX2 50 RX1 yX1_keepContract wsX1_keepContract) := goodIn_app (goodIn_of _ (by decide +kernel)) ggX2_addContract_X1_keepContract
set_option maxRecDepth 20000 in
theorem ggX2_addContract_X2_checkState : GoodIn wsX2_addContract wsX2_checkState := goodIn_ca (goodIn_r _ [29, 30, 31] (by decide +kernel) (by decide +kernel)) (goodIn_sub (fun _ h => List.mem_cons_of_mem _ (List.mem_append_right _ h)) (by decide +kernel))
set_option maxRecDepth 20000 in
theorem gX2_addContract_X2_checkState : GoodIn wsX2_addContract (va_wsS RX2 54 yX2_checkState wsX2_checkState) := goodIn_app (goodIn_of _ (by decide +kernel)) ggX2_addContract_X2_checkState
theorem dX2_addContract_0 : decode cX2_addContract 0 = .ok (.aload_n 0, 1) := by decide +kernel
theorem dX2_addContract_1 : decode cX2_addContract 1 = .ok (.iload_n 1, 1) := by decide +kernel
theorem dX2_addContract_2 : decode cX2_addContract 2 = .ok (.invokevirtual 33, 3) := by decide +kernel
theorem dX2_addContract_5 : decode cX2_addContract 5 = .ok (.astore 5, 2) := by decide +kernel
theorem dX2_addContract_7 : decode cX2_addContract 7 = .ok (.iload_n 2, 1) := by decide +kernel
theorem dX2_addContract_8 : decode cX2_addContract 8 = .ok (.iconst 1, 1) := by decide +kernel
theorem dX2_addContract_9 : decode cX2_addContract 9 = .ok (.bipush 15, 2) := by decide +kernel
theorem dX2_addContract_11 : decode cX2_addContract 11 = .ok (.invokestatic 37, 3) := by decide +kernel
theorem dX2_addContract_14 : decode cX2_addContract 14 = .ok (.iload_n 3, 1) := by decide +kernel
theorem dX2_addContract_15 : decode cX2_addContract 15 = .ok (.iconst 0, 1) := by decide +kernel
theorem dX2_addContract_16 : decode cX2_addContract 16 = .ok (.sipush 1000, 3) := by decide +kernel
theorem dX2_addContract_19 : decode cX2_addContract 19 = .ok (.invokestatic 37, 3) := by decide +kernel
theorem dX2_addContract_22 : decode cX2_addContract 22 = .ok (.iload 4, 2) := by decide +kernel
theorem dX2_addContract_24 : decode cX2_addContract 24 = .ok (.iload_n 3, 1) := by decide +kernel
theorem dX2_addContract_25 : decode cX2_addContract 25 = .ok (.sipush 1000, 3) := by decide +kernel
theorem dX2_addContract_28 : decode cX2_addContract 28 = .ok (.invokestatic 37, 3) := by decide +kernel
theorem dX2_addContract_31 : decode cX2_addContract 31 = .ok (.aload 5, 2) := by decide +kernel
theorem dX2_addContract_33 : decode cX2_addContract 33 = .ok (.iload_n 2, 1) := by decide +kernel
theorem dX2_addContract_34 : decode cX2_addContract 34 = .ok (.iload_n 3, 1) := by decide +kernel
theorem dX2_addContract_35 : decode cX2_addContract 35 = .ok (.iload 4, 2) := by decide +kernel
theorem dX2_addContract_37 : decode cX2_addContract 37 = .ok (.invokevirtual 50, 3) := by decide +kernel
theorem dX2_addContract_40 : decode cX2_addContract 40 = .ok (.istore 6, 2) := by decide +kernel
theorem dX2_addContract_42 : decode cX2_addContract 42 = .ok (.iload 6, 2) := by decide +kernel
theorem dX2_addContract_44 : decode cX2_addContract 44 = .ok (.invokestatic 54, 3) := by decide +kernel
theorem dX2_addContract_47 : decode cX2_addContract 47 = .ok (.aload 5, 2) := by decide +kernel
theorem dX2_addContract_49 : decode cX2_addContract 49 = .ok (.getfield 58, 3) := by decide +kernel
theorem dX2_addContract_52 : decode cX2_addContract 52 = .ok (.ireturn, 1) := by decide +kernel
set_option maxRecDepth 20000 in
theorem ggX2_setPromise_X2_checkRange : GoodIn wsX2_setPromise wsX2_checkRange := goodIn_ca (goodIn_r _ [5, 6, 7, 4, 8, 9, 10] (by decide +kernel) (by decide +kernel)) (goodIn_sub (fun _ h => List.mem_cons_of_mem _ (List.mem_append_right _ h)) (by decide +kernel))
set_option maxRecDepth 20000 in
theorem gX2_setPromise_X2_checkRange : GoodIn wsX2_setPromise (va_wsS RX2 37 yX2_checkRange wsX2_checkRange) := goodIn_app (goodIn_of _ (by decide +kernel)) ggX2_setPromise_X2_checkRange
theorem dX2_setPromise_0 : decode cX2_setPromise 0 = .ok (.iload_n 1, 1) := by decide +kernel
theorem dX2_setPromise_1 : decode cX2_setPromise 1 = .ok (.iconst 0, 1) := by decide +kernel
theorem dX2_setPromise_2 : decode cX2_setPromise 2 = .ok (.iconst 2, 1) := by decide +kernel
theorem dX2_setPromise_3 : decode cX2_setPromise 3 = .ok (.invokestatic 37, 3) := by decide +kernel
theorem dX2_setPromise_6 : decode cX2_setPromise 6 = .ok (.iload_n 2, 1) := by decide +kernel
theorem dX2_setPromise_7 : decode cX2_setPromise 7 = .ok (.iconst 0, 1) := by decide +kernel
theorem dX2_setPromise_8 : decode cX2_setPromise 8 = .ok (.iconst 2, 1) := by decide +kernel
theorem dX2_setPromise_9 : decode cX2_setPromise 9 = .ok (.invokestatic 37, 3) := by decide +kernel
theorem dX2_setPromise_12 : decode cX2_setPromise 12 = .ok (.iload_n 3, 1) := by decide +kernel
theorem dX2_setPromise_13 : decode cX2_setPromise 13 = .ok (.iconst 1, 1) := by decide +kernel
theorem dX2_setPromise_14 : decode cX2_setPromise 14 = .ok (.sipush 1000, 3) := by decide +kernel
theorem dX2_setPromise_17 : decode cX2_setPromise 17 = .ok (.invokestatic 37, 3) := by decide +kernel
theorem dX2_setPromise_20 : decode cX2_setPromise 20 = .ok (.iload_n 1, 1) := by decide +kernel
theorem dX2_setPromise_21 : decode cX2_setPromise 21 = .ok (.iconst 3, 1) := by decide +kernel
theorem dX2_setPromise_22 : decode cX2_setPromise 22 = .ok (.imul, 1) := by decide +kernel
theorem dX2_setPromise_23 : decode cX2_setPromise 23 = .ok (.iload_n 2, 1) := by decide +kernel
theorem dX2_setPromise_24 : decode cX2_setPromise 24 = .ok (.iadd, 1) := by decide +kernel
theorem dX2_setPromise_25 : decode cX2_setPromise 25 = .ok (.istore 4, 2) := by decide +kernel
theorem dX2_setPromise_27 : decode cX2_setPromise 27 = .ok (.aload_n 0, 1) := by decide +kernel
theorem dX2_setPromise_28 : decode cX2_setPromise 28 = .ok (.getfield 15, 3) := by decide +kernel
theorem dX2_setPromise_31 : decode cX2_setPromise 31 = .ok (.iload 4, 2) := by decide +kernel
theorem dX2_setPromise_33 : decode cX2_setPromise 33 = .ok (.iaload, 1) := by decide +kernel
theorem dX2_setPromise_34 : decode cX2_setPromise 34 = .ok (.istore 5, 2) := by decide +kernel
theorem dX2_setPromise_36 : decode cX2_setPromise 36 = .ok (.aload_n 0, 1) := by decide +kernel
theorem dX2_setPromise_37 : decode cX2_setPromise 37 = .ok (.getfield 15, 3) := by decide +kernel
theorem dX2_setPromise_40 : decode cX2_setPromise 40 = .ok (.iload 4, 2) := by decide +kernel
theorem dX2_setPromise_42 : decode cX2_setPromise 42 = .ok (.iload_n 3, 1) := by decide +kernel
theorem dX2_setPromise_43 : decode cX2_setPromise 43 = .ok (.iastore, 1) := by decide +kernel
theorem dX2_setPromise_44 : decode cX2_setPromise 44 = .ok (.iload 5, 2) := by decide +kernel
theorem dX2_setPromise_46 : decode cX2_setPromise 46 = .ok (.ireturn, 1) := by decide +kernel
set_option maxRecDepth 20000 in
theorem ggX2_isCovered_X2_siteAt : GoodIn wsX2_isCovered wsX2_siteAt := goodIn_ca (goodIn_r _ [5, 6, 7, 8, 29, 30, 31, 32, 33] (by decide +kernel) (by decide +kernel)) (goodIn_sub (fun _ h => List.mem_cons_of_mem _ (List.mem_append_left _ (List.mem_append_right _ h))) (by decide +kernel))
set_option maxRecDepth 20000 in
theorem gX2_isCovered_X2_siteAt : GoodIn wsX2_isCovered (wsV RX2 33 RX2 yX2_siteAt wsX2_siteAt) := goodIn_app (goodIn_of _ (by decide +kernel)) ggX2_isCovered_X2_siteAt
set_option maxRecDepth 20000 in
theorem ggX2_isCovered_X2_checkKind : GoodIn wsX2_isCovered wsX2_checkKind := goodIn_ca (goodIn_r _ [11, 6, 7] (by decide +kernel) (by decide +kernel)) (goodIn_sub (fun _ h => List.mem_cons_of_mem _ (List.mem_append_left _ (List.mem_append_right _ h))) (by decide +kernel))
set_option maxRecDepth 20000 in
theorem gX2_isCovered_X2_checkKind : GoodIn wsX2_isCovered (va_wsS RX2 61 yX2_checkKind wsX2_checkKind) := goodIn_app (goodIn_of _ (by decide +kernel)) ggX2_isCovered_X2_checkKind
set_option maxRecDepth 20000 in
theorem ggX2_isCovered_X2_checkRange : GoodIn wsX2_isCovered wsX2_checkRange := goodIn_ca (goodIn_r _ [14, 15, 16, 4, 17, 18, 19] (by decide +kernel) (by decide +kernel)) (goodIn_sub (fun _ h => List.mem_cons_of_mem _ (List.mem_append_right _ h)) (by decide +kernel))
set_option maxRecDepth 20000 in
theorem gX2_isCovered_X2_checkRange : GoodIn wsX2_isCovered (va_wsS RX2 37 yX2_checkRange wsX2_checkRange) := goodIn_app (goodIn_of _ (by decide +kernel)) ggX2_isCovered_X2_checkRange
set_option maxRecDepth 20000 in
theorem ggX2_isCovered_X1_covers : GoodIn wsX2_isCovered wsX1_covers := goodIn_r _ [24, 25, 26, 27, 28, 34, 35, 36, 37, 38, 39, 40, 41, 42] (by decide +kernel) (by decide +kernel)
set_option maxRecDepth 20000 in
theorem gX2_isCovered_X1_covers : GoodIn wsX2_isCovered (wsV RX2 65 RX1 yX1_covers wsX1_covers) := goodIn_app (goodIn_of _ (by decide +kernel)) ggX2_isCovered_X1_covers
theorem dX2_isCovered_0 : decode cX2_isCovered 0 = .ok (.aload_n 0, 1) := by decide +kernel
theorem dX2_isCovered_1 : decode cX2_isCovered 1 = .ok (.iload_n 1, 1) := by decide +kernel
theorem dX2_isCovered_2 : decode cX2_isCovered 2 = .ok (.invokevirtual 33, 3) := by decide +kernel
theorem dX2_isCovered_5 : decode cX2_isCovered 5 = .ok (.astore 4, 2) := by decide +kernel
theorem dX2_isCovered_7 : decode cX2_isCovered 7 = .ok (.iload_n 2, 1) := by decide +kernel
theorem dX2_isCovered_8 : decode cX2_isCovered 8 = .ok (.invokestatic 61, 3) := by decide +kernel
theorem dX2_isCovered_11 : decode cX2_isCovered 11 = .ok (.iload_n 3, 1) := by decide +kernel
theorem dX2_isCovered_12 : decode cX2_isCovered 12 = .ok (.iconst 0, 1) := by decide +kernel
theorem dX2_isCovered_13 : decode cX2_isCovered 13 = .ok (.sipush 1000, 3) := by decide +kernel
theorem dX2_isCovered_16 : decode cX2_isCovered 16 = .ok (.invokestatic 37, 3) := by decide +kernel
theorem dX2_isCovered_19 : decode cX2_isCovered 19 = .ok (.aload 4, 2) := by decide +kernel
theorem dX2_isCovered_21 : decode cX2_isCovered 21 = .ok (.iload_n 2, 1) := by decide +kernel
theorem dX2_isCovered_22 : decode cX2_isCovered 22 = .ok (.iload_n 3, 1) := by decide +kernel
theorem dX2_isCovered_23 : decode cX2_isCovered 23 = .ok (.invokevirtual 65, 3) := by decide +kernel
theorem dX2_isCovered_26 : decode cX2_isCovered 26 = .ok (.ireturn, 1) := by decide +kernel
set_option maxRecDepth 20000 in
theorem ggX2_nextGap_X2_siteAt : GoodIn wsX2_nextGap wsX2_siteAt := goodIn_ca (goodIn_r _ [5, 6, 7, 8, 29, 30, 31, 32, 33] (by decide +kernel) (by decide +kernel)) (goodIn_sub (fun _ h => List.mem_cons_of_mem _ (List.mem_append_left _ (List.mem_append_right _ h))) (by decide +kernel))
set_option maxRecDepth 20000 in
theorem gX2_nextGap_X2_siteAt : GoodIn wsX2_nextGap (wsV RX2 33 RX2 yX2_siteAt wsX2_siteAt) := goodIn_app (goodIn_of _ (by decide +kernel)) ggX2_nextGap_X2_siteAt
set_option maxRecDepth 20000 in
theorem ggX2_nextGap_X2_checkKind : GoodIn wsX2_nextGap wsX2_checkKind := goodIn_ca (goodIn_r _ [11, 6, 7] (by decide +kernel) (by decide +kernel)) (goodIn_sub (fun _ h => List.mem_cons_of_mem _ (List.mem_append_left _ (List.mem_append_right _ h))) (by decide +kernel))
set_option maxRecDepth 20000 in
theorem gX2_nextGap_X2_checkKind : GoodIn wsX2_nextGap (va_wsS RX2 61 yX2_checkKind wsX2_checkKind) := goodIn_app (goodIn_of _ (by decide +kernel)) ggX2_nextGap_X2_checkKind
set_option maxRecDepth 20000 in
theorem ggX2_nextGap_X2_checkRange : GoodIn wsX2_nextGap wsX2_checkRange := goodIn_ca (goodIn_r _ [14, 15, 16, 4, 17, 18, 19] (by decide +kernel) (by decide +kernel)) (goodIn_sub (fun _ h => List.mem_cons_of_mem _ (List.mem_append_right _ h)) (by decide +kernel))
set_option maxRecDepth 20000 in
theorem gX2_nextGap_X2_checkRange : GoodIn wsX2_nextGap (va_wsS RX2 37 yX2_checkRange wsX2_checkRange) := goodIn_app (goodIn_of _ (by decide +kernel)) ggX2_nextGap_X2_checkRange
set_option maxRecDepth 20000 in
theorem ggX2_nextGap_X1_covers : GoodIn wsX2_nextGap wsX1_covers := goodIn_r _ [24, 25, 26, 27, 28, 34, 35, 36, 37, 38, 39, 40, 41, 42] (by decide +kernel) (by decide +kernel)
set_option maxRecDepth 20000 in
theorem gX2_nextGap_X1_covers : GoodIn wsX2_nextGap (wsV RX2 65 RX1 yX1_covers wsX1_covers) := goodIn_app (goodIn_of _ (by decide +kernel)) ggX2_nextGap_X1_covers
theorem dX2_nextGap_0 : decode cX2_nextGap 0 = .ok (.aload_n 0, 1) := by decide +kernel
theorem dX2_nextGap_1 : decode cX2_nextGap 1 = .ok (.iload_n 1, 1) := by decide +kernel
theorem dX2_nextGap_2 : decode cX2_nextGap 2 = .ok (.invokevirtual 33, 3) := by decide +kernel
theorem dX2_nextGap_5 : decode cX2_nextGap 5 = .ok (.astore 4, 2) := by decide +kernel
theorem dX2_nextGap_7 : decode cX2_nextGap 7 = .ok (.iload_n 2, 1) := by decide +kernel
theorem dX2_nextGap_8 : decode cX2_nextGap 8 = .ok (.invokestatic 61, 3) := by decide +kernel
theorem dX2_nextGap_11 : decode cX2_nextGap 11 = .ok (.iload_n 3, 1) := by decide +kernel
theorem dX2_nextGap_12 : decode cX2_nextGap 12 = .ok (.iconst 0, 1) := by decide +kernel
theorem dX2_nextGap_13 : decode cX2_nextGap 13 = .ok (.sipush 1000, 3) := by decide +kernel
theorem dX2_nextGap_16 : decode cX2_nextGap 16 = .ok (.invokestatic 37, 3) := by decide +kernel
theorem dX2_nextGap_19 : decode cX2_nextGap 19 = .ok (.iload_n 3, 1) := by decide +kernel
theorem dX2_nextGap_20 : decode cX2_nextGap 20 = .ok (.istore 5, 2) := by decide +kernel
theorem dX2_nextGap_22 : decode cX2_nextGap 22 = .ok (.iload 5, 2) := by decide +kernel
theorem dX2_nextGap_24 : decode cX2_nextGap 24 = .ok (.sipush 1000, 3) := by decide +kernel
theorem dX2_nextGap_27 : decode cX2_nextGap 27 = .ok (.if_icmp .gt 23, 3) := by decide +kernel
theorem dX2_nextGap_30 : decode cX2_nextGap 30 = .ok (.aload 4, 2) := by decide +kernel
theorem dX2_nextGap_32 : decode cX2_nextGap 32 = .ok (.iload_n 2, 1) := by decide +kernel
theorem dX2_nextGap_33 : decode cX2_nextGap 33 = .ok (.iload 5, 2) := by decide +kernel
theorem dX2_nextGap_35 : decode cX2_nextGap 35 = .ok (.invokevirtual 65, 3) := by decide +kernel
theorem dX2_nextGap_38 : decode cX2_nextGap 38 = .ok (.ifCond .ne 6, 3) := by decide +kernel
theorem dX2_nextGap_41 : decode cX2_nextGap 41 = .ok (.iload 5, 2) := by decide +kernel
theorem dX2_nextGap_43 : decode cX2_nextGap 43 = .ok (.ireturn, 1) := by decide +kernel
theorem dX2_nextGap_44 : decode cX2_nextGap 44 = .ok (.iinc 5 1, 3) := by decide +kernel
theorem dX2_nextGap_47 : decode cX2_nextGap 47 = .ok (.goto (-25), 3) := by decide +kernel
theorem dX2_nextGap_50 : decode cX2_nextGap 50 = .ok (.iconst (-1), 1) := by decide +kernel
theorem dX2_nextGap_51 : decode cX2_nextGap 51 = .ok (.ireturn, 1) := by decide +kernel
set_option maxRecDepth 20000 in
theorem ggX2_pass_X2_checkRange : GoodIn wsX2_pass wsX2_checkRange := goodIn_ca (goodIn_r _ [6, 7, 8, 5, 9, 10, 11] (by decide +kernel) (by decide +kernel)) (goodIn_sub (fun _ h => List.mem_cons_of_mem _ (List.mem_append_left _ (List.mem_append_right _ h))) (by decide +kernel))
set_option maxRecDepth 20000 in
theorem gX2_pass_X2_checkRange : GoodIn wsX2_pass (va_wsS RX2 37 yX2_checkRange wsX2_checkRange) := goodIn_app (goodIn_of _ (by decide +kernel)) ggX2_pass_X2_checkRange
set_option maxRecDepth 20000 in
theorem ggX2_pass_X2_checkState : GoodIn wsX2_pass wsX2_checkState := goodIn_ca (goodIn_r _ [14, 15, 16] (by decide +kernel) (by decide +kernel)) (goodIn_sub (fun _ h => List.mem_cons_of_mem _ (List.mem_append_right _ h)) (by decide +kernel))
set_option maxRecDepth 20000 in
theorem gX2_pass_X2_checkState : GoodIn wsX2_pass (va_wsS RX2 54 yX2_checkState wsX2_checkState) := goodIn_app (goodIn_of _ (by decide +kernel)) ggX2_pass_X2_checkState
set_option maxRecDepth 20000 in
theorem ggX2_pass_X0_runClocks : GoodIn wsX2_pass wsX0_runClocks := goodIn_r _ [21, 22, 23, 24, 25, 26, 20, 27, 28, 29, 30, 31, 32, 33, 34, 35, 36, 37, 38, 39, 40, 41, 42, 43, 44, 45, 46, 47, 48, 49, 50, 51, 52, 53, 54, 55, 56, 57, 58, 59, 60, 61, 62, 63, 64, 70, 71, 72, 73, 74, 75, 76, 77, 78, 79, 80, 81, 82, 83, 84, 85, 86] (by decide +kernel) (by decide +kernel)
set_option maxRecDepth 20000 in
theorem gX2_pass_X0_runClocks : GoodIn wsX2_pass (wsV RX2 69 RX0 yX0_runClocks wsX0_runClocks) := goodIn_app (goodIn_of _ (by decide +kernel)) ggX2_pass_X0_runClocks
theorem dX2_pass_0 : decode cX2_pass 0 = .ok (.iload_n 1, 1) := by decide +kernel
theorem dX2_pass_1 : decode cX2_pass 1 = .ok (.iconst 1, 1) := by decide +kernel
theorem dX2_pass_2 : decode cX2_pass 2 = .ok (.sipush 1000, 3) := by decide +kernel
theorem dX2_pass_5 : decode cX2_pass 5 = .ok (.invokestatic 37, 3) := by decide +kernel
theorem dX2_pass_8 : decode cX2_pass 8 = .ok (.aload_n 0, 1) := by decide +kernel
theorem dX2_pass_9 : decode cX2_pass 9 = .ok (.getfield 29, 3) := by decide +kernel
theorem dX2_pass_12 : decode cX2_pass 12 = .ok (.iload_n 1, 1) := by decide +kernel
theorem dX2_pass_13 : decode cX2_pass 13 = .ok (.iadd, 1) := by decide +kernel
theorem dX2_pass_14 : decode cX2_pass 14 = .ok (.sipush 24000, 3) := by decide +kernel
theorem dX2_pass_17 : decode cX2_pass 17 = .ok (.if_icmp .gt 7, 3) := by decide +kernel
theorem dX2_pass_20 : decode cX2_pass 20 = .ok (.iconst 1, 1) := by decide +kernel
theorem dX2_pass_21 : decode cX2_pass 21 = .ok (.goto 4, 3) := by decide +kernel
theorem dX2_pass_24 : decode cX2_pass 24 = .ok (.iconst 0, 1) := by decide +kernel
theorem dX2_pass_25 : decode cX2_pass 25 = .ok (.invokestatic 54, 3) := by decide +kernel
theorem dX2_pass_28 : decode cX2_pass 28 = .ok (.aload_n 0, 1) := by decide +kernel
theorem dX2_pass_29 : decode cX2_pass 29 = .ok (.getfield 21, 3) := by decide +kernel
theorem dX2_pass_32 : decode cX2_pass 32 = .ok (.astore_n 2, 1) := by decide +kernel
theorem dX2_pass_33 : decode cX2_pass 33 = .ok (.aload_n 2, 1) := by decide +kernel
theorem dX2_pass_34 : decode cX2_pass 34 = .ok (.arraylength, 1) := by decide +kernel
theorem dX2_pass_35 : decode cX2_pass 35 = .ok (.istore_n 3, 1) := by decide +kernel
theorem dX2_pass_36 : decode cX2_pass 36 = .ok (.iconst 0, 1) := by decide +kernel
theorem dX2_pass_37 : decode cX2_pass 37 = .ok (.istore 4, 2) := by decide +kernel
theorem dX2_pass_39 : decode cX2_pass 39 = .ok (.iload 4, 2) := by decide +kernel
theorem dX2_pass_41 : decode cX2_pass 41 = .ok (.iload_n 3, 1) := by decide +kernel
theorem dX2_pass_42 : decode cX2_pass 42 = .ok (.if_icmp .ge 35, 3) := by decide +kernel
theorem dX2_pass_45 : decode cX2_pass 45 = .ok (.aload_n 2, 1) := by decide +kernel
theorem dX2_pass_46 : decode cX2_pass 46 = .ok (.iload 4, 2) := by decide +kernel
theorem dX2_pass_48 : decode cX2_pass 48 = .ok (.aaload, 1) := by decide +kernel
theorem dX2_pass_49 : decode cX2_pass 49 = .ok (.astore 5, 2) := by decide +kernel
theorem dX2_pass_51 : decode cX2_pass 51 = .ok (.aload 5, 2) := by decide +kernel
theorem dX2_pass_53 : decode cX2_pass 53 = .ok (.ifnull 18, 3) := by decide +kernel
theorem dX2_pass_56 : decode cX2_pass 56 = .ok (.aload 5, 2) := by decide +kernel
theorem dX2_pass_58 : decode cX2_pass 58 = .ok (.aload_n 0, 1) := by decide +kernel
theorem dX2_pass_59 : decode cX2_pass 59 = .ok (.getfield 29, 3) := by decide +kernel
theorem dX2_pass_62 : decode cX2_pass 62 = .ok (.aload_n 0, 1) := by decide +kernel
theorem dX2_pass_63 : decode cX2_pass 63 = .ok (.getfield 29, 3) := by decide +kernel
theorem dX2_pass_66 : decode cX2_pass 66 = .ok (.iload_n 1, 1) := by decide +kernel
theorem dX2_pass_67 : decode cX2_pass 67 = .ok (.iadd, 1) := by decide +kernel
theorem dX2_pass_68 : decode cX2_pass 68 = .ok (.invokevirtual 69, 3) := by decide +kernel
theorem dX2_pass_71 : decode cX2_pass 71 = .ok (.iinc 4 1, 3) := by decide +kernel
theorem dX2_pass_74 : decode cX2_pass 74 = .ok (.goto (-35), 3) := by decide +kernel
theorem dX2_pass_77 : decode cX2_pass 77 = .ok (.aload_n 0, 1) := by decide +kernel
theorem dX2_pass_78 : decode cX2_pass 78 = .ok (.dup, 1) := by decide +kernel
theorem dX2_pass_79 : decode cX2_pass 79 = .ok (.getfield 29, 3) := by decide +kernel
theorem dX2_pass_82 : decode cX2_pass 82 = .ok (.iload_n 1, 1) := by decide +kernel
theorem dX2_pass_83 : decode cX2_pass 83 = .ok (.iadd, 1) := by decide +kernel
theorem dX2_pass_84 : decode cX2_pass 84 = .ok (.putfield 29, 3) := by decide +kernel
theorem dX2_pass_87 : decode cX2_pass 87 = .ok (.aload_n 0, 1) := by decide +kernel
theorem dX2_pass_88 : decode cX2_pass 88 = .ok (.getfield 29, 3) := by decide +kernel
theorem dX2_pass_91 : decode cX2_pass 91 = .ok (.ireturn, 1) := by decide +kernel
theorem dX2_time_0 : decode cX2_time 0 = .ok (.aload_n 0, 1) := by decide +kernel
theorem dX2_time_1 : decode cX2_time 1 = .ok (.getfield 29, 3) := by decide +kernel
theorem dX2_time_4 : decode cX2_time 4 = .ok (.ireturn, 1) := by decide +kernel
set_option maxRecDepth 20000 in
theorem ggX2_hours_X2_siteAt : GoodIn wsX2_hours wsX2_siteAt := goodIn_ca (goodIn_r _ [5, 6, 7, 8, 47, 48, 49, 50, 51] (by decide +kernel) (by decide +kernel)) (goodIn_sub (fun _ h => List.mem_cons_of_mem _ (List.mem_append_left _ (List.mem_append_right _ h))) (by decide +kernel))
set_option maxRecDepth 20000 in
theorem gX2_hours_X2_siteAt : GoodIn wsX2_hours (wsV RX2 33 RX2 yX2_siteAt wsX2_siteAt) := goodIn_app (goodIn_of _ (by decide +kernel)) ggX2_hours_X2_siteAt
set_option maxRecDepth 20000 in
theorem ggX2_hours_X2_checkRange : GoodIn wsX2_hours wsX2_checkRange := goodIn_ca (goodIn_r _ [11, 12, 13, 4, 14, 15, 16] (by decide +kernel) (by decide +kernel)) (goodIn_sub (fun _ h => List.mem_cons_of_mem _ (List.mem_append_right _ h)) (by decide +kernel))
set_option maxRecDepth 20000 in
theorem gX2_hours_X2_checkRange : GoodIn wsX2_hours (va_wsS RX2 37 yX2_checkRange wsX2_checkRange) := goodIn_app (goodIn_of _ (by decide +kernel)) ggX2_hours_X2_checkRange
set_option maxRecDepth 20000 in
theorem ggX2_hours_X1_countHours : GoodIn wsX2_hours wsX1_countHours := goodIn_r _ [21, 22, 23, 24, 20, 25, 26, 27, 28, 29, 30, 31, 32, 33, 34, 35, 36, 37, 38, 39, 40, 41, 42, 43, 44, 45, 46, 52, 53, 54, 55, 56, 57, 58, 59, 60] (by decide +kernel) (by decide +kernel)
set_option maxRecDepth 20000 in
theorem gX2_hours_X1_countHours : GoodIn wsX2_hours (wsV RX2 73 RX1 yX1_countHours wsX1_countHours) := goodIn_app (goodIn_of _ (by decide +kernel)) ggX2_hours_X1_countHours
theorem dX2_hours_0 : decode cX2_hours 0 = .ok (.aload_n 0, 1) := by decide +kernel
theorem dX2_hours_1 : decode cX2_hours 1 = .ok (.iload_n 1, 1) := by decide +kernel
theorem dX2_hours_2 : decode cX2_hours 2 = .ok (.invokevirtual 33, 3) := by decide +kernel
theorem dX2_hours_5 : decode cX2_hours 5 = .ok (.astore 4, 2) := by decide +kernel
theorem dX2_hours_7 : decode cX2_hours 7 = .ok (.iload_n 2, 1) := by decide +kernel
theorem dX2_hours_8 : decode cX2_hours 8 = .ok (.iconst 0, 1) := by decide +kernel
theorem dX2_hours_9 : decode cX2_hours 9 = .ok (.sipush 24000, 3) := by decide +kernel
theorem dX2_hours_12 : decode cX2_hours 12 = .ok (.invokestatic 37, 3) := by decide +kernel
theorem dX2_hours_15 : decode cX2_hours 15 = .ok (.iload_n 3, 1) := by decide +kernel
theorem dX2_hours_16 : decode cX2_hours 16 = .ok (.iload_n 2, 1) := by decide +kernel
theorem dX2_hours_17 : decode cX2_hours 17 = .ok (.sipush 24000, 3) := by decide +kernel
theorem dX2_hours_20 : decode cX2_hours 20 = .ok (.invokestatic 37, 3) := by decide +kernel
theorem dX2_hours_23 : decode cX2_hours 23 = .ok (.aload 4, 2) := by decide +kernel
theorem dX2_hours_25 : decode cX2_hours 25 = .ok (.iload_n 2, 1) := by decide +kernel
theorem dX2_hours_26 : decode cX2_hours 26 = .ok (.iload_n 3, 1) := by decide +kernel
theorem dX2_hours_27 : decode cX2_hours 27 = .ok (.invokevirtual 73, 3) := by decide +kernel
theorem dX2_hours_30 : decode cX2_hours 30 = .ok (.ireturn, 1) := by decide +kernel
set_option maxRecDepth 20000 in
theorem ggX2_hoursOneByOne_X2_siteAt : GoodIn wsX2_hoursOneByOne wsX2_siteAt := goodIn_ca (goodIn_r _ [5, 6, 7, 8, 29, 30, 31, 32, 33] (by decide +kernel) (by decide +kernel)) (goodIn_sub (fun _ h => List.mem_cons_of_mem _ (List.mem_append_left _ (List.mem_append_right _ h))) (by decide +kernel))
set_option maxRecDepth 20000 in
theorem gX2_hoursOneByOne_X2_siteAt : GoodIn wsX2_hoursOneByOne (wsV RX2 33 RX2 yX2_siteAt wsX2_siteAt) := goodIn_app (goodIn_of _ (by decide +kernel)) ggX2_hoursOneByOne_X2_siteAt
set_option maxRecDepth 20000 in
theorem ggX2_hoursOneByOne_X2_checkRange : GoodIn wsX2_hoursOneByOne wsX2_checkRange := goodIn_ca (goodIn_r _ [11, 12, 13, 4, 14, 15, 16] (by decide +kernel) (by decide +kernel)) (goodIn_sub (fun _ h => List.mem_cons_of_mem _ (List.mem_append_right _ h)) (by decide +kernel))
set_option maxRecDepth 20000 in
theorem gX2_hoursOneByOne_X2_checkRange : GoodIn wsX2_hoursOneByOne (va_wsS RX2 37 yX2_checkRange wsX2_checkRange) := goodIn_app (goodIn_of _ (by decide +kernel)) ggX2_hoursOneByOne_X2_checkRange
set_option maxRecDepth 20000 in
theorem ggX2_hoursOneByOne_X1_counts : GoodIn wsX2_hoursOneByOne wsX1_counts := goodIn_r _ [21, 22, 23, 24, 25, 26, 20, 27, 28, 34, 35, 36, 37, 38, 39, 40, 41, 42] (by decide +kernel) (by decide +kernel)
set_option maxRecDepth 20000 in
theorem gX2_hoursOneByOne_X1_counts : GoodIn wsX2_hoursOneByOne (wsV RX2 77 RX1 yX1_counts wsX1_counts) := goodIn_app (goodIn_of _ (by decide +kernel)) ggX2_hoursOneByOne_X1_counts
theorem dX2_hoursOneByOne_0 : decode cX2_hoursOneByOne 0 = .ok (.aload_n 0, 1) := by decide +kernel
theorem dX2_hoursOneByOne_1 : decode cX2_hoursOneByOne 1 = .ok (.iload_n 1, 1) := by decide +kernel
theorem dX2_hoursOneByOne_2 : decode cX2_hoursOneByOne 2 = .ok (.invokevirtual 33, 3) := by decide +kernel
theorem dX2_hoursOneByOne_5 : decode cX2_hoursOneByOne 5 = .ok (.astore 4, 2) := by decide +kernel
theorem dX2_hoursOneByOne_7 : decode cX2_hoursOneByOne 7 = .ok (.iload_n 2, 1) := by decide +kernel
theorem dX2_hoursOneByOne_8 : decode cX2_hoursOneByOne 8 = .ok (.iconst 0, 1) := by decide +kernel
theorem dX2_hoursOneByOne_9 : decode cX2_hoursOneByOne 9 = .ok (.sipush 24000, 3) := by decide +kernel
theorem dX2_hoursOneByOne_12 : decode cX2_hoursOneByOne 12 = .ok (.invokestatic 37, 3) := by decide +kernel
theorem dX2_hoursOneByOne_15 : decode cX2_hoursOneByOne 15 = .ok (.iload_n 3, 1) := by decide +kernel
theorem dX2_hoursOneByOne_16 : decode cX2_hoursOneByOne 16 = .ok (.iload_n 2, 1) := by decide +kernel
theorem dX2_hoursOneByOne_17 : decode cX2_hoursOneByOne 17 = .ok (.sipush 24000, 3) := by decide +kernel
theorem dX2_hoursOneByOne_20 : decode cX2_hoursOneByOne 20 = .ok (.invokestatic 37, 3) := by decide +kernel
theorem dX2_hoursOneByOne_23 : decode cX2_hoursOneByOne 23 = .ok (.iconst 0, 1) := by decide +kernel
theorem dX2_hoursOneByOne_24 : decode cX2_hoursOneByOne 24 = .ok (.istore 5, 2) := by decide +kernel
theorem dX2_hoursOneByOne_26 : decode cX2_hoursOneByOne 26 = .ok (.iload_n 2, 1) := by decide +kernel
theorem dX2_hoursOneByOne_27 : decode cX2_hoursOneByOne 27 = .ok (.istore 6, 2) := by decide +kernel
theorem dX2_hoursOneByOne_29 : decode cX2_hoursOneByOne 29 = .ok (.iload 6, 2) := by decide +kernel
theorem dX2_hoursOneByOne_31 : decode cX2_hoursOneByOne 31 = .ok (.iload_n 3, 1) := by decide +kernel
theorem dX2_hoursOneByOne_32 : decode cX2_hoursOneByOne 32 = .ok (.if_icmp .ge 22, 3) := by decide +kernel
theorem dX2_hoursOneByOne_35 : decode cX2_hoursOneByOne 35 = .ok (.aload 4, 2) := by decide +kernel
theorem dX2_hoursOneByOne_37 : decode cX2_hoursOneByOne 37 = .ok (.iload 6, 2) := by decide +kernel
theorem dX2_hoursOneByOne_39 : decode cX2_hoursOneByOne 39 = .ok (.invokevirtual 77, 3) := by decide +kernel
theorem dX2_hoursOneByOne_42 : decode cX2_hoursOneByOne 42 = .ok (.ifCond .eq 6, 3) := by decide +kernel
theorem dX2_hoursOneByOne_45 : decode cX2_hoursOneByOne 45 = .ok (.iinc 5 1, 3) := by decide +kernel
theorem dX2_hoursOneByOne_48 : decode cX2_hoursOneByOne 48 = .ok (.iinc 6 1, 3) := by decide +kernel
theorem dX2_hoursOneByOne_51 : decode cX2_hoursOneByOne 51 = .ok (.goto (-22), 3) := by decide +kernel
theorem dX2_hoursOneByOne_54 : decode cX2_hoursOneByOne 54 = .ok (.iload 5, 2) := by decide +kernel
theorem dX2_hoursOneByOne_56 : decode cX2_hoursOneByOne 56 = .ok (.ireturn, 1) := by decide +kernel
set_option maxRecDepth 20000 in
theorem ggX2_open_X2_siteAt : GoodIn wsX2_open wsX2_siteAt := goodIn_ca (goodIn_r _ [10, 11, 12, 13, 45, 46, 47, 48, 49] (by decide +kernel) (by decide +kernel)) (goodIn_sub (fun _ h => List.mem_cons_of_mem _ (List.mem_append_left _ (List.mem_append_left _ (List.mem_append_right _ h)))) (by decide +kernel))
set_option maxRecDepth 20000 in
theorem gX2_open_X2_siteAt : GoodIn wsX2_open (wsV RX2 33 RX2 yX2_siteAt wsX2_siteAt) := goodIn_app (goodIn_of _ (by decide +kernel)) ggX2_open_X2_siteAt
set_option maxRecDepth 20000 in
theorem ggX2_open_X2_checkKind : GoodIn wsX2_open wsX2_checkKind := goodIn_ca (goodIn_r _ [16, 11, 12] (by decide +kernel) (by decide +kernel)) (goodIn_sub (fun _ h => List.mem_cons_of_mem _ (List.mem_append_left _ (List.mem_append_left _ (List.mem_append_right _ h)))) (by decide +kernel))
set_option maxRecDepth 20000 in
theorem gX2_open_X2_checkKind : GoodIn wsX2_open (va_wsS RX2 61 yX2_checkKind wsX2_checkKind) := goodIn_app (goodIn_of _ (by decide +kernel)) ggX2_open_X2_checkKind
set_option maxRecDepth 20000 in
theorem ggX2_open_X2_checkRange : GoodIn wsX2_open wsX2_checkRange := goodIn_ca (goodIn_r _ [19, 20, 21, 9, 22, 23, 24] (by decide +kernel) (by decide +kernel)) (goodIn_sub (fun _ h => List.mem_cons_of_mem _ (List.mem_append_left _ (List.mem_append_right _ h))) (by decide +kernel))
set_option maxRecDepth 20000 in
theorem gX2_open_X2_checkRange : GoodIn wsX2_open (va_wsS RX2 37 yX2_checkRange wsX2_checkRange) := goodIn_app (goodIn_of _ (by decide +kernel)) ggX2_open_X2_checkRange
set_option maxRecDepth 20000 in
theorem ggX2_open_X2_checkState : GoodIn wsX2_open wsX2_checkState := goodIn_ca (goodIn_r _ [27, 28, 29] (by decide +kernel) (by decide +kernel)) (goodIn_sub (fun _ h => List.mem_cons_of_mem _ (List.mem_append_right _ h)) (by decide +kernel))
set_option maxRecDepth 20000 in
theorem gX2_open_X2_checkState : GoodIn wsX2_open (va_wsS RX2 54 yX2_checkState wsX2_checkState) := goodIn_app (goodIn_of _ (by decide +kernel)) ggX2_open_X2_checkState
set_option maxRecDepth 20000 in
theorem ggX2_open_X0_init : GoodIn wsX2_open wsX0_init := goodIn_r _ [32, 33, 34, 35, 36, 37, 38, 39, 40, 41, 42, 43, 44, 50, 51, 52, 53, 54, 55, 56, 57] (by decide +kernel) (by decide +kernel)
set_option maxRecDepth 20000 in
theorem gX2_open_X0_init : GoodIn wsX2_open (wsX0_init) := ggX2_open_X0_init
theorem dX2_open_0 : decode cX2_open 0 = .ok (.aload_n 0, 1) := by decide +kernel
theorem dX2_open_1 : decode cX2_open 1 = .ok (.iload_n 1, 1) := by decide +kernel
theorem dX2_open_2 : decode cX2_open 2 = .ok (.invokevirtual 33, 3) := by decide +kernel
theorem dX2_open_5 : decode cX2_open 5 = .ok (.astore 4, 2) := by decide +kernel
theorem dX2_open_7 : decode cX2_open 7 = .ok (.iload_n 2, 1) := by decide +kernel
theorem dX2_open_8 : decode cX2_open 8 = .ok (.invokestatic 61, 3) := by decide +kernel
theorem dX2_open_11 : decode cX2_open 11 = .ok (.iload_n 3, 1) := by decide +kernel
theorem dX2_open_12 : decode cX2_open 12 = .ok (.iconst 0, 1) := by decide +kernel
theorem dX2_open_13 : decode cX2_open 13 = .ok (.iconst 2, 1) := by decide +kernel
theorem dX2_open_14 : decode cX2_open 14 = .ok (.invokestatic 37, 3) := by decide +kernel
theorem dX2_open_17 : decode cX2_open 17 = .ok (.aload_n 0, 1) := by decide +kernel
theorem dX2_open_18 : decode cX2_open 18 = .ok (.getfield 25, 3) := by decide +kernel
theorem dX2_open_21 : decode cX2_open 21 = .ok (.bipush 40, 2) := by decide +kernel
theorem dX2_open_23 : decode cX2_open 23 = .ok (.if_icmp .ge 7, 3) := by decide +kernel
theorem dX2_open_26 : decode cX2_open 26 = .ok (.iconst 1, 1) := by decide +kernel
theorem dX2_open_27 : decode cX2_open 27 = .ok (.goto 4, 3) := by decide +kernel
theorem dX2_open_30 : decode cX2_open 30 = .ok (.iconst 0, 1) := by decide +kernel
theorem dX2_open_31 : decode cX2_open 31 = .ok (.invokestatic 54, 3) := by decide +kernel
theorem dX2_open_34 : decode cX2_open 34 = .ok (.aload_n 0, 1) := by decide +kernel
theorem dX2_open_35 : decode cX2_open 35 = .ok (.getfield 25, 3) := by decide +kernel
theorem dX2_open_38 : decode cX2_open 38 = .ok (.istore 5, 2) := by decide +kernel
theorem dX2_open_40 : decode cX2_open 40 = .ok (.aload_n 0, 1) := by decide +kernel
theorem dX2_open_41 : decode cX2_open 41 = .ok (.getfield 21, 3) := by decide +kernel
theorem dX2_open_44 : decode cX2_open 44 = .ok (.iload 5, 2) := by decide +kernel
theorem dX2_open_46 : decode cX2_open 46 = .ok (.new 19, 3) := by decide +kernel
theorem dX2_open_49 : decode cX2_open 49 = .ok (.dup, 1) := by decide +kernel
theorem dX2_open_50 : decode cX2_open 50 = .ok (.aload 4, 2) := by decide +kernel
theorem dX2_open_52 : decode cX2_open 52 = .ok (.iload_n 2, 1) := by decide +kernel
theorem dX2_open_53 : decode cX2_open 53 = .ok (.iload_n 3, 1) := by decide +kernel
theorem dX2_open_54 : decode cX2_open 54 = .ok (.invokespecial 81, 3) := by decide +kernel
theorem dX2_open_57 : decode cX2_open 57 = .ok (.aastore, 1) := by decide +kernel
theorem dX2_open_58 : decode cX2_open 58 = .ok (.aload_n 0, 1) := by decide +kernel
theorem dX2_open_59 : decode cX2_open 59 = .ok (.dup, 1) := by decide +kernel
theorem dX2_open_60 : decode cX2_open 60 = .ok (.getfield 25, 3) := by decide +kernel
theorem dX2_open_63 : decode cX2_open 63 = .ok (.iconst 1, 1) := by decide +kernel
theorem dX2_open_64 : decode cX2_open 64 = .ok (.iadd, 1) := by decide +kernel
theorem dX2_open_65 : decode cX2_open 65 = .ok (.putfield 25, 3) := by decide +kernel
theorem dX2_open_68 : decode cX2_open 68 = .ok (.iload 5, 2) := by decide +kernel
theorem dX2_open_70 : decode cX2_open 70 = .ok (.ireturn, 1) := by decide +kernel
set_option maxRecDepth 20000 in
theorem ggX2_reach_X2_caseAt : GoodIn wsX2_reach wsX2_caseAt := goodIn_ca (goodIn_r _ [7, 8, 9, 10, 80, 81, 82, 83, 84] (by decide +kernel) (by decide +kernel)) (goodIn_sub (fun _ h => List.mem_cons_of_mem _ (List.mem_append_left _ (List.mem_append_left _ (List.mem_append_right _ h)))) (by decide +kernel))
set_option maxRecDepth 20000 in
theorem gX2_reach_X2_caseAt : GoodIn wsX2_reach (wsV RX2 84 RX2 yX2_caseAt wsX2_caseAt) := goodIn_app (goodIn_of _ (by decide +kernel)) ggX2_reach_X2_caseAt
set_option maxRecDepth 20000 in
theorem ggX2_reach_X2_checkRange : GoodIn wsX2_reach wsX2_checkRange := goodIn_ca (goodIn_r _ [13, 14, 15, 6, 16, 17, 18] (by decide +kernel) (by decide +kernel)) (goodIn_sub (fun _ h => List.mem_cons_of_mem _ (List.mem_append_left _ (List.mem_append_right _ h))) (by decide +kernel))
set_option maxRecDepth 20000 in
theorem gX2_reach_X2_checkRange : GoodIn wsX2_reach (va_wsS RX2 37 yX2_checkRange wsX2_checkRange) := goodIn_app (goodIn_of _ (by decide +kernel)) ggX2_reach_X2_checkRange
set_option maxRecDepth 20000 in
theorem ggX2_reach_X0_hasReached : GoodIn wsX2_reach wsX0_hasReached := goodIn_r _ [23, 24, 72, 73, 74, 75, 76, 77, 78, 79] (by decide +kernel) (by decide +kernel)
set_option maxRecDepth 20000 in
theorem gX2_reach_X0_hasReached : GoodIn wsX2_reach (wsV RX2 91 RX0 yX0_hasReached wsX0_hasReached) := goodIn_app (goodIn_of _ (by decide +kernel)) ggX2_reach_X0_hasReached
set_option maxRecDepth 20000 in
theorem ggX2_reach_X2_checkState : GoodIn wsX2_reach wsX2_checkState := goodIn_ca (goodIn_r _ [27, 28, 29] (by decide +kernel) (by decide +kernel)) (goodIn_sub (fun _ h => List.mem_cons_of_mem _ (List.mem_append_right _ h)) (by decide +kernel))
set_option maxRecDepth 20000 in
theorem gX2_reach_X2_checkState : GoodIn wsX2_reach (va_wsS RX2 54 yX2_checkState wsX2_checkState) := goodIn_app (goodIn_of _ (by decide +kernel)) ggX2_reach_X2_checkState
set_option maxRecDepth 20000 in
theorem ggX2_reach_X2_countMissedOfReached : GoodIn wsX2_reach wsX2_countMissedOfReached := goodIn_r _ [33, 19, 20, 21, 22, 23, 24, 34, 35, 36, 6, 37, 38, 39, 40, 41, 42, 43, 44, 72, 73, 74, 75, 76, 77, 78, 79, 80, 81, 82, 83, 84] (by decide +kernel) (by decide +kernel)
set_option maxRecDepth 20000 in
theorem gX2_reach_X2_countMissedOfReached : GoodIn wsX2_reach (wsV RX2 97 RX2 yX2_countMissedOfReached wsX2_countMissedOfReached) := goodIn_app (goodIn_of _ (by decide +kernel)) ggX2_reach_X2_countMissedOfReached
set_option maxRecDepth 20000 in
theorem ggX2_reach_X2_closeMended : GoodIn wsX2_reach wsX2_closeMended := goodIn_r _ [48, 1, 10, 49, 50, 51, 52, 53, 22, 54, 55, 56, 57, 58, 59, 6, 60, 61, 62, 63, 64, 65, 66, 67, 68, 69, 70, 71, 72, 73, 74, 75, 76, 77, 78, 79, 80, 81, 82, 83, 84, 85, 86, 87, 88, 89, 90, 91, 92, 93] (by decide +kernel) (by decide +kernel)
set_option maxRecDepth 20000 in
theorem gX2_reach_X2_closeMended : GoodIn wsX2_reach (wsV RX2 101 RX2 yX2_closeMended wsX2_closeMended) := goodIn_app (goodIn_of _ (by decide +kernel)) ggX2_reach_X2_closeMended
theorem dX2_reach_0 : decode cX2_reach 0 = .ok (.aload_n 0, 1) := by decide +kernel
theorem dX2_reach_1 : decode cX2_reach 1 = .ok (.iload_n 1, 1) := by decide +kernel
theorem dX2_reach_2 : decode cX2_reach 2 = .ok (.invokevirtual 84, 3) := by decide +kernel
theorem dX2_reach_5 : decode cX2_reach 5 = .ok (.astore_n 3, 1) := by decide +kernel
theorem dX2_reach_6 : decode cX2_reach 6 = .ok (.iload_n 2, 1) := by decide +kernel
theorem dX2_reach_7 : decode cX2_reach 7 = .ok (.iconst 0, 1) := by decide +kernel
theorem dX2_reach_8 : decode cX2_reach 8 = .ok (.iconst 2, 1) := by decide +kernel
theorem dX2_reach_9 : decode cX2_reach 9 = .ok (.invokestatic 37, 3) := by decide +kernel
theorem dX2_reach_12 : decode cX2_reach 12 = .ok (.aload_n 3, 1) := by decide +kernel
theorem dX2_reach_13 : decode cX2_reach 13 = .ok (.getfield 88, 3) := by decide +kernel
theorem dX2_reach_16 : decode cX2_reach 16 = .ok (.ifCond .ne 15, 3) := by decide +kernel
theorem dX2_reach_19 : decode cX2_reach 19 = .ok (.aload_n 3, 1) := by decide +kernel
theorem dX2_reach_20 : decode cX2_reach 20 = .ok (.iload_n 2, 1) := by decide +kernel
theorem dX2_reach_21 : decode cX2_reach 21 = .ok (.invokevirtual 91, 3) := by decide +kernel
theorem dX2_reach_24 : decode cX2_reach 24 = .ok (.ifCond .ne 7, 3) := by decide +kernel
theorem dX2_reach_27 : decode cX2_reach 27 = .ok (.iconst 1, 1) := by decide +kernel
theorem dX2_reach_28 : decode cX2_reach 28 = .ok (.goto 4, 3) := by decide +kernel
theorem dX2_reach_31 : decode cX2_reach 31 = .ok (.iconst 0, 1) := by decide +kernel
theorem dX2_reach_32 : decode cX2_reach 32 = .ok (.invokestatic 54, 3) := by decide +kernel
theorem dX2_reach_35 : decode cX2_reach 35 = .ok (.aload_n 3, 1) := by decide +kernel
theorem dX2_reach_36 : decode cX2_reach 36 = .ok (.iload_n 2, 1) := by decide +kernel
theorem dX2_reach_37 : decode cX2_reach 37 = .ok (.iconst 1, 1) := by decide +kernel
theorem dX2_reach_38 : decode cX2_reach 38 = .ok (.iadd, 1) := by decide +kernel
theorem dX2_reach_39 : decode cX2_reach 39 = .ok (.putfield 94, 3) := by decide +kernel
theorem dX2_reach_42 : decode cX2_reach 42 = .ok (.aload_n 0, 1) := by decide +kernel
theorem dX2_reach_43 : decode cX2_reach 43 = .ok (.aload_n 3, 1) := by decide +kernel
theorem dX2_reach_44 : decode cX2_reach 44 = .ok (.invokevirtual 97, 3) := by decide +kernel
theorem dX2_reach_47 : decode cX2_reach 47 = .ok (.istore 4, 2) := by decide +kernel
theorem dX2_reach_49 : decode cX2_reach 49 = .ok (.iload_n 2, 1) := by decide +kernel
theorem dX2_reach_50 : decode cX2_reach 50 = .ok (.iconst 2, 1) := by decide +kernel
theorem dX2_reach_51 : decode cX2_reach 51 = .ok (.if_icmp .ne 10, 3) := by decide +kernel
theorem dX2_reach_54 : decode cX2_reach 54 = .ok (.aload_n 0, 1) := by decide +kernel
theorem dX2_reach_55 : decode cX2_reach 55 = .ok (.aload_n 3, 1) := by decide +kernel
theorem dX2_reach_56 : decode cX2_reach 56 = .ok (.iload 4, 2) := by decide +kernel
theorem dX2_reach_58 : decode cX2_reach 58 = .ok (.invokevirtual 101, 3) := by decide +kernel
theorem dX2_reach_61 : decode cX2_reach 61 = .ok (.iload 4, 2) := by decide +kernel
theorem dX2_reach_63 : decode cX2_reach 63 = .ok (.ireturn, 1) := by decide +kernel
set_option maxRecDepth 20000 in
theorem ggX2_rest_X2_caseAt : GoodIn wsX2_rest wsX2_caseAt := goodIn_ca (goodIn_r _ [7, 8, 9, 10, 24, 25, 26, 27, 28] (by decide +kernel) (by decide +kernel)) (goodIn_sub (fun _ h => List.mem_cons_of_mem _ (List.mem_append_left _ (List.mem_append_right _ h))) (by decide +kernel))
set_option maxRecDepth 20000 in
theorem gX2_rest_X2_caseAt : GoodIn wsX2_rest (wsV RX2 84 RX2 yX2_caseAt wsX2_caseAt) := goodIn_app (goodIn_of _ (by decide +kernel)) ggX2_rest_X2_caseAt
set_option maxRecDepth 20000 in
theorem ggX2_rest_X2_checkState : GoodIn wsX2_rest wsX2_checkState := goodIn_ca (goodIn_r _ [13, 14, 15] (by decide +kernel) (by decide +kernel)) (goodIn_sub (fun _ h => List.mem_cons_of_mem _ (List.mem_append_right _ h)) (by decide +kernel))
set_option maxRecDepth 20000 in
theorem gX2_rest_X2_checkState : GoodIn wsX2_rest (va_wsS RX2 54 yX2_checkState wsX2_checkState) := goodIn_app (goodIn_of _ (by decide +kernel)) ggX2_rest_X2_checkState
theorem dX2_rest_0 : decode cX2_rest 0 = .ok (.aload_n 0, 1) := by decide +kernel
theorem dX2_rest_1 : decode cX2_rest 1 = .ok (.iload_n 1, 1) := by decide +kernel
theorem dX2_rest_2 : decode cX2_rest 2 = .ok (.invokevirtual 84, 3) := by decide +kernel
theorem dX2_rest_5 : decode cX2_rest 5 = .ok (.astore_n 3, 1) := by decide +kernel
theorem dX2_rest_6 : decode cX2_rest 6 = .ok (.aload_n 3, 1) := by decide +kernel
theorem dX2_rest_7 : decode cX2_rest 7 = .ok (.getfield 88, 3) := by decide +kernel
theorem dX2_rest_10 : decode cX2_rest 10 = .ok (.ifCond .ne 7, 3) := by decide +kernel
theorem dX2_rest_13 : decode cX2_rest 13 = .ok (.iconst 1, 1) := by decide +kernel
theorem dX2_rest_14 : decode cX2_rest 14 = .ok (.goto 4, 3) := by decide +kernel
theorem dX2_rest_17 : decode cX2_rest 17 = .ok (.iconst 0, 1) := by decide +kernel
theorem dX2_rest_18 : decode cX2_rest 18 = .ok (.invokestatic 54, 3) := by decide +kernel
theorem dX2_rest_21 : decode cX2_rest 21 = .ok (.aload_n 3, 1) := by decide +kernel
theorem dX2_rest_22 : decode cX2_rest 22 = .ok (.getfield 105, 3) := by decide +kernel
theorem dX2_rest_25 : decode cX2_rest 25 = .ok (.istore 4, 2) := by decide +kernel
theorem dX2_rest_27 : decode cX2_rest 27 = .ok (.aload_n 3, 1) := by decide +kernel
theorem dX2_rest_28 : decode cX2_rest 28 = .ok (.iload_n 2, 1) := by decide +kernel
theorem dX2_rest_29 : decode cX2_rest 29 = .ok (.putfield 105, 3) := by decide +kernel
theorem dX2_rest_32 : decode cX2_rest 32 = .ok (.iload 4, 2) := by decide +kernel
theorem dX2_rest_34 : decode cX2_rest 34 = .ok (.ireturn, 1) := by decide +kernel
set_option maxRecDepth 20000 in
theorem ggX2_setGravity_X2_caseAt : GoodIn wsX2_setGravity wsX2_caseAt := goodIn_ca (goodIn_r _ [7, 8, 9, 10, 32, 33, 34, 35, 36] (by decide +kernel) (by decide +kernel)) (goodIn_sub (fun _ h => List.mem_cons_of_mem _ (List.mem_append_left _ (List.mem_append_left _ (List.mem_append_right _ h)))) (by decide +kernel))
set_option maxRecDepth 20000 in
theorem gX2_setGravity_X2_caseAt : GoodIn wsX2_setGravity (wsV RX2 84 RX2 yX2_caseAt wsX2_caseAt) := goodIn_app (goodIn_of _ (by decide +kernel)) ggX2_setGravity_X2_caseAt
set_option maxRecDepth 20000 in
theorem ggX2_setGravity_X2_checkRange : GoodIn wsX2_setGravity wsX2_checkRange := goodIn_ca (goodIn_r _ [13, 14, 15, 6, 16, 17, 18] (by decide +kernel) (by decide +kernel)) (goodIn_sub (fun _ h => List.mem_cons_of_mem _ (List.mem_append_left _ (List.mem_append_right _ h))) (by decide +kernel))
set_option maxRecDepth 20000 in
theorem gX2_setGravity_X2_checkRange : GoodIn wsX2_setGravity (va_wsS RX2 37 yX2_checkRange wsX2_checkRange) := goodIn_app (goodIn_of _ (by decide +kernel)) ggX2_setGravity_X2_checkRange
set_option maxRecDepth 20000 in
theorem ggX2_setGravity_X2_checkState : GoodIn wsX2_setGravity wsX2_checkState := goodIn_ca (goodIn_r _ [21, 22, 23] (by decide +kernel) (by decide +kernel)) (goodIn_sub (fun _ h => List.mem_cons_of_mem _ (List.mem_append_right _ h)) (by decide +kernel))
set_option maxRecDepth 20000 in
theorem gX2_setGravity_X2_checkState : GoodIn wsX2_setGravity (va_wsS RX2 54 yX2_checkState wsX2_checkState) := goodIn_app (goodIn_of _ (by decide +kernel)) ggX2_setGravity_X2_checkState
theorem dX2_setGravity_0 : decode cX2_setGravity 0 = .ok (.aload_n 0, 1) := by decide +kernel
theorem dX2_setGravity_1 : decode cX2_setGravity 1 = .ok (.iload_n 1, 1) := by decide +kernel
theorem dX2_setGravity_2 : decode cX2_setGravity 2 = .ok (.invokevirtual 84, 3) := by decide +kernel
theorem dX2_setGravity_5 : decode cX2_setGravity 5 = .ok (.astore_n 3, 1) := by decide +kernel
theorem dX2_setGravity_6 : decode cX2_setGravity 6 = .ok (.iload_n 2, 1) := by decide +kernel
theorem dX2_setGravity_7 : decode cX2_setGravity 7 = .ok (.iconst 0, 1) := by decide +kernel
theorem dX2_setGravity_8 : decode cX2_setGravity 8 = .ok (.iconst 2, 1) := by decide +kernel
theorem dX2_setGravity_9 : decode cX2_setGravity 9 = .ok (.invokestatic 37, 3) := by decide +kernel
theorem dX2_setGravity_12 : decode cX2_setGravity 12 = .ok (.aload_n 3, 1) := by decide +kernel
theorem dX2_setGravity_13 : decode cX2_setGravity 13 = .ok (.getfield 88, 3) := by decide +kernel
theorem dX2_setGravity_16 : decode cX2_setGravity 16 = .ok (.ifCond .ne 7, 3) := by decide +kernel
theorem dX2_setGravity_19 : decode cX2_setGravity 19 = .ok (.iconst 1, 1) := by decide +kernel
theorem dX2_setGravity_20 : decode cX2_setGravity 20 = .ok (.goto 4, 3) := by decide +kernel
theorem dX2_setGravity_23 : decode cX2_setGravity 23 = .ok (.iconst 0, 1) := by decide +kernel
theorem dX2_setGravity_24 : decode cX2_setGravity 24 = .ok (.invokestatic 54, 3) := by decide +kernel
theorem dX2_setGravity_27 : decode cX2_setGravity 27 = .ok (.aload_n 3, 1) := by decide +kernel
theorem dX2_setGravity_28 : decode cX2_setGravity 28 = .ok (.getfield 109, 3) := by decide +kernel
theorem dX2_setGravity_31 : decode cX2_setGravity 31 = .ok (.istore 4, 2) := by decide +kernel
theorem dX2_setGravity_33 : decode cX2_setGravity 33 = .ok (.aload_n 3, 1) := by decide +kernel
theorem dX2_setGravity_34 : decode cX2_setGravity 34 = .ok (.iload_n 2, 1) := by decide +kernel
theorem dX2_setGravity_35 : decode cX2_setGravity 35 = .ok (.putfield 109, 3) := by decide +kernel
theorem dX2_setGravity_38 : decode cX2_setGravity 38 = .ok (.iload 4, 2) := by decide +kernel
theorem dX2_setGravity_40 : decode cX2_setGravity 40 = .ok (.ireturn, 1) := by decide +kernel
set_option maxRecDepth 20000 in
theorem ggX2_join_X2_caseAt : GoodIn wsX2_join wsX2_caseAt := goodIn_ca (goodIn_r _ [8, 9, 10, 11, 41, 42, 43, 44, 45] (by decide +kernel) (by decide +kernel)) (goodIn_sub (fun _ h => List.mem_cons_of_mem _ (List.mem_append_left _ (List.mem_append_left _ (List.mem_append_right _ h)))) (by decide +kernel))
set_option maxRecDepth 20000 in
theorem gX2_join_X2_caseAt : GoodIn wsX2_join (wsV RX2 84 RX2 yX2_caseAt wsX2_caseAt) := goodIn_app (goodIn_of _ (by decide +kernel)) ggX2_join_X2_caseAt
set_option maxRecDepth 20000 in
theorem ggX2_join_X2_checkArgument : GoodIn wsX2_join wsX2_checkArgument := goodIn_ca (goodIn_r _ [14, 15, 16] (by decide +kernel) (by decide +kernel)) (goodIn_sub (fun _ h => List.mem_cons_of_mem _ (List.mem_append_left _ (List.mem_append_right _ h))) (by decide +kernel))
set_option maxRecDepth 20000 in
theorem gX2_join_X2_checkArgument : GoodIn wsX2_join (va_wsS RX2 116 yX2_checkArgument wsX2_checkArgument) := goodIn_app (goodIn_of _ (by decide +kernel)) ggX2_join_X2_checkArgument
set_option maxRecDepth 20000 in
theorem ggX2_join_X2_countJoinedTo : GoodIn wsX2_join wsX2_countJoinedTo := goodIn_r _ [20, 11, 21, 22, 23, 24, 25, 26, 27, 41, 42, 43, 44, 45, 33, 34, 35, 36, 37, 38, 39, 40] (by decide +kernel) (by decide +kernel)
set_option maxRecDepth 20000 in
theorem gX2_join_X2_countJoinedTo : GoodIn wsX2_join (wsV RX2 119 RX2 yX2_countJoinedTo wsX2_countJoinedTo) := goodIn_app (goodIn_of _ (by decide +kernel)) ggX2_join_X2_countJoinedTo
set_option maxRecDepth 20000 in
theorem ggX2_join_X2_checkState : GoodIn wsX2_join wsX2_checkState := goodIn_ca (goodIn_r _ [30, 31, 32] (by decide +kernel) (by decide +kernel)) (goodIn_sub (fun _ h => List.mem_cons_of_mem _ (List.mem_append_right _ h)) (by decide +kernel))
set_option maxRecDepth 20000 in
theorem gX2_join_X2_checkState : GoodIn wsX2_join (va_wsS RX2 54 yX2_checkState wsX2_checkState) := goodIn_app (goodIn_of _ (by decide +kernel)) ggX2_join_X2_checkState
theorem dX2_join_0 : decode cX2_join 0 = .ok (.aload_n 0, 1) := by decide +kernel
theorem dX2_join_1 : decode cX2_join 1 = .ok (.iload_n 1, 1) := by decide +kernel
theorem dX2_join_2 : decode cX2_join 2 = .ok (.invokevirtual 84, 3) := by decide +kernel
theorem dX2_join_5 : decode cX2_join 5 = .ok (.astore_n 3, 1) := by decide +kernel
theorem dX2_join_6 : decode cX2_join 6 = .ok (.aload_n 0, 1) := by decide +kernel
theorem dX2_join_7 : decode cX2_join 7 = .ok (.iload_n 2, 1) := by decide +kernel
theorem dX2_join_8 : decode cX2_join 8 = .ok (.invokevirtual 84, 3) := by decide +kernel
theorem dX2_join_11 : decode cX2_join 11 = .ok (.astore 4, 2) := by decide +kernel
theorem dX2_join_13 : decode cX2_join 13 = .ok (.aload_n 3, 1) := by decide +kernel
theorem dX2_join_14 : decode cX2_join 14 = .ok (.aload 4, 2) := by decide +kernel
theorem dX2_join_16 : decode cX2_join 16 = .ok (.if_acmp .eq 19, 3) := by decide +kernel
theorem dX2_join_19 : decode cX2_join 19 = .ok (.aload_n 3, 1) := by decide +kernel
theorem dX2_join_20 : decode cX2_join 20 = .ok (.getfield 112, 3) := by decide +kernel
theorem dX2_join_23 : decode cX2_join 23 = .ok (.aload 4, 2) := by decide +kernel
theorem dX2_join_25 : decode cX2_join 25 = .ok (.getfield 112, 3) := by decide +kernel
theorem dX2_join_28 : decode cX2_join 28 = .ok (.if_acmp .ne 7, 3) := by decide +kernel
theorem dX2_join_31 : decode cX2_join 31 = .ok (.iconst 1, 1) := by decide +kernel
theorem dX2_join_32 : decode cX2_join 32 = .ok (.goto 4, 3) := by decide +kernel
theorem dX2_join_35 : decode cX2_join 35 = .ok (.iconst 0, 1) := by decide +kernel
theorem dX2_join_36 : decode cX2_join 36 = .ok (.invokestatic 116, 3) := by decide +kernel
theorem dX2_join_39 : decode cX2_join 39 = .ok (.aload_n 3, 1) := by decide +kernel
theorem dX2_join_40 : decode cX2_join 40 = .ok (.getfield 88, 3) := by decide +kernel
theorem dX2_join_43 : decode cX2_join 43 = .ok (.ifCond .ne 23, 3) := by decide +kernel
theorem dX2_join_46 : decode cX2_join 46 = .ok (.aload 4, 2) := by decide +kernel
theorem dX2_join_48 : decode cX2_join 48 = .ok (.getfield 88, 3) := by decide +kernel
theorem dX2_join_51 : decode cX2_join 51 = .ok (.ifCond .ne 15, 3) := by decide +kernel
theorem dX2_join_54 : decode cX2_join 54 = .ok (.aload_n 0, 1) := by decide +kernel
theorem dX2_join_55 : decode cX2_join 55 = .ok (.aload_n 3, 1) := by decide +kernel
theorem dX2_join_56 : decode cX2_join 56 = .ok (.invokevirtual 119, 3) := by decide +kernel
theorem dX2_join_59 : decode cX2_join 59 = .ok (.ifCond .ne 7, 3) := by decide +kernel
theorem dX2_join_62 : decode cX2_join 62 = .ok (.iconst 1, 1) := by decide +kernel
theorem dX2_join_63 : decode cX2_join 63 = .ok (.goto 4, 3) := by decide +kernel
theorem dX2_join_66 : decode cX2_join 66 = .ok (.iconst 0, 1) := by decide +kernel
theorem dX2_join_67 : decode cX2_join 67 = .ok (.invokestatic 54, 3) := by decide +kernel
theorem dX2_join_70 : decode cX2_join 70 = .ok (.aload_n 3, 1) := by decide +kernel
theorem dX2_join_71 : decode cX2_join 71 = .ok (.iconst 1, 1) := by decide +kernel
theorem dX2_join_72 : decode cX2_join 72 = .ok (.putfield 88, 3) := by decide +kernel
theorem dX2_join_75 : decode cX2_join 75 = .ok (.aload_n 3, 1) := by decide +kernel
theorem dX2_join_76 : decode cX2_join 76 = .ok (.aload 4, 2) := by decide +kernel
theorem dX2_join_78 : decode cX2_join 78 = .ok (.putfield 122, 3) := by decide +kernel
theorem dX2_join_81 : decode cX2_join 81 = .ok (.aload_n 0, 1) := by decide +kernel
theorem dX2_join_82 : decode cX2_join 82 = .ok (.aload 4, 2) := by decide +kernel
theorem dX2_join_84 : decode cX2_join 84 = .ok (.invokevirtual 119, 3) := by decide +kernel
theorem dX2_join_87 : decode cX2_join 87 = .ok (.ireturn, 1) := by decide +kernel
set_option maxRecDepth 20000 in
theorem ggX2_openAnew_X2_caseAt : GoodIn wsX2_openAnew wsX2_caseAt := goodIn_ca (goodIn_r _ [13, 14, 15, 16, 30, 31, 32, 33, 34] (by decide +kernel) (by decide +kernel)) (goodIn_sub (fun _ h => List.mem_cons_of_mem _ (List.mem_append_left _ (List.mem_append_right _ h))) (by decide +kernel))
set_option maxRecDepth 20000 in
theorem gX2_openAnew_X2_caseAt : GoodIn wsX2_openAnew (wsV RX2 84 RX2 yX2_caseAt wsX2_caseAt) := goodIn_app (goodIn_of _ (by decide +kernel)) ggX2_openAnew_X2_caseAt
set_option maxRecDepth 20000 in
theorem ggX2_openAnew_X2_checkState : GoodIn wsX2_openAnew wsX2_checkState := goodIn_ca (goodIn_r _ [19, 20, 21] (by decide +kernel) (by decide +kernel)) (goodIn_sub (fun _ h => List.mem_cons_of_mem _ (List.mem_append_right _ h)) (by decide +kernel))
set_option maxRecDepth 20000 in
theorem gX2_openAnew_X2_checkState : GoodIn wsX2_openAnew (va_wsS RX2 54 yX2_checkState wsX2_checkState) := goodIn_app (goodIn_of _ (by decide +kernel)) ggX2_openAnew_X2_checkState
theorem dX2_openAnew_0 : decode cX2_openAnew 0 = .ok (.aload_n 0, 1) := by decide +kernel
theorem dX2_openAnew_1 : decode cX2_openAnew 1 = .ok (.iload_n 1, 1) := by decide +kernel
theorem dX2_openAnew_2 : decode cX2_openAnew 2 = .ok (.invokevirtual 84, 3) := by decide +kernel
theorem dX2_openAnew_5 : decode cX2_openAnew 5 = .ok (.astore_n 2, 1) := by decide +kernel
theorem dX2_openAnew_6 : decode cX2_openAnew 6 = .ok (.aload_n 2, 1) := by decide +kernel
theorem dX2_openAnew_7 : decode cX2_openAnew 7 = .ok (.getfield 88, 3) := by decide +kernel
theorem dX2_openAnew_10 : decode cX2_openAnew 10 = .ok (.iconst 2, 1) := by decide +kernel
theorem dX2_openAnew_11 : decode cX2_openAnew 11 = .ok (.if_icmp .ne 7, 3) := by decide +kernel
theorem dX2_openAnew_14 : decode cX2_openAnew 14 = .ok (.iconst 1, 1) := by decide +kernel
theorem dX2_openAnew_15 : decode cX2_openAnew 15 = .ok (.goto 4, 3) := by decide +kernel
theorem dX2_openAnew_18 : decode cX2_openAnew 18 = .ok (.iconst 0, 1) := by decide +kernel
theorem dX2_openAnew_19 : decode cX2_openAnew 19 = .ok (.invokestatic 54, 3) := by decide +kernel
theorem dX2_openAnew_22 : decode cX2_openAnew 22 = .ok (.aload_n 2, 1) := by decide +kernel
theorem dX2_openAnew_23 : decode cX2_openAnew 23 = .ok (.iconst 0, 1) := by decide +kernel
theorem dX2_openAnew_24 : decode cX2_openAnew 24 = .ok (.putfield 88, 3) := by decide +kernel
theorem dX2_openAnew_27 : decode cX2_openAnew 27 = .ok (.aload_n 2, 1) := by decide +kernel
theorem dX2_openAnew_28 : decode cX2_openAnew 28 = .ok (.iconst 0, 1) := by decide +kernel
theorem dX2_openAnew_29 : decode cX2_openAnew 29 = .ok (.putfield 105, 3) := by decide +kernel
theorem dX2_openAnew_32 : decode cX2_openAnew 32 = .ok (.aload_n 2, 1) := by decide +kernel
theorem dX2_openAnew_33 : decode cX2_openAnew 33 = .ok (.aload_n 2, 1) := by decide +kernel
theorem dX2_openAnew_34 : decode cX2_openAnew 34 = .ok (.getfield 94, 3) := by decide +kernel
theorem dX2_openAnew_37 : decode cX2_openAnew 37 = .ok (.iconst 2, 1) := by decide +kernel
theorem dX2_openAnew_38 : decode cX2_openAnew 38 = .ok (.invokestatic 126, 3) := by decide +kernel
theorem dX2_openAnew_41 : decode cX2_openAnew 41 = .ok (.putfield 94, 3) := by decide +kernel
theorem dX2_openAnew_44 : decode cX2_openAnew 44 = .ok (.aload_n 2, 1) := by decide +kernel
theorem dX2_openAnew_45 : decode cX2_openAnew 45 = .ok (.getfield 131, 3) := by decide +kernel
theorem dX2_openAnew_48 : decode cX2_openAnew 48 = .ok (.iconst 2, 1) := by decide +kernel
theorem dX2_openAnew_49 : decode cX2_openAnew 49 = .ok (.iaload, 1) := by decide +kernel
theorem dX2_openAnew_50 : decode cX2_openAnew 50 = .ok (.ireturn, 1) := by decide +kernel
set_option maxRecDepth 20000 in
theorem ggX2_stateOf_X2_caseAt : GoodIn wsX2_stateOf wsX2_caseAt := goodIn_ca (goodIn_r _ [6, 7, 8, 9, 18, 19, 20, 21, 22] (by decide +kernel) (by decide +kernel)) (goodIn_sub (fun _ h => List.mem_cons_of_mem _ (List.mem_append_right _ h)) (by decide +kernel))
set_option maxRecDepth 20000 in
theorem gX2_stateOf_X2_caseAt : GoodIn wsX2_stateOf (wsV RX2 84 RX2 yX2_caseAt wsX2_caseAt) := goodIn_app (goodIn_of _ (by decide +kernel)) ggX2_stateOf_X2_caseAt
theorem dX2_stateOf_0 : decode cX2_stateOf 0 = .ok (.aload_n 0, 1) := by decide +kernel
theorem dX2_stateOf_1 : decode cX2_stateOf 1 = .ok (.iload_n 1, 1) := by decide +kernel
theorem dX2_stateOf_2 : decode cX2_stateOf 2 = .ok (.invokevirtual 84, 3) := by decide +kernel
theorem dX2_stateOf_5 : decode cX2_stateOf 5 = .ok (.getfield 88, 3) := by decide +kernel
theorem dX2_stateOf_8 : decode cX2_stateOf 8 = .ok (.ireturn, 1) := by decide +kernel
set_option maxRecDepth 20000 in
theorem ggX2_clock_X2_caseAt : GoodIn wsX2_clock wsX2_caseAt := goodIn_ca (goodIn_r _ [6, 7, 8, 9, 26, 27, 28, 29, 30] (by decide +kernel) (by decide +kernel)) (goodIn_sub (fun _ h => List.mem_cons_of_mem _ (List.mem_append_left _ (List.mem_append_right _ h))) (by decide +kernel))
set_option maxRecDepth 20000 in
theorem gX2_clock_X2_caseAt : GoodIn wsX2_clock (wsV RX2 84 RX2 yX2_caseAt wsX2_caseAt) := goodIn_app (goodIn_of _ (by decide +kernel)) ggX2_clock_X2_caseAt
set_option maxRecDepth 20000 in
theorem ggX2_clock_X2_checkRange : GoodIn wsX2_clock wsX2_checkRange := goodIn_ca (goodIn_r _ [12, 13, 14, 5, 15, 16, 17] (by decide +kernel) (by decide +kernel)) (goodIn_sub (fun _ h => List.mem_cons_of_mem _ (List.mem_append_right _ h)) (by decide +kernel))
set_option maxRecDepth 20000 in
theorem gX2_clock_X2_checkRange : GoodIn wsX2_clock (va_wsS RX2 37 yX2_checkRange wsX2_checkRange) := goodIn_app (goodIn_of _ (by decide +kernel)) ggX2_clock_X2_checkRange
theorem dX2_clock_0 : decode cX2_clock 0 = .ok (.aload_n 0, 1) := by decide +kernel
theorem dX2_clock_1 : decode cX2_clock 1 = .ok (.iload_n 1, 1) := by decide +kernel
theorem dX2_clock_2 : decode cX2_clock 2 = .ok (.invokevirtual 84, 3) := by decide +kernel
theorem dX2_clock_5 : decode cX2_clock 5 = .ok (.astore_n 3, 1) := by decide +kernel
theorem dX2_clock_6 : decode cX2_clock 6 = .ok (.iload_n 2, 1) := by decide +kernel
theorem dX2_clock_7 : decode cX2_clock 7 = .ok (.iconst 0, 1) := by decide +kernel
theorem dX2_clock_8 : decode cX2_clock 8 = .ok (.iconst 2, 1) := by decide +kernel
theorem dX2_clock_9 : decode cX2_clock 9 = .ok (.invokestatic 37, 3) := by decide +kernel
theorem dX2_clock_12 : decode cX2_clock 12 = .ok (.aload_n 3, 1) := by decide +kernel
theorem dX2_clock_13 : decode cX2_clock 13 = .ok (.getfield 131, 3) := by decide +kernel
theorem dX2_clock_16 : decode cX2_clock 16 = .ok (.iload_n 2, 1) := by decide +kernel
theorem dX2_clock_17 : decode cX2_clock 17 = .ok (.iaload, 1) := by decide +kernel
theorem dX2_clock_18 : decode cX2_clock 18 = .ok (.ireturn, 1) := by decide +kernel
set_option maxRecDepth 20000 in
theorem ggX2_isMissed_X2_caseAt : GoodIn wsX2_isMissed wsX2_caseAt := goodIn_ca (goodIn_r _ [5, 6, 7, 8, 28, 29, 30, 31, 32] (by decide +kernel) (by decide +kernel)) (goodIn_sub (fun _ h => List.mem_cons_of_mem _ (List.mem_append_left _ (List.mem_append_right _ h))) (by decide +kernel))
set_option maxRecDepth 20000 in
theorem gX2_isMissed_X2_caseAt : GoodIn wsX2_isMissed (wsV RX2 84 RX2 yX2_caseAt wsX2_caseAt) := goodIn_app (goodIn_of _ (by decide +kernel)) ggX2_isMissed_X2_caseAt
set_option maxRecDepth 20000 in
theorem ggX2_isMissed_X2_checkRange : GoodIn wsX2_isMissed wsX2_checkRange := goodIn_ca (goodIn_r _ [11, 12, 13, 4, 14, 15, 16] (by decide +kernel) (by decide +kernel)) (goodIn_sub (fun _ h => List.mem_cons_of_mem _ (List.mem_append_right _ h)) (by decide +kernel))
set_option maxRecDepth 20000 in
theorem gX2_isMissed_X2_checkRange : GoodIn wsX2_isMissed (va_wsS RX2 37 yX2_checkRange wsX2_checkRange) := goodIn_app (goodIn_of _ (by decide +kernel)) ggX2_isMissed_X2_checkRange
set_option maxRecDepth 20000 in
theorem ggX2_isMissed_X2_misses : GoodIn wsX2_isMissed wsX2_misses := goodIn_r _ [20, 21, 22, 23, 24, 4, 25, 26, 27, 33, 34, 35, 36, 37, 38, 39, 40, 28, 29, 30, 31, 32] (by decide +kernel) (by decide +kernel)
set_option maxRecDepth 20000 in
theorem gX2_isMissed_X2_misses : GoodIn wsX2_isMissed (wsV RX2 134 RX2 yX2_misses wsX2_misses) := goodIn_app (goodIn_of _ (by decide +kernel)) ggX2_isMissed_X2_misses
theorem dX2_isMissed_0 : decode cX2_isMissed 0 = .ok (.aload_n 0, 1) := by decide +kernel
theorem dX2_isMissed_1 : decode cX2_isMissed 1 = .ok (.iload_n 1, 1) := by decide +kernel
theorem dX2_isMissed_2 : decode cX2_isMissed 2 = .ok (.invokevirtual 84, 3) := by decide +kernel
theorem dX2_isMissed_5 : decode cX2_isMissed 5 = .ok (.astore_n 3, 1) := by decide +kernel
theorem dX2_isMissed_6 : decode cX2_isMissed 6 = .ok (.iload_n 2, 1) := by decide +kernel
theorem dX2_isMissed_7 : decode cX2_isMissed 7 = .ok (.iconst 0, 1) := by decide +kernel
theorem dX2_isMissed_8 : decode cX2_isMissed 8 = .ok (.iconst 2, 1) := by decide +kernel
theorem dX2_isMissed_9 : decode cX2_isMissed 9 = .ok (.invokestatic 37, 3) := by decide +kernel
theorem dX2_isMissed_12 : decode cX2_isMissed 12 = .ok (.aload_n 0, 1) := by decide +kernel
theorem dX2_isMissed_13 : decode cX2_isMissed 13 = .ok (.aload_n 3, 1) := by decide +kernel
theorem dX2_isMissed_14 : decode cX2_isMissed 14 = .ok (.iload_n 2, 1) := by decide +kernel
theorem dX2_isMissed_15 : decode cX2_isMissed 15 = .ok (.invokevirtual 134, 3) := by decide +kernel
theorem dX2_isMissed_18 : decode cX2_isMissed 18 = .ok (.ireturn, 1) := by decide +kernel
set_option maxRecDepth 20000 in
theorem ggX2_step_X2_caseAt : GoodIn wsX2_step wsX2_caseAt := goodIn_ca (goodIn_r _ [5, 6, 7, 8, 34, 35, 36, 37, 38] (by decide +kernel) (by decide +kernel)) (goodIn_sub (fun _ h => List.mem_cons_of_mem _ (List.mem_append_right _ h)) (by decide +kernel))
set_option maxRecDepth 20000 in
theorem gX2_step_X2_caseAt : GoodIn wsX2_step (wsV RX2 84 RX2 yX2_caseAt wsX2_caseAt) := goodIn_app (goodIn_of _ (by decide +kernel)) ggX2_step_X2_caseAt
set_option maxRecDepth 20000 in
theorem ggX2_step_X2_greatestStep : GoodIn wsX2_step wsX2_greatestStep := goodIn_r _ [12, 13, 14, 15, 16, 17, 18, 19, 4, 20, 21, 22, 23, 24, 25, 26, 27, 28, 29, 30, 31, 32, 33, 39, 40, 41, 42, 43, 44, 45, 46, 34, 35, 36, 37, 38] (by decide +kernel) (by decide +kernel)
set_option maxRecDepth 20000 in
theorem gX2_step_X2_greatestStep : GoodIn wsX2_step (wsV RX2 138 RX2 yX2_greatestStep wsX2_greatestStep) := goodIn_app (goodIn_of _ (by decide +kernel)) ggX2_step_X2_greatestStep
theorem dX2_step_0 : decode cX2_step 0 = .ok (.aload_n 0, 1) := by decide +kernel
theorem dX2_step_1 : decode cX2_step 1 = .ok (.aload_n 0, 1) := by decide +kernel
theorem dX2_step_2 : decode cX2_step 2 = .ok (.iload_n 1, 1) := by decide +kernel
theorem dX2_step_3 : decode cX2_step 3 = .ok (.invokevirtual 84, 3) := by decide +kernel
theorem dX2_step_6 : decode cX2_step 6 = .ok (.invokevirtual 138, 3) := by decide +kernel
theorem dX2_step_9 : decode cX2_step 9 = .ok (.ireturn, 1) := by decide +kernel
set_option maxRecDepth 20000 in
theorem ggX2_mostUrgent_X0_isRunning : GoodIn wsX2_mostUrgent wsX0_isRunning := goodIn_r _ [8, 9, 10, 40, 41, 42, 43, 44, 45, 46, 47] (by decide +kernel) (by decide +kernel)
set_option maxRecDepth 20000 in
theorem gX2_mostUrgent_X0_isRunning : GoodIn wsX2_mostUrgent (wsV RX2 141 RX0 yX0_isRunning wsX0_isRunning) := goodIn_app (goodIn_of _ (by decide +kernel)) ggX2_mostUrgent_X0_isRunning
set_option maxRecDepth 20000 in
theorem ggX2_mostUrgent_X2_greatestStep : GoodIn wsX2_mostUrgent wsX2_greatestStep := goodIn_r _ [15, 16, 17, 18, 19, 20, 21, 22, 14, 23, 24, 25, 26, 27, 7, 28, 29, 30, 31, 32, 33, 34, 3, 40, 41, 42, 43, 44, 45, 46, 47, 35, 36, 37, 38, 39] (by decide +kernel) (by decide +kernel)
set_option maxRecDepth 20000 in
theorem gX2_mostUrgent_X2_greatestStep : GoodIn wsX2_mostUrgent (wsV RX2 138 RX2 yX2_greatestStep wsX2_greatestStep) := goodIn_app (goodIn_of _ (by decide +kernel)) ggX2_mostUrgent_X2_greatestStep
theorem dX2_mostUrgent_0 : decode cX2_mostUrgent 0 = .ok (.iconst (-1), 1) := by decide +kernel
theorem dX2_mostUrgent_1 : decode cX2_mostUrgent 1 = .ok (.istore_n 1, 1) := by decide +kernel
theorem dX2_mostUrgent_2 : decode cX2_mostUrgent 2 = .ok (.iconst 0, 1) := by decide +kernel
theorem dX2_mostUrgent_3 : decode cX2_mostUrgent 3 = .ok (.istore_n 2, 1) := by decide +kernel
theorem dX2_mostUrgent_4 : decode cX2_mostUrgent 4 = .ok (.iconst 0, 1) := by decide +kernel
theorem dX2_mostUrgent_5 : decode cX2_mostUrgent 5 = .ok (.istore_n 3, 1) := by decide +kernel
theorem dX2_mostUrgent_6 : decode cX2_mostUrgent 6 = .ok (.iconst 0, 1) := by decide +kernel
theorem dX2_mostUrgent_7 : decode cX2_mostUrgent 7 = .ok (.istore 4, 2) := by decide +kernel
theorem dX2_mostUrgent_9 : decode cX2_mostUrgent 9 = .ok (.iload 4, 2) := by decide +kernel
theorem dX2_mostUrgent_11 : decode cX2_mostUrgent 11 = .ok (.aload_n 0, 1) := by decide +kernel
theorem dX2_mostUrgent_12 : decode cX2_mostUrgent 12 = .ok (.getfield 25, 3) := by decide +kernel
theorem dX2_mostUrgent_15 : decode cX2_mostUrgent 15 = .ok (.if_icmp .ge 77, 3) := by decide +kernel
theorem dX2_mostUrgent_18 : decode cX2_mostUrgent 18 = .ok (.aload_n 0, 1) := by decide +kernel
theorem dX2_mostUrgent_19 : decode cX2_mostUrgent 19 = .ok (.getfield 21, 3) := by decide +kernel
theorem dX2_mostUrgent_22 : decode cX2_mostUrgent 22 = .ok (.iload 4, 2) := by decide +kernel
theorem dX2_mostUrgent_24 : decode cX2_mostUrgent 24 = .ok (.aaload, 1) := by decide +kernel
theorem dX2_mostUrgent_25 : decode cX2_mostUrgent 25 = .ok (.astore 5, 2) := by decide +kernel
theorem dX2_mostUrgent_27 : decode cX2_mostUrgent 27 = .ok (.aload 5, 2) := by decide +kernel
theorem dX2_mostUrgent_29 : decode cX2_mostUrgent 29 = .ok (.ifnull 57, 3) := by decide +kernel
theorem dX2_mostUrgent_32 : decode cX2_mostUrgent 32 = .ok (.aload 5, 2) := by decide +kernel
theorem dX2_mostUrgent_34 : decode cX2_mostUrgent 34 = .ok (.invokevirtual 141, 3) := by decide +kernel
theorem dX2_mostUrgent_37 : decode cX2_mostUrgent 37 = .ok (.ifCond .eq 49, 3) := by decide +kernel
theorem dX2_mostUrgent_40 : decode cX2_mostUrgent 40 = .ok (.aload_n 0, 1) := by decide +kernel
theorem dX2_mostUrgent_41 : decode cX2_mostUrgent 41 = .ok (.aload 5, 2) := by decide +kernel
theorem dX2_mostUrgent_43 : decode cX2_mostUrgent 43 = .ok (.invokevirtual 138, 3) := by decide +kernel
theorem dX2_mostUrgent_46 : decode cX2_mostUrgent 46 = .ok (.istore 6, 2) := by decide +kernel
theorem dX2_mostUrgent_48 : decode cX2_mostUrgent 48 = .ok (.iload_n 1, 1) := by decide +kernel
theorem dX2_mostUrgent_49 : decode cX2_mostUrgent 49 = .ok (.iconst (-1), 1) := by decide +kernel
theorem dX2_mostUrgent_50 : decode cX2_mostUrgent 50 = .ok (.if_icmp .eq 24, 3) := by decide +kernel
theorem dX2_mostUrgent_53 : decode cX2_mostUrgent 53 = .ok (.iload 6, 2) := by decide +kernel
theorem dX2_mostUrgent_55 : decode cX2_mostUrgent 55 = .ok (.iload_n 2, 1) := by decide +kernel
theorem dX2_mostUrgent_56 : decode cX2_mostUrgent 56 = .ok (.if_icmp .gt 18, 3) := by decide +kernel
theorem dX2_mostUrgent_59 : decode cX2_mostUrgent 59 = .ok (.iload 6, 2) := by decide +kernel
theorem dX2_mostUrgent_61 : decode cX2_mostUrgent 61 = .ok (.iload_n 2, 1) := by decide +kernel
theorem dX2_mostUrgent_62 : decode cX2_mostUrgent 62 = .ok (.if_icmp .ne 24, 3) := by decide +kernel
theorem dX2_mostUrgent_65 : decode cX2_mostUrgent 65 = .ok (.aload 5, 2) := by decide +kernel
theorem dX2_mostUrgent_67 : decode cX2_mostUrgent 67 = .ok (.getfield 109, 3) := by decide +kernel
theorem dX2_mostUrgent_70 : decode cX2_mostUrgent 70 = .ok (.iload_n 3, 1) := by decide +kernel
theorem dX2_mostUrgent_71 : decode cX2_mostUrgent 71 = .ok (.if_icmp .le 15, 3) := by decide +kernel
theorem dX2_mostUrgent_74 : decode cX2_mostUrgent 74 = .ok (.iload 4, 2) := by decide +kernel
theorem dX2_mostUrgent_76 : decode cX2_mostUrgent 76 = .ok (.istore_n 1, 1) := by decide +kernel
theorem dX2_mostUrgent_77 : decode cX2_mostUrgent 77 = .ok (.iload 6, 2) := by decide +kernel
theorem dX2_mostUrgent_79 : decode cX2_mostUrgent 79 = .ok (.istore_n 2, 1) := by decide +kernel
theorem dX2_mostUrgent_80 : decode cX2_mostUrgent 80 = .ok (.aload 5, 2) := by decide +kernel
theorem dX2_mostUrgent_82 : decode cX2_mostUrgent 82 = .ok (.getfield 109, 3) := by decide +kernel
theorem dX2_mostUrgent_85 : decode cX2_mostUrgent 85 = .ok (.istore_n 3, 1) := by decide +kernel
theorem dX2_mostUrgent_86 : decode cX2_mostUrgent 86 = .ok (.iinc 4 1, 3) := by decide +kernel
theorem dX2_mostUrgent_89 : decode cX2_mostUrgent 89 = .ok (.goto (-80), 3) := by decide +kernel
theorem dX2_mostUrgent_92 : decode cX2_mostUrgent 92 = .ok (.iload_n 1, 1) := by decide +kernel
theorem dX2_mostUrgent_93 : decode cX2_mostUrgent 93 = .ok (.ireturn, 1) := by decide +kernel
set_option maxRecDepth 20000 in
theorem ggX2_buy_X2_siteAt : GoodIn wsX2_buy wsX2_siteAt := goodIn_ca (goodIn_r _ [7, 8, 9, 10, 28, 29, 30, 31, 32] (by decide +kernel) (by decide +kernel)) (goodIn_sub (fun _ h => List.mem_cons_of_mem _ (List.mem_append_left _ (List.mem_append_right _ h))) (by decide +kernel))
set_option maxRecDepth 20000 in
theorem gX2_buy_X2_siteAt : GoodIn wsX2_buy (wsV RX2 33 RX2 yX2_siteAt wsX2_siteAt) := goodIn_app (goodIn_of _ (by decide +kernel)) ggX2_buy_X2_siteAt
set_option maxRecDepth 20000 in
theorem ggX2_buy_X2_checkRange : GoodIn wsX2_buy wsX2_checkRange := goodIn_ca (goodIn_r _ [13, 14, 15, 6, 16, 17, 18] (by decide +kernel) (by decide +kernel)) (goodIn_sub (fun _ h => List.mem_cons_of_mem _ (List.mem_append_right _ h)) (by decide +kernel))
set_option maxRecDepth 20000 in
theorem gX2_buy_X2_checkRange : GoodIn wsX2_buy (va_wsS RX2 37 yX2_checkRange wsX2_checkRange) := goodIn_app (goodIn_of _ (by decide +kernel)) ggX2_buy_X2_checkRange
theorem dX2_buy_0 : decode cX2_buy 0 = .ok (.aload_n 0, 1) := by decide +kernel
theorem dX2_buy_1 : decode cX2_buy 1 = .ok (.iload_n 1, 1) := by decide +kernel
theorem dX2_buy_2 : decode cX2_buy 2 = .ok (.invokevirtual 33, 3) := by decide +kernel
theorem dX2_buy_5 : decode cX2_buy 5 = .ok (.astore_n 3, 1) := by decide +kernel
theorem dX2_buy_6 : decode cX2_buy 6 = .ok (.iload_n 2, 1) := by decide +kernel
theorem dX2_buy_7 : decode cX2_buy 7 = .ok (.iconst 1, 1) := by decide +kernel
theorem dX2_buy_8 : decode cX2_buy 8 = .ok (.bipush 100, 2) := by decide +kernel
theorem dX2_buy_10 : decode cX2_buy 10 = .ok (.invokestatic 37, 3) := by decide +kernel
theorem dX2_buy_13 : decode cX2_buy 13 = .ok (.aload_n 3, 1) := by decide +kernel
theorem dX2_buy_14 : decode cX2_buy 14 = .ok (.dup, 1) := by decide +kernel
theorem dX2_buy_15 : decode cX2_buy 15 = .ok (.getfield 145, 3) := by decide +kernel
theorem dX2_buy_18 : decode cX2_buy 18 = .ok (.iload_n 2, 1) := by decide +kernel
theorem dX2_buy_19 : decode cX2_buy 19 = .ok (.iadd, 1) := by decide +kernel
theorem dX2_buy_20 : decode cX2_buy 20 = .ok (.putfield 145, 3) := by decide +kernel
theorem dX2_buy_23 : decode cX2_buy 23 = .ok (.aload_n 3, 1) := by decide +kernel
theorem dX2_buy_24 : decode cX2_buy 24 = .ok (.dup, 1) := by decide +kernel
theorem dX2_buy_25 : decode cX2_buy 25 = .ok (.getfield 148, 3) := by decide +kernel
theorem dX2_buy_28 : decode cX2_buy 28 = .ok (.iload_n 2, 1) := by decide +kernel
theorem dX2_buy_29 : decode cX2_buy 29 = .ok (.sipush 7000, 3) := by decide +kernel
theorem dX2_buy_32 : decode cX2_buy 32 = .ok (.imul, 1) := by decide +kernel
theorem dX2_buy_33 : decode cX2_buy 33 = .ok (.iadd, 1) := by decide +kernel
theorem dX2_buy_34 : decode cX2_buy 34 = .ok (.putfield 148, 3) := by decide +kernel
theorem dX2_buy_37 : decode cX2_buy 37 = .ok (.aload_n 3, 1) := by decide +kernel
theorem dX2_buy_38 : decode cX2_buy 38 = .ok (.getfield 145, 3) := by decide +kernel
theorem dX2_buy_41 : decode cX2_buy 41 = .ok (.ireturn, 1) := by decide +kernel
set_option maxRecDepth 20000 in
theorem ggX2_work_X2_caseAt : GoodIn wsX2_work wsX2_caseAt := goodIn_ca (goodIn_r _ [13, 14, 15, 16, 62, 63, 64, 65, 66] (by decide +kernel) (by decide +kernel)) (goodIn_sub (fun _ h => List.mem_cons_of_mem _ (List.mem_append_left _ (List.mem_append_left _ (List.mem_append_right _ h)))) (by decide +kernel))
set_option maxRecDepth 20000 in
theorem gX2_work_X2_caseAt : GoodIn wsX2_work (wsV RX2 84 RX2 yX2_caseAt wsX2_caseAt) := goodIn_app (goodIn_of _ (by decide +kernel)) ggX2_work_X2_caseAt
set_option maxRecDepth 20000 in
theorem ggX2_work_X2_checkRange : GoodIn wsX2_work wsX2_checkRange := goodIn_ca (goodIn_r _ [19, 20, 21, 12, 22, 23, 24] (by decide +kernel) (by decide +kernel)) (goodIn_sub (fun _ h => List.mem_cons_of_mem _ (List.mem_append_left _ (List.mem_append_right _ h))) (by decide +kernel))
set_option maxRecDepth 20000 in
theorem gX2_work_X2_checkRange : GoodIn wsX2_work (va_wsS RX2 37 yX2_checkRange wsX2_checkRange) := goodIn_app (goodIn_of _ (by decide +kernel)) ggX2_work_X2_checkRange
set_option maxRecDepth 20000 in
theorem ggX2_work_X2_checkState : GoodIn wsX2_work wsX2_checkState := goodIn_ca (goodIn_r _ [27, 28, 29] (by decide +kernel) (by decide +kernel)) (goodIn_sub (fun _ h => List.mem_cons_of_mem _ (List.mem_append_right _ h)) (by decide +kernel))
set_option maxRecDepth 20000 in
theorem gX2_work_X2_checkState : GoodIn wsX2_work (va_wsS RX2 54 yX2_checkState wsX2_checkState) := goodIn_app (goodIn_of _ (by decide +kernel)) ggX2_work_X2_checkState
set_option maxRecDepth 20000 in
theorem ggX2_work_X2_isCoveredToday : GoodIn wsX2_work wsX2_isCoveredToday := goodIn_r _ [33, 2, 34, 35, 36, 37, 38, 39, 40, 41, 42, 43, 44, 45, 46, 47, 48, 49, 50, 51, 52, 62, 63, 64, 65, 66, 53, 54, 55, 56, 57, 58, 59, 60, 61] (by decide +kernel) (by decide +kernel)
set_option maxRecDepth 20000 in
theorem gX2_work_X2_isCoveredToday : GoodIn wsX2_work (wsV RX2 151 RX2 yX2_isCoveredToday wsX2_isCoveredToday) := goodIn_app (goodIn_of _ (by decide +kernel)) ggX2_work_X2_isCoveredToday
theorem dX2_work_0 : decode cX2_work 0 = .ok (.aload_n 0, 1) := by decide +kernel
theorem dX2_work_1 : decode cX2_work 1 = .ok (.iload_n 1, 1) := by decide +kernel
theorem dX2_work_2 : decode cX2_work 2 = .ok (.invokevirtual 84, 3) := by decide +kernel
theorem dX2_work_5 : decode cX2_work 5 = .ok (.astore_n 3, 1) := by decide +kernel
theorem dX2_work_6 : decode cX2_work 6 = .ok (.iload_n 2, 1) := by decide +kernel
theorem dX2_work_7 : decode cX2_work 7 = .ok (.iconst 1, 1) := by decide +kernel
theorem dX2_work_8 : decode cX2_work 8 = .ok (.bipush 100, 2) := by decide +kernel
theorem dX2_work_10 : decode cX2_work 10 = .ok (.invokestatic 37, 3) := by decide +kernel
theorem dX2_work_13 : decode cX2_work 13 = .ok (.aload_n 3, 1) := by decide +kernel
theorem dX2_work_14 : decode cX2_work 14 = .ok (.getfield 88, 3) := by decide +kernel
theorem dX2_work_17 : decode cX2_work 17 = .ok (.ifCond .ne 7, 3) := by decide +kernel
theorem dX2_work_20 : decode cX2_work 20 = .ok (.iconst 1, 1) := by decide +kernel
theorem dX2_work_21 : decode cX2_work 21 = .ok (.goto 4, 3) := by decide +kernel
theorem dX2_work_24 : decode cX2_work 24 = .ok (.iconst 0, 1) := by decide +kernel
theorem dX2_work_25 : decode cX2_work 25 = .ok (.invokestatic 54, 3) := by decide +kernel
theorem dX2_work_28 : decode cX2_work 28 = .ok (.aload_n 0, 1) := by decide +kernel
theorem dX2_work_29 : decode cX2_work 29 = .ok (.aload_n 3, 1) := by decide +kernel
theorem dX2_work_30 : decode cX2_work 30 = .ok (.invokevirtual 151, 3) := by decide +kernel
theorem dX2_work_33 : decode cX2_work 33 = .ok (.ifCond .eq 5, 3) := by decide +kernel
theorem dX2_work_36 : decode cX2_work 36 = .ok (.iconst 0, 1) := by decide +kernel
theorem dX2_work_37 : decode cX2_work 37 = .ok (.ireturn, 1) := by decide +kernel
theorem dX2_work_38 : decode cX2_work 38 = .ok (.aload_n 3, 1) := by decide +kernel
theorem dX2_work_39 : decode cX2_work 39 = .ok (.getfield 112, 3) := by decide +kernel
theorem dX2_work_42 : decode cX2_work 42 = .ok (.astore 4, 2) := by decide +kernel
theorem dX2_work_44 : decode cX2_work 44 = .ok (.iload_n 2, 1) := by decide +kernel
theorem dX2_work_45 : decode cX2_work 45 = .ok (.aload 4, 2) := by decide +kernel
theorem dX2_work_47 : decode cX2_work 47 = .ok (.getfield 145, 3) := by decide +kernel
theorem dX2_work_50 : decode cX2_work 50 = .ok (.invokestatic 126, 3) := by decide +kernel
theorem dX2_work_53 : decode cX2_work 53 = .ok (.istore 5, 2) := by decide +kernel
theorem dX2_work_55 : decode cX2_work 55 = .ok (.iload_n 2, 1) := by decide +kernel
theorem dX2_work_56 : decode cX2_work 56 = .ok (.iload 5, 2) := by decide +kernel
theorem dX2_work_58 : decode cX2_work 58 = .ok (.isub, 1) := by decide +kernel
theorem dX2_work_59 : decode cX2_work 59 = .ok (.sipush 9000, 3) := by decide +kernel
theorem dX2_work_62 : decode cX2_work 62 = .ok (.imul, 1) := by decide +kernel
theorem dX2_work_63 : decode cX2_work 63 = .ok (.istore 6, 2) := by decide +kernel
theorem dX2_work_65 : decode cX2_work 65 = .ok (.aload 4, 2) := by decide +kernel
theorem dX2_work_67 : decode cX2_work 67 = .ok (.dup, 1) := by decide +kernel
theorem dX2_work_68 : decode cX2_work 68 = .ok (.getfield 145, 3) := by decide +kernel
theorem dX2_work_71 : decode cX2_work 71 = .ok (.iload 5, 2) := by decide +kernel
theorem dX2_work_73 : decode cX2_work 73 = .ok (.isub, 1) := by decide +kernel
theorem dX2_work_74 : decode cX2_work 74 = .ok (.putfield 145, 3) := by decide +kernel
theorem dX2_work_77 : decode cX2_work 77 = .ok (.aload 4, 2) := by decide +kernel
theorem dX2_work_79 : decode cX2_work 79 = .ok (.dup, 1) := by decide +kernel
theorem dX2_work_80 : decode cX2_work 80 = .ok (.getfield 148, 3) := by decide +kernel
theorem dX2_work_83 : decode cX2_work 83 = .ok (.iload 6, 2) := by decide +kernel
theorem dX2_work_85 : decode cX2_work 85 = .ok (.iadd, 1) := by decide +kernel
theorem dX2_work_86 : decode cX2_work 86 = .ok (.putfield 148, 3) := by decide +kernel
theorem dX2_work_89 : decode cX2_work 89 = .ok (.iload 6, 2) := by decide +kernel
theorem dX2_work_91 : decode cX2_work 91 = .ok (.ireturn, 1) := by decide +kernel
set_option maxRecDepth 20000 in
theorem ggX2_ahead_X2_siteAt : GoodIn wsX2_ahead wsX2_siteAt := goodIn_ca (goodIn_r _ [6, 7, 8, 9, 19, 20, 21, 22, 23] (by decide +kernel) (by decide +kernel)) (goodIn_sub (fun _ h => List.mem_cons_of_mem _ (List.mem_append_right _ h)) (by decide +kernel))
set_option maxRecDepth 20000 in
theorem gX2_ahead_X2_siteAt : GoodIn wsX2_ahead (wsV RX2 33 RX2 yX2_siteAt wsX2_siteAt) := goodIn_app (goodIn_of _ (by decide +kernel)) ggX2_ahead_X2_siteAt
theorem dX2_ahead_0 : decode cX2_ahead 0 = .ok (.aload_n 0, 1) := by decide +kernel
theorem dX2_ahead_1 : decode cX2_ahead 1 = .ok (.iload_n 1, 1) := by decide +kernel
theorem dX2_ahead_2 : decode cX2_ahead 2 = .ok (.invokevirtual 33, 3) := by decide +kernel
theorem dX2_ahead_5 : decode cX2_ahead 5 = .ok (.getfield 145, 3) := by decide +kernel
theorem dX2_ahead_8 : decode cX2_ahead 8 = .ok (.ireturn, 1) := by decide +kernel
set_option maxRecDepth 20000 in
theorem ggX2_owes_X2_siteAt : GoodIn wsX2_owes wsX2_siteAt := goodIn_ca (goodIn_r _ [6, 7, 8, 9, 19, 20, 21, 22, 23] (by decide +kernel) (by decide +kernel)) (goodIn_sub (fun _ h => List.mem_cons_of_mem _ (List.mem_append_right _ h)) (by decide +kernel))
set_option maxRecDepth 20000 in
theorem gX2_owes_X2_siteAt : GoodIn wsX2_owes (wsV RX2 33 RX2 yX2_siteAt wsX2_siteAt) := goodIn_app (goodIn_of _ (by decide +kernel)) ggX2_owes_X2_siteAt
theorem dX2_owes_0 : decode cX2_owes 0 = .ok (.aload_n 0, 1) := by decide +kernel
theorem dX2_owes_1 : decode cX2_owes 1 = .ok (.iload_n 1, 1) := by decide +kernel
theorem dX2_owes_2 : decode cX2_owes 2 = .ok (.invokevirtual 33, 3) := by decide +kernel
theorem dX2_owes_5 : decode cX2_owes 5 = .ok (.getfield 148, 3) := by decide +kernel
theorem dX2_owes_8 : decode cX2_owes 8 = .ok (.ireturn, 1) := by decide +kernel
theorem dX2_siteAt_0 : decode cX2_siteAt 0 = .ok (.iload_n 1, 1) := by decide +kernel
theorem dX2_siteAt_1 : decode cX2_siteAt 1 = .ok (.ifCond .lt 17, 3) := by decide +kernel
theorem dX2_siteAt_4 : decode cX2_siteAt 4 = .ok (.iload_n 1, 1) := by decide +kernel
theorem dX2_siteAt_5 : decode cX2_siteAt 5 = .ok (.iconst 4, 1) := by decide +kernel
theorem dX2_siteAt_6 : decode cX2_siteAt 6 = .ok (.if_icmp .ge 12, 3) := by decide +kernel
theorem dX2_siteAt_9 : decode cX2_siteAt 9 = .ok (.aload_n 0, 1) := by decide +kernel
theorem dX2_siteAt_10 : decode cX2_siteAt 10 = .ok (.getfield 11, 3) := by decide +kernel
theorem dX2_siteAt_13 : decode cX2_siteAt 13 = .ok (.iload_n 1, 1) := by decide +kernel
theorem dX2_siteAt_14 : decode cX2_siteAt 14 = .ok (.aaload, 1) := by decide +kernel
theorem dX2_siteAt_15 : decode cX2_siteAt 15 = .ok (.goto 4, 3) := by decide +kernel
theorem dX2_siteAt_18 : decode cX2_siteAt 18 = .ok (.aconst_null, 1) := by decide +kernel
theorem dX2_siteAt_19 : decode cX2_siteAt 19 = .ok (.astore_n 2, 1) := by decide +kernel
theorem dX2_siteAt_20 : decode cX2_siteAt 20 = .ok (.aload_n 2, 1) := by decide +kernel
theorem dX2_siteAt_21 : decode cX2_siteAt 21 = .ok (.ifnonnull 13, 3) := by decide +kernel
theorem dX2_siteAt_24 : decode cX2_siteAt 24 = .ok (.new 155, 3) := by decide +kernel
theorem dX2_siteAt_27 : decode cX2_siteAt 27 = .ok (.dup, 1) := by decide +kernel
theorem dX2_siteAt_28 : decode cX2_siteAt 28 = .ok (.ldc 157, 2) := by decide +kernel
theorem dX2_siteAt_30 : decode cX2_siteAt 30 = .ok (.invokespecial 159, 3) := by decide +kernel
theorem dX2_siteAt_33 : decode cX2_siteAt 33 = .ok (.athrow, 1) := by decide +kernel
theorem dX2_siteAt_34 : decode cX2_siteAt 34 = .ok (.aload_n 2, 1) := by decide +kernel
theorem dX2_siteAt_35 : decode cX2_siteAt 35 = .ok (.areturn, 1) := by decide +kernel
theorem dX2_caseAt_0 : decode cX2_caseAt 0 = .ok (.iload_n 1, 1) := by decide +kernel
theorem dX2_caseAt_1 : decode cX2_caseAt 1 = .ok (.ifCond .lt 18, 3) := by decide +kernel
theorem dX2_caseAt_4 : decode cX2_caseAt 4 = .ok (.iload_n 1, 1) := by decide +kernel
theorem dX2_caseAt_5 : decode cX2_caseAt 5 = .ok (.bipush 40, 2) := by decide +kernel
theorem dX2_caseAt_7 : decode cX2_caseAt 7 = .ok (.if_icmp .ge 12, 3) := by decide +kernel
theorem dX2_caseAt_10 : decode cX2_caseAt 10 = .ok (.aload_n 0, 1) := by decide +kernel
theorem dX2_caseAt_11 : decode cX2_caseAt 11 = .ok (.getfield 21, 3) := by decide +kernel
theorem dX2_caseAt_14 : decode cX2_caseAt 14 = .ok (.iload_n 1, 1) := by decide +kernel
theorem dX2_caseAt_15 : decode cX2_caseAt 15 = .ok (.aaload, 1) := by decide +kernel
theorem dX2_caseAt_16 : decode cX2_caseAt 16 = .ok (.goto 4, 3) := by decide +kernel
theorem dX2_caseAt_19 : decode cX2_caseAt 19 = .ok (.aconst_null, 1) := by decide +kernel
theorem dX2_caseAt_20 : decode cX2_caseAt 20 = .ok (.astore_n 2, 1) := by decide +kernel
theorem dX2_caseAt_21 : decode cX2_caseAt 21 = .ok (.aload_n 2, 1) := by decide +kernel
theorem dX2_caseAt_22 : decode cX2_caseAt 22 = .ok (.ifnonnull 13, 3) := by decide +kernel
theorem dX2_caseAt_25 : decode cX2_caseAt 25 = .ok (.new 155, 3) := by decide +kernel
theorem dX2_caseAt_28 : decode cX2_caseAt 28 = .ok (.dup, 1) := by decide +kernel
theorem dX2_caseAt_29 : decode cX2_caseAt 29 = .ok (.ldc 162, 2) := by decide +kernel
theorem dX2_caseAt_31 : decode cX2_caseAt 31 = .ok (.invokespecial 159, 3) := by decide +kernel
theorem dX2_caseAt_34 : decode cX2_caseAt 34 = .ok (.athrow, 1) := by decide +kernel
theorem dX2_caseAt_35 : decode cX2_caseAt 35 = .ok (.aload_n 2, 1) := by decide +kernel
theorem dX2_caseAt_36 : decode cX2_caseAt 36 = .ok (.areturn, 1) := by decide +kernel
theorem dX2_checkKind_0 : decode cX2_checkKind 0 = .ok (.iload_n 0, 1) := by decide +kernel
theorem dX2_checkKind_1 : decode cX2_checkKind 1 = .ok (.ifCond .lt 8, 3) := by decide +kernel
theorem dX2_checkKind_4 : decode cX2_checkKind 4 = .ok (.iload_n 0, 1) := by decide +kernel
theorem dX2_checkKind_5 : decode cX2_checkKind 5 = .ok (.iconst 4, 1) := by decide +kernel
theorem dX2_checkKind_6 : decode cX2_checkKind 6 = .ok (.if_icmp .lt 13, 3) := by decide +kernel
theorem dX2_checkKind_9 : decode cX2_checkKind 9 = .ok (.new 155, 3) := by decide +kernel
theorem dX2_checkKind_12 : decode cX2_checkKind 12 = .ok (.dup, 1) := by decide +kernel
theorem dX2_checkKind_13 : decode cX2_checkKind 13 = .ok (.ldc 164, 2) := by decide +kernel
theorem dX2_checkKind_15 : decode cX2_checkKind 15 = .ok (.invokespecial 159, 3) := by decide +kernel
theorem dX2_checkKind_18 : decode cX2_checkKind 18 = .ok (.athrow, 1) := by decide +kernel
theorem dX2_checkKind_19 : decode cX2_checkKind 19 = .ok (.return_, 1) := by decide +kernel
set_option maxRecDepth 20000 in
theorem ggX2_checkRange_X2_checkArgument : GoodIn wsX2_checkRange wsX2_checkArgument := goodIn_ca (goodIn_r _ [4, 5, 6] (by decide +kernel) (by decide +kernel)) (goodIn_sub (fun _ h => List.mem_cons_of_mem _ (List.mem_append_right _ h)) (by decide +kernel))
set_option maxRecDepth 20000 in
theorem gX2_checkRange_X2_checkArgument : GoodIn wsX2_checkRange (va_wsS RX2 116 yX2_checkArgument wsX2_checkArgument) := goodIn_app (goodIn_of _ (by decide +kernel)) ggX2_checkRange_X2_checkArgument
theorem dX2_checkRange_0 : decode cX2_checkRange 0 = .ok (.iload_n 1, 1) := by decide +kernel
theorem dX2_checkRange_1 : decode cX2_checkRange 1 = .ok (.iload_n 0, 1) := by decide +kernel
theorem dX2_checkRange_2 : decode cX2_checkRange 2 = .ok (.if_icmp .gt 12, 3) := by decide +kernel
theorem dX2_checkRange_5 : decode cX2_checkRange 5 = .ok (.iload_n 0, 1) := by decide +kernel
theorem dX2_checkRange_6 : decode cX2_checkRange 6 = .ok (.iload_n 2, 1) := by decide +kernel
theorem dX2_checkRange_7 : decode cX2_checkRange 7 = .ok (.if_icmp .gt 7, 3) := by decide +kernel
theorem dX2_checkRange_10 : decode cX2_checkRange 10 = .ok (.iconst 1, 1) := by decide +kernel
theorem dX2_checkRange_11 : decode cX2_checkRange 11 = .ok (.goto 4, 3) := by decide +kernel
theorem dX2_checkRange_14 : decode cX2_checkRange 14 = .ok (.iconst 0, 1) := by decide +kernel
theorem dX2_checkRange_15 : decode cX2_checkRange 15 = .ok (.invokestatic 116, 3) := by decide +kernel
theorem dX2_checkRange_18 : decode cX2_checkRange 18 = .ok (.return_, 1) := by decide +kernel
theorem dX2_checkArgument_0 : decode cX2_checkArgument 0 = .ok (.iload_n 0, 1) := by decide +kernel
theorem dX2_checkArgument_1 : decode cX2_checkArgument 1 = .ok (.ifCond .ne 13, 3) := by decide +kernel
theorem dX2_checkArgument_4 : decode cX2_checkArgument 4 = .ok (.new 166, 3) := by decide +kernel
theorem dX2_checkArgument_7 : decode cX2_checkArgument 7 = .ok (.dup, 1) := by decide +kernel
theorem dX2_checkArgument_8 : decode cX2_checkArgument 8 = .ok (.ldc 168, 2) := by decide +kernel
theorem dX2_checkArgument_10 : decode cX2_checkArgument 10 = .ok (.invokespecial 170, 3) := by decide +kernel
theorem dX2_checkArgument_13 : decode cX2_checkArgument 13 = .ok (.athrow, 1) := by decide +kernel
theorem dX2_checkArgument_14 : decode cX2_checkArgument 14 = .ok (.return_, 1) := by decide +kernel
theorem dX2_checkState_0 : decode cX2_checkState 0 = .ok (.iload_n 0, 1) := by decide +kernel
theorem dX2_checkState_1 : decode cX2_checkState 1 = .ok (.ifCond .ne 13, 3) := by decide +kernel
theorem dX2_checkState_4 : decode cX2_checkState 4 = .ok (.new 171, 3) := by decide +kernel
theorem dX2_checkState_7 : decode cX2_checkState 7 = .ok (.dup, 1) := by decide +kernel
theorem dX2_checkState_8 : decode cX2_checkState 8 = .ok (.ldc 173, 2) := by decide +kernel
theorem dX2_checkState_10 : decode cX2_checkState 10 = .ok (.invokespecial 175, 3) := by decide +kernel
theorem dX2_checkState_13 : decode cX2_checkState 13 = .ok (.athrow, 1) := by decide +kernel
theorem dX2_checkState_14 : decode cX2_checkState 14 = .ok (.return_, 1) := by decide +kernel
theorem dX2_promiseFor_0 : decode cX2_promiseFor 0 = .ok (.aload_n 0, 1) := by decide +kernel
theorem dX2_promiseFor_1 : decode cX2_promiseFor 1 = .ok (.getfield 15, 3) := by decide +kernel
theorem dX2_promiseFor_4 : decode cX2_promiseFor 4 = .ok (.aload_n 1, 1) := by decide +kernel
theorem dX2_promiseFor_5 : decode cX2_promiseFor 5 = .ok (.getfield 109, 3) := by decide +kernel
theorem dX2_promiseFor_8 : decode cX2_promiseFor 8 = .ok (.iconst 3, 1) := by decide +kernel
theorem dX2_promiseFor_9 : decode cX2_promiseFor 9 = .ok (.imul, 1) := by decide +kernel
theorem dX2_promiseFor_10 : decode cX2_promiseFor 10 = .ok (.iload_n 2, 1) := by decide +kernel
theorem dX2_promiseFor_11 : decode cX2_promiseFor 11 = .ok (.iadd, 1) := by decide +kernel
theorem dX2_promiseFor_12 : decode cX2_promiseFor 12 = .ok (.iaload, 1) := by decide +kernel
theorem dX2_promiseFor_13 : decode cX2_promiseFor 13 = .ok (.ireturn, 1) := by decide +kernel
set_option maxRecDepth 20000 in
theorem ggX2_misses_X2_promiseFor : GoodIn wsX2_misses wsX2_promiseFor := goodIn_r _ [6, 7, 8, 17, 18, 19, 20, 21, 9, 10, 11, 12, 13, 14, 15, 16] (by decide +kernel) (by decide +kernel)
set_option maxRecDepth 20000 in
theorem gX2_misses_X2_promiseFor : GoodIn wsX2_misses (wsV RX2 176 RX2 yX2_promiseFor wsX2_promiseFor) := goodIn_app (goodIn_of _ (by decide +kernel)) ggX2_misses_X2_promiseFor
theorem dX2_misses_0 : decode cX2_misses 0 = .ok (.aload_n 1, 1) := by decide +kernel
theorem dX2_misses_1 : decode cX2_misses 1 = .ok (.getfield 131, 3) := by decide +kernel
theorem dX2_misses_4 : decode cX2_misses 4 = .ok (.iload_n 2, 1) := by decide +kernel
theorem dX2_misses_5 : decode cX2_misses 5 = .ok (.iaload, 1) := by decide +kernel
theorem dX2_misses_6 : decode cX2_misses 6 = .ok (.aload_n 0, 1) := by decide +kernel
theorem dX2_misses_7 : decode cX2_misses 7 = .ok (.aload_n 1, 1) := by decide +kernel
theorem dX2_misses_8 : decode cX2_misses 8 = .ok (.iload_n 2, 1) := by decide +kernel
theorem dX2_misses_9 : decode cX2_misses 9 = .ok (.invokevirtual 176, 3) := by decide +kernel
theorem dX2_misses_12 : decode cX2_misses 12 = .ok (.if_icmp .le 7, 3) := by decide +kernel
theorem dX2_misses_15 : decode cX2_misses 15 = .ok (.iconst 1, 1) := by decide +kernel
theorem dX2_misses_16 : decode cX2_misses 16 = .ok (.goto 4, 3) := by decide +kernel
theorem dX2_misses_19 : decode cX2_misses 19 = .ok (.iconst 0, 1) := by decide +kernel
theorem dX2_misses_20 : decode cX2_misses 20 = .ok (.ireturn, 1) := by decide +kernel
set_option maxRecDepth 20000 in
theorem ggX2_countMissedOfReached_X0_hasReached : GoodIn wsX2_countMissedOfReached wsX0_hasReached := goodIn_r _ [5, 6, 19, 20, 21, 22, 23, 24, 25, 26] (by decide +kernel) (by decide +kernel)
set_option maxRecDepth 20000 in
theorem gX2_countMissedOfReached_X0_hasReached : GoodIn wsX2_countMissedOfReached (wsV RX2 91 RX0 yX0_hasReached wsX0_hasReached) := goodIn_app (goodIn_of _ (by decide +kernel)) ggX2_countMissedOfReached_X0_hasReached
set_option maxRecDepth 20000 in
theorem ggX2_countMissedOfReached_X2_misses : GoodIn wsX2_countMissedOfReached wsX2_misses := goodIn_r _ [11, 12, 13, 14, 15, 10, 16, 17, 18, 19, 20, 21, 22, 23, 24, 25, 26, 27, 28, 29, 30, 31] (by decide +kernel) (by decide +kernel)
set_option maxRecDepth 20000 in
theorem gX2_countMissedOfReached_X2_misses : GoodIn wsX2_countMissedOfReached (wsV RX2 134 RX2 yX2_misses wsX2_misses) := goodIn_app (goodIn_of _ (by decide +kernel)) ggX2_countMissedOfReached_X2_misses
theorem dX2_countMissedOfReached_0 : decode cX2_countMissedOfReached 0 = .ok (.iconst 0, 1) := by decide +kernel
theorem dX2_countMissedOfReached_1 : decode cX2_countMissedOfReached 1 = .ok (.istore_n 2, 1) := by decide +kernel
theorem dX2_countMissedOfReached_2 : decode cX2_countMissedOfReached 2 = .ok (.iconst 0, 1) := by decide +kernel
theorem dX2_countMissedOfReached_3 : decode cX2_countMissedOfReached 3 = .ok (.istore_n 3, 1) := by decide +kernel
theorem dX2_countMissedOfReached_4 : decode cX2_countMissedOfReached 4 = .ok (.iload_n 3, 1) := by decide +kernel
theorem dX2_countMissedOfReached_5 : decode cX2_countMissedOfReached 5 = .ok (.iconst 2, 1) := by decide +kernel
theorem dX2_countMissedOfReached_6 : decode cX2_countMissedOfReached 6 = .ok (.if_icmp .gt 29, 3) := by decide +kernel
theorem dX2_countMissedOfReached_9 : decode cX2_countMissedOfReached 9 = .ok (.aload_n 1, 1) := by decide +kernel
theorem dX2_countMissedOfReached_10 : decode cX2_countMissedOfReached 10 = .ok (.iload_n 3, 1) := by decide +kernel
theorem dX2_countMissedOfReached_11 : decode cX2_countMissedOfReached 11 = .ok (.invokevirtual 91, 3) := by decide +kernel
theorem dX2_countMissedOfReached_14 : decode cX2_countMissedOfReached 14 = .ok (.ifCond .eq 15, 3) := by decide +kernel
theorem dX2_countMissedOfReached_17 : decode cX2_countMissedOfReached 17 = .ok (.aload_n 0, 1) := by decide +kernel
theorem dX2_countMissedOfReached_18 : decode cX2_countMissedOfReached 18 = .ok (.aload_n 1, 1) := by decide +kernel
theorem dX2_countMissedOfReached_19 : decode cX2_countMissedOfReached 19 = .ok (.iload_n 3, 1) := by decide +kernel
theorem dX2_countMissedOfReached_20 : decode cX2_countMissedOfReached 20 = .ok (.invokevirtual 134, 3) := by decide +kernel
theorem dX2_countMissedOfReached_23 : decode cX2_countMissedOfReached 23 = .ok (.ifCond .eq 6, 3) := by decide +kernel
theorem dX2_countMissedOfReached_26 : decode cX2_countMissedOfReached 26 = .ok (.iinc 2 1, 3) := by decide +kernel
theorem dX2_countMissedOfReached_29 : decode cX2_countMissedOfReached 29 = .ok (.iinc 3 1, 3) := by decide +kernel
theorem dX2_countMissedOfReached_32 : decode cX2_countMissedOfReached 32 = .ok (.goto (-28), 3) := by decide +kernel
theorem dX2_countMissedOfReached_35 : decode cX2_countMissedOfReached 35 = .ok (.iload_n 2, 1) := by decide +kernel
theorem dX2_countMissedOfReached_36 : decode cX2_countMissedOfReached 36 = .ok (.ireturn, 1) := by decide +kernel
set_option maxRecDepth 20000 in
theorem ggX2_greatestStep_X2_stepOfStage : GoodIn wsX2_greatestStep wsX2_stepOfStage := goodIn_r _ [9, 10, 11, 12, 13, 14, 15, 16, 17, 18, 19, 8, 20, 21, 22, 23, 24, 25, 26, 27, 28, 29, 30, 31, 32, 33, 34, 35] (by decide +kernel) (by decide +kernel)
set_option maxRecDepth 20000 in
theorem gX2_greatestStep_X2_stepOfStage : GoodIn wsX2_greatestStep (wsV RX2 180 RX2 yX2_stepOfStage wsX2_stepOfStage) := goodIn_app (goodIn_of _ (by decide +kernel)) ggX2_greatestStep_X2_stepOfStage
theorem dX2_greatestStep_0 : decode cX2_greatestStep 0 = .ok (.iconst 0, 1) := by decide +kernel
theorem dX2_greatestStep_1 : decode cX2_greatestStep 1 = .ok (.istore_n 2, 1) := by decide +kernel
theorem dX2_greatestStep_2 : decode cX2_greatestStep 2 = .ok (.iconst 0, 1) := by decide +kernel
theorem dX2_greatestStep_3 : decode cX2_greatestStep 3 = .ok (.istore_n 3, 1) := by decide +kernel
theorem dX2_greatestStep_4 : decode cX2_greatestStep 4 = .ok (.iload_n 3, 1) := by decide +kernel
theorem dX2_greatestStep_5 : decode cX2_greatestStep 5 = .ok (.iconst 2, 1) := by decide +kernel
theorem dX2_greatestStep_6 : decode cX2_greatestStep 6 = .ok (.if_icmp .gt 20, 3) := by decide +kernel
theorem dX2_greatestStep_9 : decode cX2_greatestStep 9 = .ok (.iload_n 2, 1) := by decide +kernel
theorem dX2_greatestStep_10 : decode cX2_greatestStep 10 = .ok (.aload_n 0, 1) := by decide +kernel
theorem dX2_greatestStep_11 : decode cX2_greatestStep 11 = .ok (.aload_n 1, 1) := by decide +kernel
theorem dX2_greatestStep_12 : decode cX2_greatestStep 12 = .ok (.iload_n 3, 1) := by decide +kernel
theorem dX2_greatestStep_13 : decode cX2_greatestStep 13 = .ok (.invokevirtual 180, 3) := by decide +kernel
theorem dX2_greatestStep_16 : decode cX2_greatestStep 16 = .ok (.invokestatic 183, 3) := by decide +kernel
theorem dX2_greatestStep_19 : decode cX2_greatestStep 19 = .ok (.istore_n 2, 1) := by decide +kernel
theorem dX2_greatestStep_20 : decode cX2_greatestStep 20 = .ok (.iinc 3 1, 3) := by decide +kernel
theorem dX2_greatestStep_23 : decode cX2_greatestStep 23 = .ok (.goto (-19), 3) := by decide +kernel
theorem dX2_greatestStep_26 : decode cX2_greatestStep 26 = .ok (.iload_n 2, 1) := by decide +kernel
theorem dX2_greatestStep_27 : decode cX2_greatestStep 27 = .ok (.ireturn, 1) := by decide +kernel
set_option maxRecDepth 20000 in
theorem ggX2_stepOfStage_X0_hasReached : GoodIn wsX2_stepOfStage wsX0_hasReached := goodIn_r _ [6, 7, 15, 16, 17, 18, 19, 20, 21, 22] (by decide +kernel) (by decide +kernel)
set_option maxRecDepth 20000 in
theorem gX2_stepOfStage_X0_hasReached : GoodIn wsX2_stepOfStage (wsV RX2 91 RX0 yX0_hasReached wsX0_hasReached) := goodIn_app (goodIn_of _ (by decide +kernel)) ggX2_stepOfStage_X0_hasReached
set_option maxRecDepth 20000 in
theorem ggX2_stepOfStage_X2_promiseFor : GoodIn wsX2_stepOfStage wsX2_promiseFor := goodIn_r _ [12, 13, 14, 23, 24, 25, 26, 27, 15, 16, 17, 18, 19, 20, 21, 22] (by decide +kernel) (by decide +kernel)
set_option maxRecDepth 20000 in
theorem gX2_stepOfStage_X2_promiseFor : GoodIn wsX2_stepOfStage (wsV RX2 176 RX2 yX2_promiseFor wsX2_promiseFor) := goodIn_app (goodIn_of _ (by decide +kernel)) ggX2_stepOfStage_X2_promiseFor
theorem dX2_stepOfStage_0 : decode cX2_stepOfStage 0 = .ok (.aload_n 1, 1) := by decide +kernel
theorem dX2_stepOfStage_1 : decode cX2_stepOfStage 1 = .ok (.iload_n 2, 1) := by decide +kernel
theorem dX2_stepOfStage_2 : decode cX2_stepOfStage 2 = .ok (.invokevirtual 91, 3) := by decide +kernel
theorem dX2_stepOfStage_5 : decode cX2_stepOfStage 5 = .ok (.ifCond .eq 5, 3) := by decide +kernel
theorem dX2_stepOfStage_8 : decode cX2_stepOfStage 8 = .ok (.iconst 0, 1) := by decide +kernel
theorem dX2_stepOfStage_9 : decode cX2_stepOfStage 9 = .ok (.ireturn, 1) := by decide +kernel
theorem dX2_stepOfStage_10 : decode cX2_stepOfStage 10 = .ok (.bipush 100, 2) := by decide +kernel
theorem dX2_stepOfStage_12 : decode cX2_stepOfStage 12 = .ok (.aload_n 1, 1) := by decide +kernel
theorem dX2_stepOfStage_13 : decode cX2_stepOfStage 13 = .ok (.getfield 131, 3) := by decide +kernel
theorem dX2_stepOfStage_16 : decode cX2_stepOfStage 16 = .ok (.iload_n 2, 1) := by decide +kernel
theorem dX2_stepOfStage_17 : decode cX2_stepOfStage 17 = .ok (.iaload, 1) := by decide +kernel
theorem dX2_stepOfStage_18 : decode cX2_stepOfStage 18 = .ok (.imul, 1) := by decide +kernel
theorem dX2_stepOfStage_19 : decode cX2_stepOfStage 19 = .ok (.istore_n 3, 1) := by decide +kernel
theorem dX2_stepOfStage_20 : decode cX2_stepOfStage 20 = .ok (.aload_n 0, 1) := by decide +kernel
theorem dX2_stepOfStage_21 : decode cX2_stepOfStage 21 = .ok (.aload_n 1, 1) := by decide +kernel
theorem dX2_stepOfStage_22 : decode cX2_stepOfStage 22 = .ok (.iload_n 2, 1) := by decide +kernel
theorem dX2_stepOfStage_23 : decode cX2_stepOfStage 23 = .ok (.invokevirtual 176, 3) := by decide +kernel
theorem dX2_stepOfStage_26 : decode cX2_stepOfStage 26 = .ok (.istore 4, 2) := by decide +kernel
theorem dX2_stepOfStage_28 : decode cX2_stepOfStage 28 = .ok (.iload_n 3, 1) := by decide +kernel
theorem dX2_stepOfStage_29 : decode cX2_stepOfStage 29 = .ok (.bipush 100, 2) := by decide +kernel
theorem dX2_stepOfStage_31 : decode cX2_stepOfStage 31 = .ok (.iload 4, 2) := by decide +kernel
theorem dX2_stepOfStage_33 : decode cX2_stepOfStage 33 = .ok (.imul, 1) := by decide +kernel
theorem dX2_stepOfStage_34 : decode cX2_stepOfStage 34 = .ok (.if_icmp .le 5, 3) := by decide +kernel
theorem dX2_stepOfStage_37 : decode cX2_stepOfStage 37 = .ok (.iconst 3, 1) := by decide +kernel
theorem dX2_stepOfStage_38 : decode cX2_stepOfStage 38 = .ok (.ireturn, 1) := by decide +kernel
theorem dX2_stepOfStage_39 : decode cX2_stepOfStage 39 = .ok (.iload_n 3, 1) := by decide +kernel
theorem dX2_stepOfStage_40 : decode cX2_stepOfStage 40 = .ok (.bipush 75, 2) := by decide +kernel
theorem dX2_stepOfStage_42 : decode cX2_stepOfStage 42 = .ok (.iload 4, 2) := by decide +kernel
theorem dX2_stepOfStage_44 : decode cX2_stepOfStage 44 = .ok (.imul, 1) := by decide +kernel
theorem dX2_stepOfStage_45 : decode cX2_stepOfStage 45 = .ok (.if_icmp .lt 5, 3) := by decide +kernel
theorem dX2_stepOfStage_48 : decode cX2_stepOfStage 48 = .ok (.iconst 2, 1) := by decide +kernel
theorem dX2_stepOfStage_49 : decode cX2_stepOfStage 49 = .ok (.ireturn, 1) := by decide +kernel
theorem dX2_stepOfStage_50 : decode cX2_stepOfStage 50 = .ok (.iload_n 3, 1) := by decide +kernel
theorem dX2_stepOfStage_51 : decode cX2_stepOfStage 51 = .ok (.bipush 50, 2) := by decide +kernel
theorem dX2_stepOfStage_53 : decode cX2_stepOfStage 53 = .ok (.iload 4, 2) := by decide +kernel
theorem dX2_stepOfStage_55 : decode cX2_stepOfStage 55 = .ok (.imul, 1) := by decide +kernel
theorem dX2_stepOfStage_56 : decode cX2_stepOfStage 56 = .ok (.if_icmp .lt 7, 3) := by decide +kernel
theorem dX2_stepOfStage_59 : decode cX2_stepOfStage 59 = .ok (.iconst 1, 1) := by decide +kernel
theorem dX2_stepOfStage_60 : decode cX2_stepOfStage 60 = .ok (.goto 4, 3) := by decide +kernel
theorem dX2_stepOfStage_63 : decode cX2_stepOfStage 63 = .ok (.iconst 0, 1) := by decide +kernel
theorem dX2_stepOfStage_64 : decode cX2_stepOfStage 64 = .ok (.ireturn, 1) := by decide +kernel
set_option maxRecDepth 20000 in
theorem ggX2_isCoveredToday_X1_covers : GoodIn wsX2_isCoveredToday wsX1_covers := goodIn_r _ [8, 9, 10, 11, 12, 26, 27, 28, 29, 30, 31, 32, 33, 34] (by decide +kernel) (by decide +kernel)
set_option maxRecDepth 20000 in
theorem gX2_isCoveredToday_X1_covers : GoodIn wsX2_isCoveredToday (wsV RX2 65 RX1 yX1_covers wsX1_covers) := goodIn_app (goodIn_of _ (by decide +kernel)) ggX2_isCoveredToday_X1_covers
theorem dX2_isCoveredToday_0 : decode cX2_isCoveredToday 0 = .ok (.aload_n 1, 1) := by decide +kernel
theorem dX2_isCoveredToday_1 : decode cX2_isCoveredToday 1 = .ok (.getfield 112, 3) := by decide +kernel
theorem dX2_isCoveredToday_4 : decode cX2_isCoveredToday 4 = .ok (.aload_n 1, 1) := by decide +kernel
theorem dX2_isCoveredToday_5 : decode cX2_isCoveredToday 5 = .ok (.getfield 186, 3) := by decide +kernel
theorem dX2_isCoveredToday_8 : decode cX2_isCoveredToday 8 = .ok (.aload_n 0, 1) := by decide +kernel
theorem dX2_isCoveredToday_9 : decode cX2_isCoveredToday 9 = .ok (.getfield 29, 3) := by decide +kernel
theorem dX2_isCoveredToday_12 : decode cX2_isCoveredToday 12 = .ok (.bipush 24, 2) := by decide +kernel
theorem dX2_isCoveredToday_14 : decode cX2_isCoveredToday 14 = .ok (.idiv, 1) := by decide +kernel
theorem dX2_isCoveredToday_15 : decode cX2_isCoveredToday 15 = .ok (.invokevirtual 65, 3) := by decide +kernel
theorem dX2_isCoveredToday_18 : decode cX2_isCoveredToday 18 = .ok (.ireturn, 1) := by decide +kernel
set_option maxRecDepth 20000 in
theorem ggX2_closeMended_X0_isJoinedTo : GoodIn wsX2_closeMended wsX0_isJoinedTo := goodIn_r _ [9, 10, 11, 28, 29, 30, 31, 32, 33, 34, 35] (by decide +kernel) (by decide +kernel)
set_option maxRecDepth 20000 in
theorem gX2_closeMended_X0_isJoinedTo : GoodIn wsX2_closeMended (wsV RX2 189 RX0 yX0_isJoinedTo wsX0_isJoinedTo) := goodIn_app (goodIn_of _ (by decide +kernel)) ggX2_closeMended_X0_isJoinedTo
set_option maxRecDepth 20000 in
theorem ggX2_closeMended_X2_isCoveredToday : GoodIn wsX2_closeMended wsX2_isCoveredToday := goodIn_r _ [16, 3, 17, 18, 19, 20, 21, 22, 23, 24, 25, 26, 27, 28, 29, 30, 31, 32, 33, 34, 35, 36, 37, 38, 39, 40, 41, 42, 43, 44, 45, 46, 47, 48, 49] (by decide +kernel) (by decide +kernel)
set_option maxRecDepth 20000 in
theorem gX2_closeMended_X2_isCoveredToday : GoodIn wsX2_closeMended (wsV RX2 151 RX2 yX2_isCoveredToday wsX2_isCoveredToday) := goodIn_app (goodIn_of _ (by decide +kernel)) ggX2_closeMended_X2_isCoveredToday
theorem dX2_closeMended_0 : decode cX2_closeMended 0 = .ok (.aload_n 1, 1) := by decide +kernel
theorem dX2_closeMended_1 : decode cX2_closeMended 1 = .ok (.iconst 2, 1) := by decide +kernel
theorem dX2_closeMended_2 : decode cX2_closeMended 2 = .ok (.putfield 88, 3) := by decide +kernel
theorem dX2_closeMended_5 : decode cX2_closeMended 5 = .ok (.aload_n 0, 1) := by decide +kernel
theorem dX2_closeMended_6 : decode cX2_closeMended 6 = .ok (.getfield 21, 3) := by decide +kernel
theorem dX2_closeMended_9 : decode cX2_closeMended 9 = .ok (.astore_n 3, 1) := by decide +kernel
theorem dX2_closeMended_10 : decode cX2_closeMended 10 = .ok (.aload_n 3, 1) := by decide +kernel
theorem dX2_closeMended_11 : decode cX2_closeMended 11 = .ok (.arraylength, 1) := by decide +kernel
theorem dX2_closeMended_12 : decode cX2_closeMended 12 = .ok (.istore 4, 2) := by decide +kernel
theorem dX2_closeMended_14 : decode cX2_closeMended 14 = .ok (.iconst 0, 1) := by decide +kernel
theorem dX2_closeMended_15 : decode cX2_closeMended 15 = .ok (.istore 5, 2) := by decide +kernel
theorem dX2_closeMended_17 : decode cX2_closeMended 17 = .ok (.iload 5, 2) := by decide +kernel
theorem dX2_closeMended_19 : decode cX2_closeMended 19 = .ok (.iload 4, 2) := by decide +kernel
theorem dX2_closeMended_21 : decode cX2_closeMended 21 = .ok (.if_icmp .ge 35, 3) := by decide +kernel
theorem dX2_closeMended_24 : decode cX2_closeMended 24 = .ok (.aload_n 3, 1) := by decide +kernel
theorem dX2_closeMended_25 : decode cX2_closeMended 25 = .ok (.iload 5, 2) := by decide +kernel
theorem dX2_closeMended_27 : decode cX2_closeMended 27 = .ok (.aaload, 1) := by decide +kernel
theorem dX2_closeMended_28 : decode cX2_closeMended 28 = .ok (.astore 6, 2) := by decide +kernel
theorem dX2_closeMended_30 : decode cX2_closeMended 30 = .ok (.aload 6, 2) := by decide +kernel
theorem dX2_closeMended_32 : decode cX2_closeMended 32 = .ok (.ifnull 18, 3) := by decide +kernel
theorem dX2_closeMended_35 : decode cX2_closeMended 35 = .ok (.aload 6, 2) := by decide +kernel
theorem dX2_closeMended_37 : decode cX2_closeMended 37 = .ok (.aload_n 1, 1) := by decide +kernel
theorem dX2_closeMended_38 : decode cX2_closeMended 38 = .ok (.invokevirtual 189, 3) := by decide +kernel
theorem dX2_closeMended_41 : decode cX2_closeMended 41 = .ok (.ifCond .eq 9, 3) := by decide +kernel
theorem dX2_closeMended_44 : decode cX2_closeMended 44 = .ok (.aload 6, 2) := by decide +kernel
theorem dX2_closeMended_46 : decode cX2_closeMended 46 = .ok (.iconst 2, 1) := by decide +kernel
theorem dX2_closeMended_47 : decode cX2_closeMended 47 = .ok (.putfield 88, 3) := by decide +kernel
theorem dX2_closeMended_50 : decode cX2_closeMended 50 = .ok (.iinc 5 1, 3) := by decide +kernel
theorem dX2_closeMended_53 : decode cX2_closeMended 53 = .ok (.goto (-36), 3) := by decide +kernel
theorem dX2_closeMended_56 : decode cX2_closeMended 56 = .ok (.aload_n 0, 1) := by decide +kernel
theorem dX2_closeMended_57 : decode cX2_closeMended 57 = .ok (.aload_n 1, 1) := by decide +kernel
theorem dX2_closeMended_58 : decode cX2_closeMended 58 = .ok (.invokevirtual 151, 3) := by decide +kernel
theorem dX2_closeMended_61 : decode cX2_closeMended 61 = .ok (.ifCond .eq 20, 3) := by decide +kernel
theorem dX2_closeMended_64 : decode cX2_closeMended 64 = .ok (.aload_n 1, 1) := by decide +kernel
theorem dX2_closeMended_65 : decode cX2_closeMended 65 = .ok (.getfield 112, 3) := by decide +kernel
theorem dX2_closeMended_68 : decode cX2_closeMended 68 = .ok (.dup, 1) := by decide +kernel
theorem dX2_closeMended_69 : decode cX2_closeMended 69 = .ok (.getfield 148, 3) := by decide +kernel
theorem dX2_closeMended_72 : decode cX2_closeMended 72 = .ok (.iload_n 2, 1) := by decide +kernel
theorem dX2_closeMended_73 : decode cX2_closeMended 73 = .ok (.sipush 2500, 3) := by decide +kernel
theorem dX2_closeMended_76 : decode cX2_closeMended 76 = .ok (.imul, 1) := by decide +kernel
theorem dX2_closeMended_77 : decode cX2_closeMended 77 = .ok (.isub, 1) := by decide +kernel
theorem dX2_closeMended_78 : decode cX2_closeMended 78 = .ok (.putfield 148, 3) := by decide +kernel
theorem dX2_closeMended_81 : decode cX2_closeMended 81 = .ok (.return_, 1) := by decide +kernel
set_option maxRecDepth 20000 in
theorem ggX2_countJoinedTo_X0_isJoinedTo : GoodIn wsX2_countJoinedTo wsX0_isJoinedTo := goodIn_r _ [6, 7, 8, 14, 15, 16, 17, 18, 19, 20, 21] (by decide +kernel) (by decide +kernel)
set_option maxRecDepth 20000 in
theorem gX2_countJoinedTo_X0_isJoinedTo : GoodIn wsX2_countJoinedTo (wsV RX2 189 RX0 yX0_isJoinedTo wsX0_isJoinedTo) := goodIn_app (goodIn_of _ (by decide +kernel)) ggX2_countJoinedTo_X0_isJoinedTo
theorem dX2_countJoinedTo_0 : decode cX2_countJoinedTo 0 = .ok (.iconst 0, 1) := by decide +kernel
theorem dX2_countJoinedTo_1 : decode cX2_countJoinedTo 1 = .ok (.istore_n 2, 1) := by decide +kernel
theorem dX2_countJoinedTo_2 : decode cX2_countJoinedTo 2 = .ok (.aload_n 0, 1) := by decide +kernel
theorem dX2_countJoinedTo_3 : decode cX2_countJoinedTo 3 = .ok (.getfield 21, 3) := by decide +kernel
theorem dX2_countJoinedTo_6 : decode cX2_countJoinedTo 6 = .ok (.astore_n 3, 1) := by decide +kernel
theorem dX2_countJoinedTo_7 : decode cX2_countJoinedTo 7 = .ok (.aload_n 3, 1) := by decide +kernel
theorem dX2_countJoinedTo_8 : decode cX2_countJoinedTo 8 = .ok (.arraylength, 1) := by decide +kernel
theorem dX2_countJoinedTo_9 : decode cX2_countJoinedTo 9 = .ok (.istore 4, 2) := by decide +kernel
theorem dX2_countJoinedTo_11 : decode cX2_countJoinedTo 11 = .ok (.iconst 0, 1) := by decide +kernel
theorem dX2_countJoinedTo_12 : decode cX2_countJoinedTo 12 = .ok (.istore 5, 2) := by decide +kernel
theorem dX2_countJoinedTo_14 : decode cX2_countJoinedTo 14 = .ok (.iload 5, 2) := by decide +kernel
theorem dX2_countJoinedTo_16 : decode cX2_countJoinedTo 16 = .ok (.iload 4, 2) := by decide +kernel
theorem dX2_countJoinedTo_18 : decode cX2_countJoinedTo 18 = .ok (.if_icmp .ge 32, 3) := by decide +kernel
theorem dX2_countJoinedTo_21 : decode cX2_countJoinedTo 21 = .ok (.aload_n 3, 1) := by decide +kernel
theorem dX2_countJoinedTo_22 : decode cX2_countJoinedTo 22 = .ok (.iload 5, 2) := by decide +kernel
theorem dX2_countJoinedTo_24 : decode cX2_countJoinedTo 24 = .ok (.aaload, 1) := by decide +kernel
theorem dX2_countJoinedTo_25 : decode cX2_countJoinedTo 25 = .ok (.astore 6, 2) := by decide +kernel
theorem dX2_countJoinedTo_27 : decode cX2_countJoinedTo 27 = .ok (.aload 6, 2) := by decide +kernel
theorem dX2_countJoinedTo_29 : decode cX2_countJoinedTo 29 = .ok (.ifnull 15, 3) := by decide +kernel
theorem dX2_countJoinedTo_32 : decode cX2_countJoinedTo 32 = .ok (.aload 6, 2) := by decide +kernel
theorem dX2_countJoinedTo_34 : decode cX2_countJoinedTo 34 = .ok (.aload_n 1, 1) := by decide +kernel
theorem dX2_countJoinedTo_35 : decode cX2_countJoinedTo 35 = .ok (.invokevirtual 189, 3) := by decide +kernel
theorem dX2_countJoinedTo_38 : decode cX2_countJoinedTo 38 = .ok (.ifCond .eq 6, 3) := by decide +kernel
theorem dX2_countJoinedTo_41 : decode cX2_countJoinedTo 41 = .ok (.iinc 2 1, 3) := by decide +kernel
theorem dX2_countJoinedTo_44 : decode cX2_countJoinedTo 44 = .ok (.iinc 5 1, 3) := by decide +kernel
theorem dX2_countJoinedTo_47 : decode cX2_countJoinedTo 47 = .ok (.goto (-33), 3) := by decide +kernel
theorem dX2_countJoinedTo_50 : decode cX2_countJoinedTo 50 = .ok (.iload_n 2, 1) := by decide +kernel
theorem dX2_countJoinedTo_51 : decode cX2_countJoinedTo 51 = .ok (.ireturn, 1) := by decide +kernel
end
section
theorem dX3_init_0 : decode cX3_init 0 = .ok (.aload_n 0, 1) := by decide +kernel
theorem dX3_init_1 : decode cX3_init 1 = .ok (.invokespecial 1, 3) := by decide +kernel
theorem dX3_init_4 : decode cX3_init 4 = .ok (.aload_n 0, 1) := by decide +kernel
theorem dX3_init_5 : decode cX3_init 5 = .ok (.iconst 4, 1) := by decide +kernel
theorem dX3_init_6 : decode cX3_init 6 = .ok (.newarray .int, 2) := by decide +kernel
theorem dX3_init_8 : decode cX3_init 8 = .ok (.putfield 7, 3) := by decide +kernel
theorem dX3_init_11 : decode cX3_init 11 = .ok (.aload_n 0, 1) := by decide +kernel
theorem dX3_init_12 : decode cX3_init 12 = .ok (.iconst 4, 1) := by decide +kernel
theorem dX3_init_13 : decode cX3_init 13 = .ok (.newarray .int, 2) := by decide +kernel
theorem dX3_init_15 : decode cX3_init 15 = .ok (.putfield 13, 3) := by decide +kernel
theorem dX3_init_18 : decode cX3_init 18 = .ok (.aload_n 0, 1) := by decide +kernel
theorem dX3_init_19 : decode cX3_init 19 = .ok (.iconst 4, 1) := by decide +kernel
theorem dX3_init_20 : decode cX3_init 20 = .ok (.newarray .int, 2) := by decide +kernel
theorem dX3_init_22 : decode cX3_init 22 = .ok (.putfield 16, 3) := by decide +kernel
theorem dX3_init_25 : decode cX3_init 25 = .ok (.aload_n 0, 1) := by decide +kernel
theorem dX3_init_26 : decode cX3_init 26 = .ok (.bipush 32, 2) := by decide +kernel
theorem dX3_init_28 : decode cX3_init 28 = .ok (.newarray .int, 2) := by decide +kernel
theorem dX3_init_30 : decode cX3_init 30 = .ok (.putfield 19, 3) := by decide +kernel
theorem dX3_init_33 : decode cX3_init 33 = .ok (.aload_n 0, 1) := by decide +kernel
theorem dX3_init_34 : decode cX3_init 34 = .ok (.bipush 32, 2) := by decide +kernel
theorem dX3_init_36 : decode cX3_init 36 = .ok (.newarray .int, 2) := by decide +kernel
theorem dX3_init_38 : decode cX3_init 38 = .ok (.putfield 22, 3) := by decide +kernel
theorem dX3_init_41 : decode cX3_init 41 = .ok (.aload_n 0, 1) := by decide +kernel
theorem dX3_init_42 : decode cX3_init 42 = .ok (.bipush 32, 2) := by decide +kernel
theorem dX3_init_44 : decode cX3_init 44 = .ok (.newarray .int, 2) := by decide +kernel
theorem dX3_init_46 : decode cX3_init 46 = .ok (.putfield 25, 3) := by decide +kernel
theorem dX3_init_49 : decode cX3_init 49 = .ok (.aload_n 0, 1) := by decide +kernel
theorem dX3_init_50 : decode cX3_init 50 = .ok (.iconst 4, 1) := by decide +kernel
theorem dX3_init_51 : decode cX3_init 51 = .ok (.newarray .int, 2) := by decide +kernel
theorem dX3_init_53 : decode cX3_init 53 = .ok (.putfield 28, 3) := by decide +kernel
theorem dX3_init_56 : decode cX3_init 56 = .ok (.aload_n 0, 1) := by decide +kernel
theorem dX3_init_57 : decode cX3_init 57 = .ok (.bipush 9, 2) := by decide +kernel
theorem dX3_init_59 : decode cX3_init 59 = .ok (.newarray .int, 2) := by decide +kernel
theorem dX3_init_61 : decode cX3_init 61 = .ok (.putfield 31, 3) := by decide +kernel
theorem dX3_init_64 : decode cX3_init 64 = .ok (.aload_n 0, 1) := by decide +kernel
theorem dX3_init_65 : decode cX3_init 65 = .ok (.bipush 40, 2) := by decide +kernel
theorem dX3_init_67 : decode cX3_init 67 = .ok (.newarray .int, 2) := by decide +kernel
theorem dX3_init_69 : decode cX3_init 69 = .ok (.putfield 34, 3) := by decide +kernel
theorem dX3_init_72 : decode cX3_init 72 = .ok (.aload_n 0, 1) := by decide +kernel
theorem dX3_init_73 : decode cX3_init 73 = .ok (.bipush 40, 2) := by decide +kernel
theorem dX3_init_75 : decode cX3_init 75 = .ok (.newarray .int, 2) := by decide +kernel
theorem dX3_init_77 : decode cX3_init 77 = .ok (.putfield 37, 3) := by decide +kernel
theorem dX3_init_80 : decode cX3_init 80 = .ok (.aload_n 0, 1) := by decide +kernel
theorem dX3_init_81 : decode cX3_init 81 = .ok (.bipush 40, 2) := by decide +kernel
theorem dX3_init_83 : decode cX3_init 83 = .ok (.newarray .int, 2) := by decide +kernel
theorem dX3_init_85 : decode cX3_init 85 = .ok (.putfield 40, 3) := by decide +kernel
theorem dX3_init_88 : decode cX3_init 88 = .ok (.aload_n 0, 1) := by decide +kernel
theorem dX3_init_89 : decode cX3_init 89 = .ok (.bipush 40, 2) := by decide +kernel
theorem dX3_init_91 : decode cX3_init 91 = .ok (.newarray .int, 2) := by decide +kernel
theorem dX3_init_93 : decode cX3_init 93 = .ok (.putfield 43, 3) := by decide +kernel
theorem dX3_init_96 : decode cX3_init 96 = .ok (.aload_n 0, 1) := by decide +kernel
theorem dX3_init_97 : decode cX3_init 97 = .ok (.bipush 40, 2) := by decide +kernel
theorem dX3_init_99 : decode cX3_init 99 = .ok (.newarray .int, 2) := by decide +kernel
theorem dX3_init_101 : decode cX3_init 101 = .ok (.putfield 46, 3) := by decide +kernel
theorem dX3_init_104 : decode cX3_init 104 = .ok (.aload_n 0, 1) := by decide +kernel
theorem dX3_init_105 : decode cX3_init 105 = .ok (.bipush 40, 2) := by decide +kernel
theorem dX3_init_107 : decode cX3_init 107 = .ok (.newarray .boolean, 2) := by decide +kernel
theorem dX3_init_109 : decode cX3_init 109 = .ok (.putfield 49, 3) := by decide +kernel
theorem dX3_init_112 : decode cX3_init 112 = .ok (.aload_n 0, 1) := by decide +kernel
theorem dX3_init_113 : decode cX3_init 113 = .ok (.bipush 120, 2) := by decide +kernel
theorem dX3_init_115 : decode cX3_init 115 = .ok (.newarray .int, 2) := by decide +kernel
theorem dX3_init_117 : decode cX3_init 117 = .ok (.putfield 53, 3) := by decide +kernel
theorem dX3_init_120 : decode cX3_init 120 = .ok (.aload_n 0, 1) := by decide +kernel
theorem dX3_init_121 : decode cX3_init 121 = .ok (.bipush 120, 2) := by decide +kernel
theorem dX3_init_123 : decode cX3_init 123 = .ok (.newarray .boolean, 2) := by decide +kernel
theorem dX3_init_125 : decode cX3_init 125 = .ok (.putfield 56, 3) := by decide +kernel
theorem dX3_init_128 : decode cX3_init 128 = .ok (.aload_n 0, 1) := by decide +kernel
theorem dX3_init_129 : decode cX3_init 129 = .ok (.iconst 4, 1) := by decide +kernel
theorem dX3_init_130 : decode cX3_init 130 = .ok (.newarray .int, 2) := by decide +kernel
theorem dX3_init_132 : decode cX3_init 132 = .ok (.putfield 59, 3) := by decide +kernel
theorem dX3_init_135 : decode cX3_init 135 = .ok (.aload_n 0, 1) := by decide +kernel
theorem dX3_init_136 : decode cX3_init 136 = .ok (.iconst 4, 1) := by decide +kernel
theorem dX3_init_137 : decode cX3_init 137 = .ok (.newarray .int, 2) := by decide +kernel
theorem dX3_init_139 : decode cX3_init 139 = .ok (.putfield 62, 3) := by decide +kernel
theorem dX3_init_142 : decode cX3_init 142 = .ok (.iconst 0, 1) := by decide +kernel
theorem dX3_init_143 : decode cX3_init 143 = .ok (.istore_n 1, 1) := by decide +kernel
theorem dX3_init_144 : decode cX3_init 144 = .ok (.iload_n 1, 1) := by decide +kernel
theorem dX3_init_145 : decode cX3_init 145 = .ok (.iconst 4, 1) := by decide +kernel
theorem dX3_init_146 : decode cX3_init 146 = .ok (.if_icmp .ge 33, 3) := by decide +kernel
theorem dX3_init_149 : decode cX3_init 149 = .ok (.aload_n 0, 1) := by decide +kernel
theorem dX3_init_150 : decode cX3_init 150 = .ok (.getfield 7, 3) := by decide +kernel
theorem dX3_init_153 : decode cX3_init 153 = .ok (.iload_n 1, 1) := by decide +kernel
theorem dX3_init_154 : decode cX3_init 154 = .ok (.bipush 31, 2) := by decide +kernel
theorem dX3_init_156 : decode cX3_init 156 = .ok (.iastore, 1) := by decide +kernel
theorem dX3_init_157 : decode cX3_init 157 = .ok (.aload_n 0, 1) := by decide +kernel
theorem dX3_init_158 : decode cX3_init 158 = .ok (.getfield 13, 3) := by decide +kernel
theorem dX3_init_161 : decode cX3_init 161 = .ok (.iload_n 1, 1) := by decide +kernel
theorem dX3_init_162 : decode cX3_init 162 = .ok (.bipush 8, 2) := by decide +kernel
theorem dX3_init_164 : decode cX3_init 164 = .ok (.iastore, 1) := by decide +kernel
theorem dX3_init_165 : decode cX3_init 165 = .ok (.aload_n 0, 1) := by decide +kernel
theorem dX3_init_166 : decode cX3_init 166 = .ok (.getfield 16, 3) := by decide +kernel
theorem dX3_init_169 : decode cX3_init 169 = .ok (.iload_n 1, 1) := by decide +kernel
theorem dX3_init_170 : decode cX3_init 170 = .ok (.bipush 17, 2) := by decide +kernel
theorem dX3_init_172 : decode cX3_init 172 = .ok (.iastore, 1) := by decide +kernel
theorem dX3_init_173 : decode cX3_init 173 = .ok (.iinc 1 1, 3) := by decide +kernel
theorem dX3_init_176 : decode cX3_init 176 = .ok (.goto (-32), 3) := by decide +kernel
theorem dX3_init_179 : decode cX3_init 179 = .ok (.iconst 0, 1) := by decide +kernel
theorem dX3_init_180 : decode cX3_init 180 = .ok (.istore_n 1, 1) := by decide +kernel
theorem dX3_init_181 : decode cX3_init 181 = .ok (.iload_n 1, 1) := by decide +kernel
theorem dX3_init_182 : decode cX3_init 182 = .ok (.bipush 9, 2) := by decide +kernel
theorem dX3_init_184 : decode cX3_init 184 = .ok (.if_icmp .ge 60, 3) := by decide +kernel
theorem dX3_init_187 : decode cX3_init 187 = .ok (.aload_n 0, 1) := by decide +kernel
theorem dX3_init_188 : decode cX3_init 188 = .ok (.getfield 31, 3) := by decide +kernel
theorem dX3_init_191 : decode cX3_init 191 = .ok (.iload_n 1, 1) := by decide +kernel
theorem dX3_init_192 : decode cX3_init 192 = .ok (.iload_n 1, 1) := by decide +kernel
theorem dX3_init_193 : decode cX3_init 193 = .ok (.iconst 3, 1) := by decide +kernel
theorem dX3_init_194 : decode cX3_init 194 = .ok (.idiv, 1) := by decide +kernel
theorem dX3_init_195 : decode cX3_init 195 = .ok (.ifCond .ne 7, 3) := by decide +kernel
theorem dX3_init_198 : decode cX3_init 198 = .ok (.iconst 4, 1) := by decide +kernel
theorem dX3_init_199 : decode cX3_init 199 = .ok (.goto 15, 3) := by decide +kernel
theorem dX3_init_202 : decode cX3_init 202 = .ok (.iload_n 1, 1) := by decide +kernel
theorem dX3_init_203 : decode cX3_init 203 = .ok (.iconst 3, 1) := by decide +kernel
theorem dX3_init_204 : decode cX3_init 204 = .ok (.idiv, 1) := by decide +kernel
theorem dX3_init_205 : decode cX3_init 205 = .ok (.iconst 1, 1) := by decide +kernel
theorem dX3_init_206 : decode cX3_init 206 = .ok (.if_icmp .ne 7, 3) := by decide +kernel
theorem dX3_init_209 : decode cX3_init 209 = .ok (.iconst 2, 1) := by decide +kernel
theorem dX3_init_210 : decode cX3_init 210 = .ok (.goto 4, 3) := by decide +kernel
theorem dX3_init_213 : decode cX3_init 213 = .ok (.iconst 1, 1) := by decide +kernel
theorem dX3_init_214 : decode cX3_init 214 = .ok (.iload_n 1, 1) := by decide +kernel
theorem dX3_init_215 : decode cX3_init 215 = .ok (.iconst 3, 1) := by decide +kernel
theorem dX3_init_216 : decode cX3_init 216 = .ok (.irem, 1) := by decide +kernel
theorem dX3_init_217 : decode cX3_init 217 = .ok (.ifCond .ne 7, 3) := by decide +kernel
theorem dX3_init_220 : decode cX3_init 220 = .ok (.iconst 1, 1) := by decide +kernel
theorem dX3_init_221 : decode cX3_init 221 = .ok (.goto 15, 3) := by decide +kernel
theorem dX3_init_224 : decode cX3_init 224 = .ok (.iload_n 1, 1) := by decide +kernel
theorem dX3_init_225 : decode cX3_init 225 = .ok (.iconst 3, 1) := by decide +kernel
theorem dX3_init_226 : decode cX3_init 226 = .ok (.irem, 1) := by decide +kernel
theorem dX3_init_227 : decode cX3_init 227 = .ok (.iconst 1, 1) := by decide +kernel
theorem dX3_init_228 : decode cX3_init 228 = .ok (.if_icmp .ne 7, 3) := by decide +kernel
theorem dX3_init_231 : decode cX3_init 231 = .ok (.iconst 2, 1) := by decide +kernel
theorem dX3_init_232 : decode cX3_init 232 = .ok (.goto 4, 3) := by decide +kernel
theorem dX3_init_235 : decode cX3_init 235 = .ok (.iconst 4, 1) := by decide +kernel
theorem dX3_init_236 : decode cX3_init 236 = .ok (.imul, 1) := by decide +kernel
theorem dX3_init_237 : decode cX3_init 237 = .ok (.iastore, 1) := by decide +kernel
theorem dX3_init_238 : decode cX3_init 238 = .ok (.iinc 1 1, 3) := by decide +kernel
theorem dX3_init_241 : decode cX3_init 241 = .ok (.goto (-60), 3) := by decide +kernel
theorem dX3_init_244 : decode cX3_init 244 = .ok (.return_, 1) := by decide +kernel
theorem dX3_thrown_0 : decode cX3_thrown 0 = .ok (.aload_n 0, 1) := by decide +kernel
theorem dX3_thrown_1 : decode cX3_thrown 1 = .ok (.getfield 65, 3) := by decide +kernel
theorem dX3_thrown_4 : decode cX3_thrown 4 = .ok (.ireturn, 1) := by decide +kernel
theorem dX3_in_0 : decode cX3_in 0 = .ok (.iload_n 0, 1) := by decide +kernel
theorem dX3_in_1 : decode cX3_in 1 = .ok (.iload_n 1, 1) := by decide +kernel
theorem dX3_in_2 : decode cX3_in 2 = .ok (.if_icmp .lt 12, 3) := by decide +kernel
theorem dX3_in_5 : decode cX3_in 5 = .ok (.iload_n 0, 1) := by decide +kernel
theorem dX3_in_6 : decode cX3_in 6 = .ok (.iload_n 2, 1) := by decide +kernel
theorem dX3_in_7 : decode cX3_in 7 = .ok (.if_icmp .gt 7, 3) := by decide +kernel
theorem dX3_in_10 : decode cX3_in 10 = .ok (.iconst 1, 1) := by decide +kernel
theorem dX3_in_11 : decode cX3_in 11 = .ok (.goto 4, 3) := by decide +kernel
theorem dX3_in_14 : decode cX3_in 14 = .ok (.iconst 0, 1) := by decide +kernel
theorem dX3_in_15 : decode cX3_in 15 = .ok (.ireturn, 1) := by decide +kernel
theorem dX3_asked_0 : decode cX3_asked 0 = .ok (.aload_n 0, 1) := by decide +kernel
theorem dX3_asked_1 : decode cX3_asked 1 = .ok (.iload_n 1, 1) := by decide +kernel
theorem dX3_asked_2 : decode cX3_asked 2 = .ok (.ifCond .eq 7, 3) := by decide +kernel
theorem dX3_asked_5 : decode cX3_asked 5 = .ok (.iconst 0, 1) := by decide +kernel
theorem dX3_asked_6 : decode cX3_asked 6 = .ok (.goto 4, 3) := by decide +kernel
theorem dX3_asked_9 : decode cX3_asked 9 = .ok (.iconst 1, 1) := by decide +kernel
theorem dX3_asked_10 : decode cX3_asked 10 = .ok (.putfield 65, 3) := by decide +kernel
theorem dX3_asked_13 : decode cX3_asked 13 = .ok (.iload_n 1, 1) := by decide +kernel
theorem dX3_asked_14 : decode cX3_asked 14 = .ok (.ireturn, 1) := by decide +kernel
theorem dX3_asked__0 : decode cX3_asked_ 0 = .ok (.aload_n 0, 1) := by decide +kernel
theorem dX3_asked__1 : decode cX3_asked_ 1 = .ok (.iload_n 1, 1) := by decide +kernel
theorem dX3_asked__2 : decode cX3_asked_ 2 = .ok (.ifCond .ne 7, 3) := by decide +kernel
theorem dX3_asked__5 : decode cX3_asked_ 5 = .ok (.iconst 1, 1) := by decide +kernel
theorem dX3_asked__6 : decode cX3_asked_ 6 = .ok (.goto 12, 3) := by decide +kernel
theorem dX3_asked__9 : decode cX3_asked_ 9 = .ok (.iload_n 2, 1) := by decide +kernel
theorem dX3_asked__10 : decode cX3_asked_ 10 = .ok (.ifCond .eq 7, 3) := by decide +kernel
theorem dX3_asked__13 : decode cX3_asked_ 13 = .ok (.iconst 0, 1) := by decide +kernel
theorem dX3_asked__14 : decode cX3_asked_ 14 = .ok (.goto 4, 3) := by decide +kernel
theorem dX3_asked__17 : decode cX3_asked_ 17 = .ok (.iconst 2, 1) := by decide +kernel
theorem dX3_asked__18 : decode cX3_asked_ 18 = .ok (.putfield 65, 3) := by decide +kernel
theorem dX3_asked__21 : decode cX3_asked_ 21 = .ok (.aload_n 0, 1) := by decide +kernel
theorem dX3_asked__22 : decode cX3_asked_ 22 = .ok (.getfield 65, 3) := by decide +kernel
theorem dX3_asked__25 : decode cX3_asked_ 25 = .ok (.ifCond .ne 7, 3) := by decide +kernel
theorem dX3_asked__28 : decode cX3_asked_ 28 = .ok (.iconst 1, 1) := by decide +kernel
theorem dX3_asked__29 : decode cX3_asked_ 29 = .ok (.goto 4, 3) := by decide +kernel
theorem dX3_asked__32 : decode cX3_asked_ 32 = .ok (.iconst 0, 1) := by decide +kernel
theorem dX3_asked__33 : decode cX3_asked_ 33 = .ok (.ireturn, 1) := by decide +kernel
theorem dX3_asked___0 : decode cX3_asked__ 0 = .ok (.aload_n 0, 1) := by decide +kernel
theorem dX3_asked___1 : decode cX3_asked__ 1 = .ok (.iload_n 1, 1) := by decide +kernel
theorem dX3_asked___2 : decode cX3_asked__ 2 = .ok (.ifCond .ne 7, 3) := by decide +kernel
theorem dX3_asked___5 : decode cX3_asked__ 5 = .ok (.iconst 1, 1) := by decide +kernel
theorem dX3_asked___6 : decode cX3_asked__ 6 = .ok (.goto 20, 3) := by decide +kernel
theorem dX3_asked___9 : decode cX3_asked__ 9 = .ok (.iload_n 2, 1) := by decide +kernel
theorem dX3_asked___10 : decode cX3_asked__ 10 = .ok (.ifCond .ne 7, 3) := by decide +kernel
theorem dX3_asked___13 : decode cX3_asked__ 13 = .ok (.iconst 2, 1) := by decide +kernel
theorem dX3_asked___14 : decode cX3_asked__ 14 = .ok (.goto 12, 3) := by decide +kernel
theorem dX3_asked___17 : decode cX3_asked__ 17 = .ok (.iload_n 3, 1) := by decide +kernel
theorem dX3_asked___18 : decode cX3_asked__ 18 = .ok (.ifCond .eq 7, 3) := by decide +kernel
theorem dX3_asked___21 : decode cX3_asked__ 21 = .ok (.iconst 0, 1) := by decide +kernel
theorem dX3_asked___22 : decode cX3_asked__ 22 = .ok (.goto 4, 3) := by decide +kernel
theorem dX3_asked___25 : decode cX3_asked__ 25 = .ok (.iconst 3, 1) := by decide +kernel
theorem dX3_asked___26 : decode cX3_asked__ 26 = .ok (.putfield 65, 3) := by decide +kernel
theorem dX3_asked___29 : decode cX3_asked__ 29 = .ok (.aload_n 0, 1) := by decide +kernel
theorem dX3_asked___30 : decode cX3_asked__ 30 = .ok (.getfield 65, 3) := by decide +kernel
theorem dX3_asked___33 : decode cX3_asked__ 33 = .ok (.ifCond .ne 7, 3) := by decide +kernel
theorem dX3_asked___36 : decode cX3_asked__ 36 = .ok (.iconst 1, 1) := by decide +kernel
theorem dX3_asked___37 : decode cX3_asked__ 37 = .ok (.goto 4, 3) := by decide +kernel
theorem dX3_asked___40 : decode cX3_asked__ 40 = .ok (.iconst 0, 1) := by decide +kernel
theorem dX3_asked___41 : decode cX3_asked__ 41 = .ok (.ireturn, 1) := by decide +kernel
theorem dX3_told_0 : decode cX3_told 0 = .ok (.aload_n 0, 1) := by decide +kernel
theorem dX3_told_1 : decode cX3_told 1 = .ok (.iconst 0, 1) := by decide +kernel
theorem dX3_told_2 : decode cX3_told 2 = .ok (.putfield 65, 3) := by decide +kernel
theorem dX3_told_5 : decode cX3_told 5 = .ok (.iload_n 1, 1) := by decide +kernel
theorem dX3_told_6 : decode cX3_told 6 = .ok (.ireturn, 1) := by decide +kernel
set_option maxRecDepth 20000 in
theorem ggX3_isSite_X3_in : GoodIn wsX3_isSite wsX3_in := goodIn_r _ [4] (by decide +kernel) (by decide +kernel)
set_option maxRecDepth 20000 in
theorem gX3_isSite_X3_in : GoodIn wsX3_isSite (va_wsS RX3 69 yX3_in wsX3_in) := goodIn_app (goodIn_of _ (by decide +kernel)) ggX3_isSite_X3_in
theorem dX3_isSite_0 : decode cX3_isSite 0 = .ok (.iload_n 0, 1) := by decide +kernel
theorem dX3_isSite_1 : decode cX3_isSite 1 = .ok (.iconst 0, 1) := by decide +kernel
theorem dX3_isSite_2 : decode cX3_isSite 2 = .ok (.iconst 3, 1) := by decide +kernel
theorem dX3_isSite_3 : decode cX3_isSite 3 = .ok (.invokestatic 69, 3) := by decide +kernel
theorem dX3_isSite_6 : decode cX3_isSite 6 = .ok (.ireturn, 1) := by decide +kernel
set_option maxRecDepth 20000 in
theorem ggX3_isKind_X3_in : GoodIn wsX3_isKind wsX3_in := goodIn_r _ [4] (by decide +kernel) (by decide +kernel)
set_option maxRecDepth 20000 in
theorem gX3_isKind_X3_in : GoodIn wsX3_isKind (va_wsS RX3 69 yX3_in wsX3_in) := goodIn_app (goodIn_of _ (by decide +kernel)) ggX3_isKind_X3_in
theorem dX3_isKind_0 : decode cX3_isKind 0 = .ok (.iload_n 0, 1) := by decide +kernel
theorem dX3_isKind_1 : decode cX3_isKind 1 = .ok (.iconst 0, 1) := by decide +kernel
theorem dX3_isKind_2 : decode cX3_isKind 2 = .ok (.iconst 3, 1) := by decide +kernel
theorem dX3_isKind_3 : decode cX3_isKind 3 = .ok (.invokestatic 69, 3) := by decide +kernel
theorem dX3_isKind_6 : decode cX3_isKind 6 = .ok (.ireturn, 1) := by decide +kernel
set_option maxRecDepth 20000 in
theorem ggX3_isCase_X3_in : GoodIn wsX3_isCase wsX3_in := goodIn_r _ [5] (by decide +kernel) (by decide +kernel)
set_option maxRecDepth 20000 in
theorem gX3_isCase_X3_in : GoodIn wsX3_isCase (va_wsS RX3 69 yX3_in wsX3_in) := goodIn_app (goodIn_of _ (by decide +kernel)) ggX3_isCase_X3_in
theorem dX3_isCase_0 : decode cX3_isCase 0 = .ok (.iload_n 1, 1) := by decide +kernel
theorem dX3_isCase_1 : decode cX3_isCase 1 = .ok (.iconst 0, 1) := by decide +kernel
theorem dX3_isCase_2 : decode cX3_isCase 2 = .ok (.aload_n 0, 1) := by decide +kernel
theorem dX3_isCase_3 : decode cX3_isCase 3 = .ok (.getfield 73, 3) := by decide +kernel
theorem dX3_isCase_6 : decode cX3_isCase 6 = .ok (.iconst 1, 1) := by decide +kernel
theorem dX3_isCase_7 : decode cX3_isCase 7 = .ok (.isub, 1) := by decide +kernel
theorem dX3_isCase_8 : decode cX3_isCase 8 = .ok (.invokestatic 69, 3) := by decide +kernel
theorem dX3_isCase_11 : decode cX3_isCase 11 = .ok (.ireturn, 1) := by decide +kernel
set_option maxRecDepth 20000 in
theorem ggX3_setCalendar_X3_isSite : GoodIn wsX3_setCalendar wsX3_isSite := goodIn_r _ [7, 8, 9, 6, 10] (by decide +kernel) (by decide +kernel)
set_option maxRecDepth 20000 in
theorem gX3_setCalendar_X3_isSite : GoodIn wsX3_setCalendar (va_wsS RX3 76 yX3_isSite wsX3_isSite) := goodIn_app (goodIn_of _ (by decide +kernel)) ggX3_setCalendar_X3_isSite
set_option maxRecDepth 20000 in
theorem ggX3_setCalendar_X3_in : GoodIn wsX3_setCalendar wsX3_in := goodIn_r _ [10] (by decide +kernel) (by decide +kernel)
set_option maxRecDepth 20000 in
theorem gX3_setCalendar_X3_in : GoodIn wsX3_setCalendar (va_wsS RX3 69 yX3_in wsX3_in) := goodIn_app (goodIn_of _ (by decide +kernel)) ggX3_setCalendar_X3_in
set_option maxRecDepth 20000 in
theorem ggX3_setCalendar_X3_asked_ : GoodIn wsX3_setCalendar wsX3_asked_ := goodIn_r _ [14, 15, 16, 17, 18, 19, 20, 21, 22, 23, 24, 25, 26, 27, 28, 29, 30, 31, 32, 33, 34, 35, 36] (by decide +kernel) (by decide +kernel)
set_option maxRecDepth 20000 in
theorem gX3_setCalendar_X3_asked_ : GoodIn wsX3_setCalendar (wsV RX3 80 RX3 yX3_asked_ wsX3_asked_) := goodIn_app (goodIn_of _ (by decide +kernel)) ggX3_setCalendar_X3_asked_
theorem dX3_setCalendar_0 : decode cX3_setCalendar 0 = .ok (.aload_n 0, 1) := by decide +kernel
theorem dX3_setCalendar_1 : decode cX3_setCalendar 1 = .ok (.iload_n 1, 1) := by decide +kernel
theorem dX3_setCalendar_2 : decode cX3_setCalendar 2 = .ok (.invokestatic 76, 3) := by decide +kernel
theorem dX3_setCalendar_5 : decode cX3_setCalendar 5 = .ok (.iload_n 2, 1) := by decide +kernel
theorem dX3_setCalendar_6 : decode cX3_setCalendar 6 = .ok (.iconst 0, 1) := by decide +kernel
theorem dX3_setCalendar_7 : decode cX3_setCalendar 7 = .ok (.bipush 127, 2) := by decide +kernel
theorem dX3_setCalendar_9 : decode cX3_setCalendar 9 = .ok (.invokestatic 69, 3) := by decide +kernel
theorem dX3_setCalendar_12 : decode cX3_setCalendar 12 = .ok (.ifCond .eq 28, 3) := by decide +kernel
theorem dX3_setCalendar_15 : decode cX3_setCalendar 15 = .ok (.iload_n 3, 1) := by decide +kernel
theorem dX3_setCalendar_16 : decode cX3_setCalendar 16 = .ok (.iconst 0, 1) := by decide +kernel
theorem dX3_setCalendar_17 : decode cX3_setCalendar 17 = .ok (.bipush 23, 2) := by decide +kernel
theorem dX3_setCalendar_19 : decode cX3_setCalendar 19 = .ok (.invokestatic 69, 3) := by decide +kernel
theorem dX3_setCalendar_22 : decode cX3_setCalendar 22 = .ok (.ifCond .eq 18, 3) := by decide +kernel
theorem dX3_setCalendar_25 : decode cX3_setCalendar 25 = .ok (.iload 4, 2) := by decide +kernel
theorem dX3_setCalendar_27 : decode cX3_setCalendar 27 = .ok (.iload_n 3, 1) := by decide +kernel
theorem dX3_setCalendar_28 : decode cX3_setCalendar 28 = .ok (.bipush 23, 2) := by decide +kernel
theorem dX3_setCalendar_30 : decode cX3_setCalendar 30 = .ok (.invokestatic 69, 3) := by decide +kernel
theorem dX3_setCalendar_33 : decode cX3_setCalendar 33 = .ok (.ifCond .eq 7, 3) := by decide +kernel
theorem dX3_setCalendar_36 : decode cX3_setCalendar 36 = .ok (.iconst 1, 1) := by decide +kernel
theorem dX3_setCalendar_37 : decode cX3_setCalendar 37 = .ok (.goto 4, 3) := by decide +kernel
theorem dX3_setCalendar_40 : decode cX3_setCalendar 40 = .ok (.iconst 0, 1) := by decide +kernel
theorem dX3_setCalendar_41 : decode cX3_setCalendar 41 = .ok (.invokevirtual 80, 3) := by decide +kernel
theorem dX3_setCalendar_44 : decode cX3_setCalendar 44 = .ok (.ifCond .ne 5, 3) := by decide +kernel
theorem dX3_setCalendar_47 : decode cX3_setCalendar 47 = .ok (.iconst 0, 1) := by decide +kernel
theorem dX3_setCalendar_48 : decode cX3_setCalendar 48 = .ok (.ireturn, 1) := by decide +kernel
theorem dX3_setCalendar_49 : decode cX3_setCalendar 49 = .ok (.aload_n 0, 1) := by decide +kernel
theorem dX3_setCalendar_50 : decode cX3_setCalendar 50 = .ok (.getfield 7, 3) := by decide +kernel
theorem dX3_setCalendar_53 : decode cX3_setCalendar 53 = .ok (.iload_n 1, 1) := by decide +kernel
theorem dX3_setCalendar_54 : decode cX3_setCalendar 54 = .ok (.iaload, 1) := by decide +kernel
theorem dX3_setCalendar_55 : decode cX3_setCalendar 55 = .ok (.istore 5, 2) := by decide +kernel
theorem dX3_setCalendar_57 : decode cX3_setCalendar 57 = .ok (.aload_n 0, 1) := by decide +kernel
theorem dX3_setCalendar_58 : decode cX3_setCalendar 58 = .ok (.getfield 7, 3) := by decide +kernel
theorem dX3_setCalendar_61 : decode cX3_setCalendar 61 = .ok (.iload_n 1, 1) := by decide +kernel
theorem dX3_setCalendar_62 : decode cX3_setCalendar 62 = .ok (.iload_n 2, 1) := by decide +kernel
theorem dX3_setCalendar_63 : decode cX3_setCalendar 63 = .ok (.iastore, 1) := by decide +kernel
theorem dX3_setCalendar_64 : decode cX3_setCalendar 64 = .ok (.aload_n 0, 1) := by decide +kernel
theorem dX3_setCalendar_65 : decode cX3_setCalendar 65 = .ok (.getfield 13, 3) := by decide +kernel
theorem dX3_setCalendar_68 : decode cX3_setCalendar 68 = .ok (.iload_n 1, 1) := by decide +kernel
theorem dX3_setCalendar_69 : decode cX3_setCalendar 69 = .ok (.iload_n 3, 1) := by decide +kernel
theorem dX3_setCalendar_70 : decode cX3_setCalendar 70 = .ok (.iastore, 1) := by decide +kernel
theorem dX3_setCalendar_71 : decode cX3_setCalendar 71 = .ok (.aload_n 0, 1) := by decide +kernel
theorem dX3_setCalendar_72 : decode cX3_setCalendar 72 = .ok (.getfield 16, 3) := by decide +kernel
theorem dX3_setCalendar_75 : decode cX3_setCalendar 75 = .ok (.iload_n 1, 1) := by decide +kernel
theorem dX3_setCalendar_76 : decode cX3_setCalendar 76 = .ok (.iload 4, 2) := by decide +kernel
theorem dX3_setCalendar_78 : decode cX3_setCalendar 78 = .ok (.iastore, 1) := by decide +kernel
theorem dX3_setCalendar_79 : decode cX3_setCalendar 79 = .ok (.iload 5, 2) := by decide +kernel
theorem dX3_setCalendar_81 : decode cX3_setCalendar 81 = .ok (.ireturn, 1) := by decide +kernel
set_option maxRecDepth 20000 in
theorem ggX3_addContract_X3_isSite : GoodIn wsX3_addContract wsX3_isSite := goodIn_r _ [8, 9, 10, 7, 11] (by decide +kernel) (by decide +kernel)
set_option maxRecDepth 20000 in
theorem gX3_addContract_X3_isSite : GoodIn wsX3_addContract (va_wsS RX3 76 yX3_isSite wsX3_isSite) := goodIn_app (goodIn_of _ (by decide +kernel)) ggX3_addContract_X3_isSite
set_option maxRecDepth 20000 in
theorem ggX3_addContract_X3_in : GoodIn wsX3_addContract wsX3_in := goodIn_r _ [11] (by decide +kernel) (by decide +kernel)
set_option maxRecDepth 20000 in
theorem gX3_addContract_X3_in : GoodIn wsX3_addContract (va_wsS RX3 69 yX3_in wsX3_in) := goodIn_app (goodIn_of _ (by decide +kernel)) ggX3_addContract_X3_in
set_option maxRecDepth 20000 in
theorem ggX3_addContract_X3_asked__ : GoodIn wsX3_addContract wsX3_asked__ := goodIn_r _ [15, 16, 17, 18, 19, 20, 21, 22, 23, 24, 25, 26, 27, 28, 29, 30, 31, 32, 33, 34, 35, 36, 37] (by decide +kernel) (by decide +kernel)
set_option maxRecDepth 20000 in
theorem gX3_addContract_X3_asked__ : GoodIn wsX3_addContract (wsV RX3 84 RX3 yX3_asked__ wsX3_asked__) := goodIn_app (goodIn_of _ (by decide +kernel)) ggX3_addContract_X3_asked__
theorem dX3_addContract_0 : decode cX3_addContract 0 = .ok (.iload_n 1, 1) := by decide +kernel
theorem dX3_addContract_1 : decode cX3_addContract 1 = .ok (.invokestatic 76, 3) := by decide +kernel
theorem dX3_addContract_4 : decode cX3_addContract 4 = .ok (.istore 5, 2) := by decide +kernel
theorem dX3_addContract_6 : decode cX3_addContract 6 = .ok (.aload_n 0, 1) := by decide +kernel
theorem dX3_addContract_7 : decode cX3_addContract 7 = .ok (.iload 5, 2) := by decide +kernel
theorem dX3_addContract_9 : decode cX3_addContract 9 = .ok (.iload_n 2, 1) := by decide +kernel
theorem dX3_addContract_10 : decode cX3_addContract 10 = .ok (.iconst 1, 1) := by decide +kernel
theorem dX3_addContract_11 : decode cX3_addContract 11 = .ok (.bipush 15, 2) := by decide +kernel
theorem dX3_addContract_13 : decode cX3_addContract 13 = .ok (.invokestatic 69, 3) := by decide +kernel
theorem dX3_addContract_16 : decode cX3_addContract 16 = .ok (.ifCond .eq 30, 3) := by decide +kernel
theorem dX3_addContract_19 : decode cX3_addContract 19 = .ok (.iload_n 3, 1) := by decide +kernel
theorem dX3_addContract_20 : decode cX3_addContract 20 = .ok (.iconst 0, 1) := by decide +kernel
theorem dX3_addContract_21 : decode cX3_addContract 21 = .ok (.sipush 1000, 3) := by decide +kernel
theorem dX3_addContract_24 : decode cX3_addContract 24 = .ok (.invokestatic 69, 3) := by decide +kernel
theorem dX3_addContract_27 : decode cX3_addContract 27 = .ok (.ifCond .eq 19, 3) := by decide +kernel
theorem dX3_addContract_30 : decode cX3_addContract 30 = .ok (.iload 4, 2) := by decide +kernel
theorem dX3_addContract_32 : decode cX3_addContract 32 = .ok (.iload_n 3, 1) := by decide +kernel
theorem dX3_addContract_33 : decode cX3_addContract 33 = .ok (.sipush 1000, 3) := by decide +kernel
theorem dX3_addContract_36 : decode cX3_addContract 36 = .ok (.invokestatic 69, 3) := by decide +kernel
theorem dX3_addContract_39 : decode cX3_addContract 39 = .ok (.ifCond .eq 7, 3) := by decide +kernel
theorem dX3_addContract_42 : decode cX3_addContract 42 = .ok (.iconst 1, 1) := by decide +kernel
theorem dX3_addContract_43 : decode cX3_addContract 43 = .ok (.goto 4, 3) := by decide +kernel
theorem dX3_addContract_46 : decode cX3_addContract 46 = .ok (.iconst 0, 1) := by decide +kernel
theorem dX3_addContract_47 : decode cX3_addContract 47 = .ok (.iload 5, 2) := by decide +kernel
theorem dX3_addContract_49 : decode cX3_addContract 49 = .ok (.ifCond .eq 18, 3) := by decide +kernel
theorem dX3_addContract_52 : decode cX3_addContract 52 = .ok (.aload_n 0, 1) := by decide +kernel
theorem dX3_addContract_53 : decode cX3_addContract 53 = .ok (.getfield 28, 3) := by decide +kernel
theorem dX3_addContract_56 : decode cX3_addContract 56 = .ok (.iload_n 1, 1) := by decide +kernel
theorem dX3_addContract_57 : decode cX3_addContract 57 = .ok (.iaload, 1) := by decide +kernel
theorem dX3_addContract_58 : decode cX3_addContract 58 = .ok (.bipush 8, 2) := by decide +kernel
theorem dX3_addContract_60 : decode cX3_addContract 60 = .ok (.if_icmp .ge 7, 3) := by decide +kernel
theorem dX3_addContract_63 : decode cX3_addContract 63 = .ok (.iconst 1, 1) := by decide +kernel
theorem dX3_addContract_64 : decode cX3_addContract 64 = .ok (.goto 4, 3) := by decide +kernel
theorem dX3_addContract_67 : decode cX3_addContract 67 = .ok (.iconst 0, 1) := by decide +kernel
theorem dX3_addContract_68 : decode cX3_addContract 68 = .ok (.invokevirtual 84, 3) := by decide +kernel
theorem dX3_addContract_71 : decode cX3_addContract 71 = .ok (.ifCond .ne 5, 3) := by decide +kernel
theorem dX3_addContract_74 : decode cX3_addContract 74 = .ok (.iconst 0, 1) := by decide +kernel
theorem dX3_addContract_75 : decode cX3_addContract 75 = .ok (.ireturn, 1) := by decide +kernel
theorem dX3_addContract_76 : decode cX3_addContract 76 = .ok (.bipush 8, 2) := by decide +kernel
theorem dX3_addContract_78 : decode cX3_addContract 78 = .ok (.iload_n 1, 1) := by decide +kernel
theorem dX3_addContract_79 : decode cX3_addContract 79 = .ok (.imul, 1) := by decide +kernel
theorem dX3_addContract_80 : decode cX3_addContract 80 = .ok (.aload_n 0, 1) := by decide +kernel
theorem dX3_addContract_81 : decode cX3_addContract 81 = .ok (.getfield 28, 3) := by decide +kernel
theorem dX3_addContract_84 : decode cX3_addContract 84 = .ok (.iload_n 1, 1) := by decide +kernel
theorem dX3_addContract_85 : decode cX3_addContract 85 = .ok (.iaload, 1) := by decide +kernel
theorem dX3_addContract_86 : decode cX3_addContract 86 = .ok (.iadd, 1) := by decide +kernel
theorem dX3_addContract_87 : decode cX3_addContract 87 = .ok (.istore 6, 2) := by decide +kernel
theorem dX3_addContract_89 : decode cX3_addContract 89 = .ok (.aload_n 0, 1) := by decide +kernel
theorem dX3_addContract_90 : decode cX3_addContract 90 = .ok (.getfield 19, 3) := by decide +kernel
theorem dX3_addContract_93 : decode cX3_addContract 93 = .ok (.iload 6, 2) := by decide +kernel
theorem dX3_addContract_95 : decode cX3_addContract 95 = .ok (.iload_n 2, 1) := by decide +kernel
theorem dX3_addContract_96 : decode cX3_addContract 96 = .ok (.iastore, 1) := by decide +kernel
theorem dX3_addContract_97 : decode cX3_addContract 97 = .ok (.aload_n 0, 1) := by decide +kernel
theorem dX3_addContract_98 : decode cX3_addContract 98 = .ok (.getfield 22, 3) := by decide +kernel
theorem dX3_addContract_101 : decode cX3_addContract 101 = .ok (.iload 6, 2) := by decide +kernel
theorem dX3_addContract_103 : decode cX3_addContract 103 = .ok (.iload_n 3, 1) := by decide +kernel
theorem dX3_addContract_104 : decode cX3_addContract 104 = .ok (.iastore, 1) := by decide +kernel
theorem dX3_addContract_105 : decode cX3_addContract 105 = .ok (.aload_n 0, 1) := by decide +kernel
theorem dX3_addContract_106 : decode cX3_addContract 106 = .ok (.getfield 25, 3) := by decide +kernel
theorem dX3_addContract_109 : decode cX3_addContract 109 = .ok (.iload 6, 2) := by decide +kernel
theorem dX3_addContract_111 : decode cX3_addContract 111 = .ok (.iload 4, 2) := by decide +kernel
theorem dX3_addContract_113 : decode cX3_addContract 113 = .ok (.iastore, 1) := by decide +kernel
theorem dX3_addContract_114 : decode cX3_addContract 114 = .ok (.aload_n 0, 1) := by decide +kernel
theorem dX3_addContract_115 : decode cX3_addContract 115 = .ok (.getfield 28, 3) := by decide +kernel
theorem dX3_addContract_118 : decode cX3_addContract 118 = .ok (.iload_n 1, 1) := by decide +kernel
theorem dX3_addContract_119 : decode cX3_addContract 119 = .ok (.dup2, 1) := by decide +kernel
theorem dX3_addContract_120 : decode cX3_addContract 120 = .ok (.iaload, 1) := by decide +kernel
theorem dX3_addContract_121 : decode cX3_addContract 121 = .ok (.iconst 1, 1) := by decide +kernel
theorem dX3_addContract_122 : decode cX3_addContract 122 = .ok (.iadd, 1) := by decide +kernel
theorem dX3_addContract_123 : decode cX3_addContract 123 = .ok (.iastore, 1) := by decide +kernel
theorem dX3_addContract_124 : decode cX3_addContract 124 = .ok (.aload_n 0, 1) := by decide +kernel
theorem dX3_addContract_125 : decode cX3_addContract 125 = .ok (.getfield 28, 3) := by decide +kernel
theorem dX3_addContract_128 : decode cX3_addContract 128 = .ok (.iload_n 1, 1) := by decide +kernel
theorem dX3_addContract_129 : decode cX3_addContract 129 = .ok (.iaload, 1) := by decide +kernel
theorem dX3_addContract_130 : decode cX3_addContract 130 = .ok (.ireturn, 1) := by decide +kernel
set_option maxRecDepth 20000 in
theorem ggX3_setPromise_X3_in : GoodIn wsX3_setPromise wsX3_in := goodIn_r _ [5] (by decide +kernel) (by decide +kernel)
set_option maxRecDepth 20000 in
theorem gX3_setPromise_X3_in : GoodIn wsX3_setPromise (va_wsS RX3 69 yX3_in wsX3_in) := goodIn_app (goodIn_of _ (by decide +kernel)) ggX3_setPromise_X3_in
set_option maxRecDepth 20000 in
theorem ggX3_setPromise_X3_asked : GoodIn wsX3_setPromise wsX3_asked := goodIn_r _ [9, 10, 11, 12, 13, 14, 15, 16, 17, 18, 19, 20, 21, 22, 23, 24, 25, 26, 27, 28, 29, 30, 31] (by decide +kernel) (by decide +kernel)
set_option maxRecDepth 20000 in
theorem gX3_setPromise_X3_asked : GoodIn wsX3_setPromise (wsV RX3 87 RX3 yX3_asked wsX3_asked) := goodIn_app (goodIn_of _ (by decide +kernel)) ggX3_setPromise_X3_asked
theorem dX3_setPromise_0 : decode cX3_setPromise 0 = .ok (.aload_n 0, 1) := by decide +kernel
theorem dX3_setPromise_1 : decode cX3_setPromise 1 = .ok (.iload_n 1, 1) := by decide +kernel
theorem dX3_setPromise_2 : decode cX3_setPromise 2 = .ok (.iconst 0, 1) := by decide +kernel
theorem dX3_setPromise_3 : decode cX3_setPromise 3 = .ok (.iconst 2, 1) := by decide +kernel
theorem dX3_setPromise_4 : decode cX3_setPromise 4 = .ok (.invokestatic 69, 3) := by decide +kernel
theorem dX3_setPromise_7 : decode cX3_setPromise 7 = .ok (.ifCond .eq 27, 3) := by decide +kernel
theorem dX3_setPromise_10 : decode cX3_setPromise 10 = .ok (.iload_n 2, 1) := by decide +kernel
theorem dX3_setPromise_11 : decode cX3_setPromise 11 = .ok (.iconst 0, 1) := by decide +kernel
theorem dX3_setPromise_12 : decode cX3_setPromise 12 = .ok (.iconst 2, 1) := by decide +kernel
theorem dX3_setPromise_13 : decode cX3_setPromise 13 = .ok (.invokestatic 69, 3) := by decide +kernel
theorem dX3_setPromise_16 : decode cX3_setPromise 16 = .ok (.ifCond .eq 18, 3) := by decide +kernel
theorem dX3_setPromise_19 : decode cX3_setPromise 19 = .ok (.iload_n 3, 1) := by decide +kernel
theorem dX3_setPromise_20 : decode cX3_setPromise 20 = .ok (.iconst 1, 1) := by decide +kernel
theorem dX3_setPromise_21 : decode cX3_setPromise 21 = .ok (.sipush 1000, 3) := by decide +kernel
theorem dX3_setPromise_24 : decode cX3_setPromise 24 = .ok (.invokestatic 69, 3) := by decide +kernel
theorem dX3_setPromise_27 : decode cX3_setPromise 27 = .ok (.ifCond .eq 7, 3) := by decide +kernel
theorem dX3_setPromise_30 : decode cX3_setPromise 30 = .ok (.iconst 1, 1) := by decide +kernel
theorem dX3_setPromise_31 : decode cX3_setPromise 31 = .ok (.goto 4, 3) := by decide +kernel
theorem dX3_setPromise_34 : decode cX3_setPromise 34 = .ok (.iconst 0, 1) := by decide +kernel
theorem dX3_setPromise_35 : decode cX3_setPromise 35 = .ok (.invokevirtual 87, 3) := by decide +kernel
theorem dX3_setPromise_38 : decode cX3_setPromise 38 = .ok (.ifCond .ne 5, 3) := by decide +kernel
theorem dX3_setPromise_41 : decode cX3_setPromise 41 = .ok (.iconst 0, 1) := by decide +kernel
theorem dX3_setPromise_42 : decode cX3_setPromise 42 = .ok (.ireturn, 1) := by decide +kernel
theorem dX3_setPromise_43 : decode cX3_setPromise 43 = .ok (.aload_n 0, 1) := by decide +kernel
theorem dX3_setPromise_44 : decode cX3_setPromise 44 = .ok (.getfield 31, 3) := by decide +kernel
theorem dX3_setPromise_47 : decode cX3_setPromise 47 = .ok (.iconst 3, 1) := by decide +kernel
theorem dX3_setPromise_48 : decode cX3_setPromise 48 = .ok (.iload_n 1, 1) := by decide +kernel
theorem dX3_setPromise_49 : decode cX3_setPromise 49 = .ok (.imul, 1) := by decide +kernel
theorem dX3_setPromise_50 : decode cX3_setPromise 50 = .ok (.iload_n 2, 1) := by decide +kernel
theorem dX3_setPromise_51 : decode cX3_setPromise 51 = .ok (.iadd, 1) := by decide +kernel
theorem dX3_setPromise_52 : decode cX3_setPromise 52 = .ok (.iaload, 1) := by decide +kernel
theorem dX3_setPromise_53 : decode cX3_setPromise 53 = .ok (.istore 4, 2) := by decide +kernel
theorem dX3_setPromise_55 : decode cX3_setPromise 55 = .ok (.aload_n 0, 1) := by decide +kernel
theorem dX3_setPromise_56 : decode cX3_setPromise 56 = .ok (.getfield 31, 3) := by decide +kernel
theorem dX3_setPromise_59 : decode cX3_setPromise 59 = .ok (.iconst 3, 1) := by decide +kernel
theorem dX3_setPromise_60 : decode cX3_setPromise 60 = .ok (.iload_n 1, 1) := by decide +kernel
theorem dX3_setPromise_61 : decode cX3_setPromise 61 = .ok (.imul, 1) := by decide +kernel
theorem dX3_setPromise_62 : decode cX3_setPromise 62 = .ok (.iload_n 2, 1) := by decide +kernel
theorem dX3_setPromise_63 : decode cX3_setPromise 63 = .ok (.iadd, 1) := by decide +kernel
theorem dX3_setPromise_64 : decode cX3_setPromise 64 = .ok (.iload_n 3, 1) := by decide +kernel
theorem dX3_setPromise_65 : decode cX3_setPromise 65 = .ok (.iastore, 1) := by decide +kernel
theorem dX3_setPromise_66 : decode cX3_setPromise 66 = .ok (.iload 4, 2) := by decide +kernel
theorem dX3_setPromise_68 : decode cX3_setPromise 68 = .ok (.ireturn, 1) := by decide +kernel
set_option maxRecDepth 20000 in
theorem ggX3_covered_X3_in : GoodIn wsX3_covered wsX3_in := goodIn_r _ [8] (by decide +kernel) (by decide +kernel)
set_option maxRecDepth 20000 in
theorem gX3_covered_X3_in : GoodIn wsX3_covered (va_wsS RX3 69 yX3_in wsX3_in) := goodIn_app (goodIn_of _ (by decide +kernel)) ggX3_covered_X3_in
theorem dX3_covered_0 : decode cX3_covered 0 = .ok (.iconst 0, 1) := by decide +kernel
theorem dX3_covered_1 : decode cX3_covered 1 = .ok (.istore 4, 2) := by decide +kernel
theorem dX3_covered_3 : decode cX3_covered 3 = .ok (.bipush 8, 2) := by decide +kernel
theorem dX3_covered_5 : decode cX3_covered 5 = .ok (.iload_n 1, 1) := by decide +kernel
theorem dX3_covered_6 : decode cX3_covered 6 = .ok (.imul, 1) := by decide +kernel
theorem dX3_covered_7 : decode cX3_covered 7 = .ok (.istore 5, 2) := by decide +kernel
theorem dX3_covered_9 : decode cX3_covered 9 = .ok (.iload 5, 2) := by decide +kernel
theorem dX3_covered_11 : decode cX3_covered 11 = .ok (.bipush 8, 2) := by decide +kernel
theorem dX3_covered_13 : decode cX3_covered 13 = .ok (.iload_n 1, 1) := by decide +kernel
theorem dX3_covered_14 : decode cX3_covered 14 = .ok (.imul, 1) := by decide +kernel
theorem dX3_covered_15 : decode cX3_covered 15 = .ok (.aload_n 0, 1) := by decide +kernel
theorem dX3_covered_16 : decode cX3_covered 16 = .ok (.getfield 28, 3) := by decide +kernel
theorem dX3_covered_19 : decode cX3_covered 19 = .ok (.iload_n 1, 1) := by decide +kernel
theorem dX3_covered_20 : decode cX3_covered 20 = .ok (.iaload, 1) := by decide +kernel
theorem dX3_covered_21 : decode cX3_covered 21 = .ok (.iadd, 1) := by decide +kernel
theorem dX3_covered_22 : decode cX3_covered 22 = .ok (.if_icmp .ge 57, 3) := by decide +kernel
theorem dX3_covered_25 : decode cX3_covered 25 = .ok (.iload 4, 2) := by decide +kernel
theorem dX3_covered_27 : decode cX3_covered 27 = .ok (.ifCond .ne 39, 3) := by decide +kernel
theorem dX3_covered_30 : decode cX3_covered 30 = .ok (.aload_n 0, 1) := by decide +kernel
theorem dX3_covered_31 : decode cX3_covered 31 = .ok (.getfield 19, 3) := by decide +kernel
theorem dX3_covered_34 : decode cX3_covered 34 = .ok (.iload 5, 2) := by decide +kernel
theorem dX3_covered_36 : decode cX3_covered 36 = .ok (.iaload, 1) := by decide +kernel
theorem dX3_covered_37 : decode cX3_covered 37 = .ok (.iload_n 2, 1) := by decide +kernel
theorem dX3_covered_38 : decode cX3_covered 38 = .ok (.ishr, 1) := by decide +kernel
theorem dX3_covered_39 : decode cX3_covered 39 = .ok (.iconst 1, 1) := by decide +kernel
theorem dX3_covered_40 : decode cX3_covered 40 = .ok (.iand, 1) := by decide +kernel
theorem dX3_covered_41 : decode cX3_covered 41 = .ok (.iconst 1, 1) := by decide +kernel
theorem dX3_covered_42 : decode cX3_covered 42 = .ok (.if_icmp .ne 28, 3) := by decide +kernel
theorem dX3_covered_45 : decode cX3_covered 45 = .ok (.iload_n 3, 1) := by decide +kernel
theorem dX3_covered_46 : decode cX3_covered 46 = .ok (.aload_n 0, 1) := by decide +kernel
theorem dX3_covered_47 : decode cX3_covered 47 = .ok (.getfield 22, 3) := by decide +kernel
theorem dX3_covered_50 : decode cX3_covered 50 = .ok (.iload 5, 2) := by decide +kernel
theorem dX3_covered_52 : decode cX3_covered 52 = .ok (.iaload, 1) := by decide +kernel
theorem dX3_covered_53 : decode cX3_covered 53 = .ok (.aload_n 0, 1) := by decide +kernel
theorem dX3_covered_54 : decode cX3_covered 54 = .ok (.getfield 25, 3) := by decide +kernel
theorem dX3_covered_57 : decode cX3_covered 57 = .ok (.iload 5, 2) := by decide +kernel
theorem dX3_covered_59 : decode cX3_covered 59 = .ok (.iaload, 1) := by decide +kernel
theorem dX3_covered_60 : decode cX3_covered 60 = .ok (.invokestatic 69, 3) := by decide +kernel
theorem dX3_covered_63 : decode cX3_covered 63 = .ok (.ifCond .eq 7, 3) := by decide +kernel
theorem dX3_covered_66 : decode cX3_covered 66 = .ok (.iconst 1, 1) := by decide +kernel
theorem dX3_covered_67 : decode cX3_covered 67 = .ok (.goto 4, 3) := by decide +kernel
theorem dX3_covered_70 : decode cX3_covered 70 = .ok (.iconst 0, 1) := by decide +kernel
theorem dX3_covered_71 : decode cX3_covered 71 = .ok (.istore 4, 2) := by decide +kernel
theorem dX3_covered_73 : decode cX3_covered 73 = .ok (.iinc 5 1, 3) := by decide +kernel
theorem dX3_covered_76 : decode cX3_covered 76 = .ok (.goto (-67), 3) := by decide +kernel
theorem dX3_covered_79 : decode cX3_covered 79 = .ok (.iload 4, 2) := by decide +kernel
theorem dX3_covered_81 : decode cX3_covered 81 = .ok (.ireturn, 1) := by decide +kernel
set_option maxRecDepth 20000 in
theorem ggX3_isCovered_X3_isSite : GoodIn wsX3_isCovered wsX3_isSite := goodIn_r _ [4, 5, 6, 3, 7] (by decide +kernel) (by decide +kernel)
set_option maxRecDepth 20000 in
theorem gX3_isCovered_X3_isSite : GoodIn wsX3_isCovered (va_wsS RX3 76 yX3_isSite wsX3_isSite) := goodIn_app (goodIn_of _ (by decide +kernel)) ggX3_isCovered_X3_isSite
set_option maxRecDepth 20000 in
theorem ggX3_isCovered_X3_isKind : GoodIn wsX3_isCovered wsX3_isKind := goodIn_r _ [10, 5, 6, 3, 7] (by decide +kernel) (by decide +kernel)
set_option maxRecDepth 20000 in
theorem gX3_isCovered_X3_isKind : GoodIn wsX3_isCovered (va_wsS RX3 90 yX3_isKind wsX3_isKind) := goodIn_app (goodIn_of _ (by decide +kernel)) ggX3_isCovered_X3_isKind
set_option maxRecDepth 20000 in
theorem ggX3_isCovered_X3_in : GoodIn wsX3_isCovered wsX3_in := goodIn_r _ [7] (by decide +kernel) (by decide +kernel)
set_option maxRecDepth 20000 in
theorem gX3_isCovered_X3_in : GoodIn wsX3_isCovered (va_wsS RX3 69 yX3_in wsX3_in) := goodIn_app (goodIn_of _ (by decide +kernel)) ggX3_isCovered_X3_in
set_option maxRecDepth 20000 in
theorem ggX3_isCovered_X3_asked_ : GoodIn wsX3_isCovered wsX3_asked_ := goodIn_r _ [14, 15, 24, 25, 26, 27, 28, 29, 30, 31, 32, 33, 34, 35, 36, 37, 38, 39, 40, 41, 42, 43, 44] (by decide +kernel) (by decide +kernel)
set_option maxRecDepth 20000 in
theorem gX3_isCovered_X3_asked_ : GoodIn wsX3_isCovered (wsV RX3 80 RX3 yX3_asked_ wsX3_asked_) := goodIn_app (goodIn_of _ (by decide +kernel)) ggX3_isCovered_X3_asked_
set_option maxRecDepth 20000 in
theorem ggX3_isCovered_X3_covered : GoodIn wsX3_isCovered wsX3_covered := goodIn_r _ [19, 20, 21, 22, 23, 5, 6, 3, 7, 24, 25, 26, 27, 28, 29, 30, 31, 32, 33, 34, 35, 36, 37, 38, 39, 40, 41, 42, 43, 44] (by decide +kernel) (by decide +kernel)
set_option maxRecDepth 20000 in
theorem gX3_isCovered_X3_covered : GoodIn wsX3_isCovered (wsV RX3 93 RX3 yX3_covered wsX3_covered) := goodIn_app (goodIn_of _ (by decide +kernel)) ggX3_isCovered_X3_covered
theorem dX3_isCovered_0 : decode cX3_isCovered 0 = .ok (.aload_n 0, 1) := by decide +kernel
theorem dX3_isCovered_1 : decode cX3_isCovered 1 = .ok (.iload_n 1, 1) := by decide +kernel
theorem dX3_isCovered_2 : decode cX3_isCovered 2 = .ok (.invokestatic 76, 3) := by decide +kernel
theorem dX3_isCovered_5 : decode cX3_isCovered 5 = .ok (.ifCond .eq 14, 3) := by decide +kernel
theorem dX3_isCovered_8 : decode cX3_isCovered 8 = .ok (.iload_n 2, 1) := by decide +kernel
theorem dX3_isCovered_9 : decode cX3_isCovered 9 = .ok (.invokestatic 90, 3) := by decide +kernel
theorem dX3_isCovered_12 : decode cX3_isCovered 12 = .ok (.ifCond .eq 7, 3) := by decide +kernel
theorem dX3_isCovered_15 : decode cX3_isCovered 15 = .ok (.iconst 1, 1) := by decide +kernel
theorem dX3_isCovered_16 : decode cX3_isCovered 16 = .ok (.goto 4, 3) := by decide +kernel
theorem dX3_isCovered_19 : decode cX3_isCovered 19 = .ok (.iconst 0, 1) := by decide +kernel
theorem dX3_isCovered_20 : decode cX3_isCovered 20 = .ok (.iload_n 3, 1) := by decide +kernel
theorem dX3_isCovered_21 : decode cX3_isCovered 21 = .ok (.iconst 0, 1) := by decide +kernel
theorem dX3_isCovered_22 : decode cX3_isCovered 22 = .ok (.sipush 1000, 3) := by decide +kernel
theorem dX3_isCovered_25 : decode cX3_isCovered 25 = .ok (.invokestatic 69, 3) := by decide +kernel
theorem dX3_isCovered_28 : decode cX3_isCovered 28 = .ok (.invokevirtual 80, 3) := by decide +kernel
theorem dX3_isCovered_31 : decode cX3_isCovered 31 = .ok (.ifCond .eq 17, 3) := by decide +kernel
theorem dX3_isCovered_34 : decode cX3_isCovered 34 = .ok (.aload_n 0, 1) := by decide +kernel
theorem dX3_isCovered_35 : decode cX3_isCovered 35 = .ok (.iload_n 1, 1) := by decide +kernel
theorem dX3_isCovered_36 : decode cX3_isCovered 36 = .ok (.iload_n 2, 1) := by decide +kernel
theorem dX3_isCovered_37 : decode cX3_isCovered 37 = .ok (.iload_n 3, 1) := by decide +kernel
theorem dX3_isCovered_38 : decode cX3_isCovered 38 = .ok (.invokevirtual 93, 3) := by decide +kernel
theorem dX3_isCovered_41 : decode cX3_isCovered 41 = .ok (.ifCond .eq 7, 3) := by decide +kernel
theorem dX3_isCovered_44 : decode cX3_isCovered 44 = .ok (.iconst 1, 1) := by decide +kernel
theorem dX3_isCovered_45 : decode cX3_isCovered 45 = .ok (.goto 4, 3) := by decide +kernel
theorem dX3_isCovered_48 : decode cX3_isCovered 48 = .ok (.iconst 0, 1) := by decide +kernel
theorem dX3_isCovered_49 : decode cX3_isCovered 49 = .ok (.ireturn, 1) := by decide +kernel
set_option maxRecDepth 20000 in
theorem ggX3_nextGap_X3_isSite : GoodIn wsX3_nextGap wsX3_isSite := goodIn_r _ [4, 5, 6, 3, 7] (by decide +kernel) (by decide +kernel)
set_option maxRecDepth 20000 in
theorem gX3_nextGap_X3_isSite : GoodIn wsX3_nextGap (va_wsS RX3 76 yX3_isSite wsX3_isSite) := goodIn_app (goodIn_of _ (by decide +kernel)) ggX3_nextGap_X3_isSite
set_option maxRecDepth 20000 in
theorem ggX3_nextGap_X3_isKind : GoodIn wsX3_nextGap wsX3_isKind := goodIn_r _ [10, 5, 6, 3, 7] (by decide +kernel) (by decide +kernel)
set_option maxRecDepth 20000 in
theorem gX3_nextGap_X3_isKind : GoodIn wsX3_nextGap (va_wsS RX3 90 yX3_isKind wsX3_isKind) := goodIn_app (goodIn_of _ (by decide +kernel)) ggX3_nextGap_X3_isKind
set_option maxRecDepth 20000 in
theorem ggX3_nextGap_X3_in : GoodIn wsX3_nextGap wsX3_in := goodIn_r _ [7] (by decide +kernel) (by decide +kernel)
set_option maxRecDepth 20000 in
theorem gX3_nextGap_X3_in : GoodIn wsX3_nextGap (va_wsS RX3 69 yX3_in wsX3_in) := goodIn_app (goodIn_of _ (by decide +kernel)) ggX3_nextGap_X3_in
set_option maxRecDepth 20000 in
theorem ggX3_nextGap_X3_asked_ : GoodIn wsX3_nextGap wsX3_asked_ := goodIn_r _ [14, 15, 24, 25, 26, 27, 28, 29, 30, 31, 32, 33, 34, 35, 36, 37, 38, 39, 40, 41, 42, 43, 44] (by decide +kernel) (by decide +kernel)
set_option maxRecDepth 20000 in
theorem gX3_nextGap_X3_asked_ : GoodIn wsX3_nextGap (wsV RX3 80 RX3 yX3_asked_ wsX3_asked_) := goodIn_app (goodIn_of _ (by decide +kernel)) ggX3_nextGap_X3_asked_
set_option maxRecDepth 20000 in
theorem ggX3_nextGap_X3_covered : GoodIn wsX3_nextGap wsX3_covered := goodIn_r _ [19, 20, 21, 22, 23, 5, 6, 3, 7, 24, 25, 26, 27, 28, 29, 30, 31, 32, 33, 34, 35, 36, 37, 38, 39, 40, 41, 42, 43, 44] (by decide +kernel) (by decide +kernel)
set_option maxRecDepth 20000 in
theorem gX3_nextGap_X3_covered : GoodIn wsX3_nextGap (wsV RX3 93 RX3 yX3_covered wsX3_covered) := goodIn_app (goodIn_of _ (by decide +kernel)) ggX3_nextGap_X3_covered
theorem dX3_nextGap_0 : decode cX3_nextGap 0 = .ok (.aload_n 0, 1) := by decide +kernel
theorem dX3_nextGap_1 : decode cX3_nextGap 1 = .ok (.iload_n 1, 1) := by decide +kernel
theorem dX3_nextGap_2 : decode cX3_nextGap 2 = .ok (.invokestatic 76, 3) := by decide +kernel
theorem dX3_nextGap_5 : decode cX3_nextGap 5 = .ok (.ifCond .eq 14, 3) := by decide +kernel
theorem dX3_nextGap_8 : decode cX3_nextGap 8 = .ok (.iload_n 2, 1) := by decide +kernel
theorem dX3_nextGap_9 : decode cX3_nextGap 9 = .ok (.invokestatic 90, 3) := by decide +kernel
theorem dX3_nextGap_12 : decode cX3_nextGap 12 = .ok (.ifCond .eq 7, 3) := by decide +kernel
theorem dX3_nextGap_15 : decode cX3_nextGap 15 = .ok (.iconst 1, 1) := by decide +kernel
theorem dX3_nextGap_16 : decode cX3_nextGap 16 = .ok (.goto 4, 3) := by decide +kernel
theorem dX3_nextGap_19 : decode cX3_nextGap 19 = .ok (.iconst 0, 1) := by decide +kernel
theorem dX3_nextGap_20 : decode cX3_nextGap 20 = .ok (.iload_n 3, 1) := by decide +kernel
theorem dX3_nextGap_21 : decode cX3_nextGap 21 = .ok (.iconst 0, 1) := by decide +kernel
theorem dX3_nextGap_22 : decode cX3_nextGap 22 = .ok (.sipush 1000, 3) := by decide +kernel
theorem dX3_nextGap_25 : decode cX3_nextGap 25 = .ok (.invokestatic 69, 3) := by decide +kernel
theorem dX3_nextGap_28 : decode cX3_nextGap 28 = .ok (.invokevirtual 80, 3) := by decide +kernel
theorem dX3_nextGap_31 : decode cX3_nextGap 31 = .ok (.ifCond .ne 5, 3) := by decide +kernel
theorem dX3_nextGap_34 : decode cX3_nextGap 34 = .ok (.iconst 0, 1) := by decide +kernel
theorem dX3_nextGap_35 : decode cX3_nextGap 35 = .ok (.ireturn, 1) := by decide +kernel
theorem dX3_nextGap_36 : decode cX3_nextGap 36 = .ok (.iload_n 3, 1) := by decide +kernel
theorem dX3_nextGap_37 : decode cX3_nextGap 37 = .ok (.istore 4, 2) := by decide +kernel
theorem dX3_nextGap_39 : decode cX3_nextGap 39 = .ok (.iload 4, 2) := by decide +kernel
theorem dX3_nextGap_41 : decode cX3_nextGap 41 = .ok (.sipush 1000, 3) := by decide +kernel
theorem dX3_nextGap_44 : decode cX3_nextGap 44 = .ok (.if_icmp .gt 23, 3) := by decide +kernel
theorem dX3_nextGap_47 : decode cX3_nextGap 47 = .ok (.aload_n 0, 1) := by decide +kernel
theorem dX3_nextGap_48 : decode cX3_nextGap 48 = .ok (.iload_n 1, 1) := by decide +kernel
theorem dX3_nextGap_49 : decode cX3_nextGap 49 = .ok (.iload_n 2, 1) := by decide +kernel
theorem dX3_nextGap_50 : decode cX3_nextGap 50 = .ok (.iload 4, 2) := by decide +kernel
theorem dX3_nextGap_52 : decode cX3_nextGap 52 = .ok (.invokevirtual 93, 3) := by decide +kernel
theorem dX3_nextGap_55 : decode cX3_nextGap 55 = .ok (.ifCond .ne 6, 3) := by decide +kernel
theorem dX3_nextGap_58 : decode cX3_nextGap 58 = .ok (.iload 4, 2) := by decide +kernel
theorem dX3_nextGap_60 : decode cX3_nextGap 60 = .ok (.ireturn, 1) := by decide +kernel
theorem dX3_nextGap_61 : decode cX3_nextGap 61 = .ok (.iinc 4 1, 3) := by decide +kernel
theorem dX3_nextGap_64 : decode cX3_nextGap 64 = .ok (.goto (-25), 3) := by decide +kernel
theorem dX3_nextGap_67 : decode cX3_nextGap 67 = .ok (.iconst (-1), 1) := by decide +kernel
theorem dX3_nextGap_68 : decode cX3_nextGap 68 = .ok (.ireturn, 1) := by decide +kernel
set_option maxRecDepth 20000 in
theorem ggX3_counts_X3_in : GoodIn wsX3_counts wsX3_in := goodIn_r _ [7] (by decide +kernel) (by decide +kernel)
set_option maxRecDepth 20000 in
theorem gX3_counts_X3_in : GoodIn wsX3_counts (va_wsS RX3 69 yX3_in wsX3_in) := goodIn_app (goodIn_of _ (by decide +kernel)) ggX3_counts_X3_in
theorem dX3_counts_0 : decode cX3_counts 0 = .ok (.aload_n 0, 1) := by decide +kernel
theorem dX3_counts_1 : decode cX3_counts 1 = .ok (.getfield 7, 3) := by decide +kernel
theorem dX3_counts_4 : decode cX3_counts 4 = .ok (.iload_n 1, 1) := by decide +kernel
theorem dX3_counts_5 : decode cX3_counts 5 = .ok (.iaload, 1) := by decide +kernel
theorem dX3_counts_6 : decode cX3_counts 6 = .ok (.iload_n 2, 1) := by decide +kernel
theorem dX3_counts_7 : decode cX3_counts 7 = .ok (.bipush 24, 2) := by decide +kernel
theorem dX3_counts_9 : decode cX3_counts 9 = .ok (.idiv, 1) := by decide +kernel
theorem dX3_counts_10 : decode cX3_counts 10 = .ok (.bipush 7, 2) := by decide +kernel
theorem dX3_counts_12 : decode cX3_counts 12 = .ok (.irem, 1) := by decide +kernel
theorem dX3_counts_13 : decode cX3_counts 13 = .ok (.ishr, 1) := by decide +kernel
theorem dX3_counts_14 : decode cX3_counts 14 = .ok (.iconst 1, 1) := by decide +kernel
theorem dX3_counts_15 : decode cX3_counts 15 = .ok (.iand, 1) := by decide +kernel
theorem dX3_counts_16 : decode cX3_counts 16 = .ok (.iconst 1, 1) := by decide +kernel
theorem dX3_counts_17 : decode cX3_counts 17 = .ok (.if_icmp .ne 29, 3) := by decide +kernel
theorem dX3_counts_20 : decode cX3_counts 20 = .ok (.iload_n 2, 1) := by decide +kernel
theorem dX3_counts_21 : decode cX3_counts 21 = .ok (.bipush 24, 2) := by decide +kernel
theorem dX3_counts_23 : decode cX3_counts 23 = .ok (.irem, 1) := by decide +kernel
theorem dX3_counts_24 : decode cX3_counts 24 = .ok (.aload_n 0, 1) := by decide +kernel
theorem dX3_counts_25 : decode cX3_counts 25 = .ok (.getfield 13, 3) := by decide +kernel
theorem dX3_counts_28 : decode cX3_counts 28 = .ok (.iload_n 1, 1) := by decide +kernel
theorem dX3_counts_29 : decode cX3_counts 29 = .ok (.iaload, 1) := by decide +kernel
theorem dX3_counts_30 : decode cX3_counts 30 = .ok (.aload_n 0, 1) := by decide +kernel
theorem dX3_counts_31 : decode cX3_counts 31 = .ok (.getfield 16, 3) := by decide +kernel
theorem dX3_counts_34 : decode cX3_counts 34 = .ok (.iload_n 1, 1) := by decide +kernel
theorem dX3_counts_35 : decode cX3_counts 35 = .ok (.iaload, 1) := by decide +kernel
theorem dX3_counts_36 : decode cX3_counts 36 = .ok (.invokestatic 69, 3) := by decide +kernel
theorem dX3_counts_39 : decode cX3_counts 39 = .ok (.ifCond .eq 7, 3) := by decide +kernel
theorem dX3_counts_42 : decode cX3_counts 42 = .ok (.iconst 1, 1) := by decide +kernel
theorem dX3_counts_43 : decode cX3_counts 43 = .ok (.goto 4, 3) := by decide +kernel
theorem dX3_counts_46 : decode cX3_counts 46 = .ok (.iconst 0, 1) := by decide +kernel
theorem dX3_counts_47 : decode cX3_counts 47 = .ok (.ireturn, 1) := by decide +kernel
set_option maxRecDepth 20000 in
theorem ggX3_pass_X3_in : GoodIn wsX3_pass wsX3_in := goodIn_r _ [11] (by decide +kernel) (by decide +kernel)
set_option maxRecDepth 20000 in
theorem gX3_pass_X3_in : GoodIn wsX3_pass (va_wsS RX3 69 yX3_in wsX3_in) := goodIn_app (goodIn_of _ (by decide +kernel)) ggX3_pass_X3_in
set_option maxRecDepth 20000 in
theorem ggX3_pass_X3_asked_ : GoodIn wsX3_pass wsX3_asked_ := goodIn_r _ [15, 16, 24, 25, 26, 27, 28, 29, 30, 31, 32, 33, 34, 35, 36, 37, 38, 39, 40, 41, 42, 43, 44] (by decide +kernel) (by decide +kernel)
set_option maxRecDepth 20000 in
theorem gX3_pass_X3_asked_ : GoodIn wsX3_pass (wsV RX3 80 RX3 yX3_asked_ wsX3_asked_) := goodIn_app (goodIn_of _ (by decide +kernel)) ggX3_pass_X3_asked_
set_option maxRecDepth 20000 in
theorem ggX3_pass_X3_counts : GoodIn wsX3_pass wsX3_counts := goodIn_r _ [20, 21, 22, 23, 8, 9, 10, 11, 24, 25, 26, 27, 28, 29, 30, 31, 32, 33, 34, 35, 36, 37, 38, 39, 40, 41, 42, 43, 44] (by decide +kernel) (by decide +kernel)
set_option maxRecDepth 20000 in
theorem gX3_pass_X3_counts : GoodIn wsX3_pass (wsV RX3 99 RX3 yX3_counts wsX3_counts) := goodIn_app (goodIn_of _ (by decide +kernel)) ggX3_pass_X3_counts
theorem dX3_pass_0 : decode cX3_pass 0 = .ok (.iload_n 1, 1) := by decide +kernel
theorem dX3_pass_1 : decode cX3_pass 1 = .ok (.iconst 1, 1) := by decide +kernel
theorem dX3_pass_2 : decode cX3_pass 2 = .ok (.sipush 1000, 3) := by decide +kernel
theorem dX3_pass_5 : decode cX3_pass 5 = .ok (.invokestatic 69, 3) := by decide +kernel
theorem dX3_pass_8 : decode cX3_pass 8 = .ok (.istore_n 2, 1) := by decide +kernel
theorem dX3_pass_9 : decode cX3_pass 9 = .ok (.aload_n 0, 1) := by decide +kernel
theorem dX3_pass_10 : decode cX3_pass 10 = .ok (.iload_n 2, 1) := by decide +kernel
theorem dX3_pass_11 : decode cX3_pass 11 = .ok (.iload_n 2, 1) := by decide +kernel
theorem dX3_pass_12 : decode cX3_pass 12 = .ok (.ifCond .eq 19, 3) := by decide +kernel
theorem dX3_pass_15 : decode cX3_pass 15 = .ok (.aload_n 0, 1) := by decide +kernel
theorem dX3_pass_16 : decode cX3_pass 16 = .ok (.getfield 96, 3) := by decide +kernel
theorem dX3_pass_19 : decode cX3_pass 19 = .ok (.iload_n 1, 1) := by decide +kernel
theorem dX3_pass_20 : decode cX3_pass 20 = .ok (.iadd, 1) := by decide +kernel
theorem dX3_pass_21 : decode cX3_pass 21 = .ok (.sipush 24000, 3) := by decide +kernel
theorem dX3_pass_24 : decode cX3_pass 24 = .ok (.if_icmp .gt 7, 3) := by decide +kernel
theorem dX3_pass_27 : decode cX3_pass 27 = .ok (.iconst 1, 1) := by decide +kernel
theorem dX3_pass_28 : decode cX3_pass 28 = .ok (.goto 4, 3) := by decide +kernel
theorem dX3_pass_31 : decode cX3_pass 31 = .ok (.iconst 0, 1) := by decide +kernel
theorem dX3_pass_32 : decode cX3_pass 32 = .ok (.invokevirtual 80, 3) := by decide +kernel
theorem dX3_pass_35 : decode cX3_pass 35 = .ok (.ifCond .ne 5, 3) := by decide +kernel
theorem dX3_pass_38 : decode cX3_pass 38 = .ok (.iconst 0, 1) := by decide +kernel
theorem dX3_pass_39 : decode cX3_pass 39 = .ok (.ireturn, 1) := by decide +kernel
theorem dX3_pass_40 : decode cX3_pass 40 = .ok (.iconst 0, 1) := by decide +kernel
theorem dX3_pass_41 : decode cX3_pass 41 = .ok (.istore_n 3, 1) := by decide +kernel
theorem dX3_pass_42 : decode cX3_pass 42 = .ok (.iload_n 3, 1) := by decide +kernel
theorem dX3_pass_43 : decode cX3_pass 43 = .ok (.iload_n 1, 1) := by decide +kernel
theorem dX3_pass_44 : decode cX3_pass 44 = .ok (.if_icmp .ge 125, 3) := by decide +kernel
theorem dX3_pass_47 : decode cX3_pass 47 = .ok (.iconst 0, 1) := by decide +kernel
theorem dX3_pass_48 : decode cX3_pass 48 = .ok (.istore 4, 2) := by decide +kernel
theorem dX3_pass_50 : decode cX3_pass 50 = .ok (.iload 4, 2) := by decide +kernel
theorem dX3_pass_52 : decode cX3_pass 52 = .ok (.aload_n 0, 1) := by decide +kernel
theorem dX3_pass_53 : decode cX3_pass 53 = .ok (.getfield 73, 3) := by decide +kernel
theorem dX3_pass_56 : decode cX3_pass 56 = .ok (.if_icmp .ge 97, 3) := by decide +kernel
theorem dX3_pass_59 : decode cX3_pass 59 = .ok (.aload_n 0, 1) := by decide +kernel
theorem dX3_pass_60 : decode cX3_pass 60 = .ok (.getfield 43, 3) := by decide +kernel
theorem dX3_pass_63 : decode cX3_pass 63 = .ok (.iload 4, 2) := by decide +kernel
theorem dX3_pass_65 : decode cX3_pass 65 = .ok (.iaload, 1) := by decide +kernel
theorem dX3_pass_66 : decode cX3_pass 66 = .ok (.ifCond .ne 81, 3) := by decide +kernel
theorem dX3_pass_69 : decode cX3_pass 69 = .ok (.aload_n 0, 1) := by decide +kernel
theorem dX3_pass_70 : decode cX3_pass 70 = .ok (.getfield 49, 3) := by decide +kernel
theorem dX3_pass_73 : decode cX3_pass 73 = .ok (.iload 4, 2) := by decide +kernel
theorem dX3_pass_75 : decode cX3_pass 75 = .ok (.baload, 1) := by decide +kernel
theorem dX3_pass_76 : decode cX3_pass 76 = .ok (.ifCond .ne 71, 3) := by decide +kernel
theorem dX3_pass_79 : decode cX3_pass 79 = .ok (.aload_n 0, 1) := by decide +kernel
theorem dX3_pass_80 : decode cX3_pass 80 = .ok (.aload_n 0, 1) := by decide +kernel
theorem dX3_pass_81 : decode cX3_pass 81 = .ok (.getfield 34, 3) := by decide +kernel
theorem dX3_pass_84 : decode cX3_pass 84 = .ok (.iload 4, 2) := by decide +kernel
theorem dX3_pass_86 : decode cX3_pass 86 = .ok (.iaload, 1) := by decide +kernel
theorem dX3_pass_87 : decode cX3_pass 87 = .ok (.aload_n 0, 1) := by decide +kernel
theorem dX3_pass_88 : decode cX3_pass 88 = .ok (.getfield 96, 3) := by decide +kernel
theorem dX3_pass_91 : decode cX3_pass 91 = .ok (.invokevirtual 99, 3) := by decide +kernel
theorem dX3_pass_94 : decode cX3_pass 94 = .ok (.ifCond .eq 53, 3) := by decide +kernel
theorem dX3_pass_97 : decode cX3_pass 97 = .ok (.iconst 0, 1) := by decide +kernel
theorem dX3_pass_98 : decode cX3_pass 98 = .ok (.istore 5, 2) := by decide +kernel
theorem dX3_pass_100 : decode cX3_pass 100 = .ok (.iload 5, 2) := by decide +kernel
theorem dX3_pass_102 : decode cX3_pass 102 = .ok (.iconst 2, 1) := by decide +kernel
theorem dX3_pass_103 : decode cX3_pass 103 = .ok (.if_icmp .gt 44, 3) := by decide +kernel
theorem dX3_pass_106 : decode cX3_pass 106 = .ok (.aload_n 0, 1) := by decide +kernel
theorem dX3_pass_107 : decode cX3_pass 107 = .ok (.getfield 53, 3) := by decide +kernel
theorem dX3_pass_110 : decode cX3_pass 110 = .ok (.iconst 3, 1) := by decide +kernel
theorem dX3_pass_111 : decode cX3_pass 111 = .ok (.iload 4, 2) := by decide +kernel
theorem dX3_pass_113 : decode cX3_pass 113 = .ok (.imul, 1) := by decide +kernel
theorem dX3_pass_114 : decode cX3_pass 114 = .ok (.iload 5, 2) := by decide +kernel
theorem dX3_pass_116 : decode cX3_pass 116 = .ok (.iadd, 1) := by decide +kernel
theorem dX3_pass_117 : decode cX3_pass 117 = .ok (.dup2, 1) := by decide +kernel
theorem dX3_pass_118 : decode cX3_pass 118 = .ok (.iaload, 1) := by decide +kernel
theorem dX3_pass_119 : decode cX3_pass 119 = .ok (.aload_n 0, 1) := by decide +kernel
theorem dX3_pass_120 : decode cX3_pass 120 = .ok (.getfield 56, 3) := by decide +kernel
theorem dX3_pass_123 : decode cX3_pass 123 = .ok (.iconst 3, 1) := by decide +kernel
theorem dX3_pass_124 : decode cX3_pass 124 = .ok (.iload 4, 2) := by decide +kernel
theorem dX3_pass_126 : decode cX3_pass 126 = .ok (.imul, 1) := by decide +kernel
theorem dX3_pass_127 : decode cX3_pass 127 = .ok (.iload 5, 2) := by decide +kernel
theorem dX3_pass_129 : decode cX3_pass 129 = .ok (.iadd, 1) := by decide +kernel
theorem dX3_pass_130 : decode cX3_pass 130 = .ok (.baload, 1) := by decide +kernel
theorem dX3_pass_131 : decode cX3_pass 131 = .ok (.ifCond .eq 7, 3) := by decide +kernel
theorem dX3_pass_134 : decode cX3_pass 134 = .ok (.iconst 0, 1) := by decide +kernel
theorem dX3_pass_135 : decode cX3_pass 135 = .ok (.goto 4, 3) := by decide +kernel
theorem dX3_pass_138 : decode cX3_pass 138 = .ok (.iconst 1, 1) := by decide +kernel
theorem dX3_pass_139 : decode cX3_pass 139 = .ok (.iadd, 1) := by decide +kernel
theorem dX3_pass_140 : decode cX3_pass 140 = .ok (.iastore, 1) := by decide +kernel
theorem dX3_pass_141 : decode cX3_pass 141 = .ok (.iinc 5 1, 3) := by decide +kernel
theorem dX3_pass_144 : decode cX3_pass 144 = .ok (.goto (-44), 3) := by decide +kernel
theorem dX3_pass_147 : decode cX3_pass 147 = .ok (.iinc 4 1, 3) := by decide +kernel
theorem dX3_pass_150 : decode cX3_pass 150 = .ok (.goto (-100), 3) := by decide +kernel
theorem dX3_pass_153 : decode cX3_pass 153 = .ok (.aload_n 0, 1) := by decide +kernel
theorem dX3_pass_154 : decode cX3_pass 154 = .ok (.dup, 1) := by decide +kernel
theorem dX3_pass_155 : decode cX3_pass 155 = .ok (.getfield 96, 3) := by decide +kernel
theorem dX3_pass_158 : decode cX3_pass 158 = .ok (.iconst 1, 1) := by decide +kernel
theorem dX3_pass_159 : decode cX3_pass 159 = .ok (.iadd, 1) := by decide +kernel
theorem dX3_pass_160 : decode cX3_pass 160 = .ok (.putfield 96, 3) := by decide +kernel
theorem dX3_pass_163 : decode cX3_pass 163 = .ok (.iinc 3 1, 3) := by decide +kernel
theorem dX3_pass_166 : decode cX3_pass 166 = .ok (.goto (-124), 3) := by decide +kernel
theorem dX3_pass_169 : decode cX3_pass 169 = .ok (.aload_n 0, 1) := by decide +kernel
theorem dX3_pass_170 : decode cX3_pass 170 = .ok (.getfield 96, 3) := by decide +kernel
theorem dX3_pass_173 : decode cX3_pass 173 = .ok (.ireturn, 1) := by decide +kernel
set_option maxRecDepth 20000 in
theorem ggX3_time_X3_told : GoodIn wsX3_time wsX3_told := goodIn_r _ [6, 7, 8, 9, 10, 11, 12, 13, 14, 15, 16, 17, 18, 19, 20, 21, 22, 23, 24, 25, 26, 27, 28] (by decide +kernel) (by decide +kernel)
set_option maxRecDepth 20000 in
theorem gX3_time_X3_told : GoodIn wsX3_time (wsV RX3 103 RX3 yX3_told wsX3_told) := goodIn_app (goodIn_of _ (by decide +kernel)) ggX3_time_X3_told
theorem dX3_time_0 : decode cX3_time 0 = .ok (.aload_n 0, 1) := by decide +kernel
theorem dX3_time_1 : decode cX3_time 1 = .ok (.aload_n 0, 1) := by decide +kernel
theorem dX3_time_2 : decode cX3_time 2 = .ok (.getfield 96, 3) := by decide +kernel
theorem dX3_time_5 : decode cX3_time 5 = .ok (.invokevirtual 103, 3) := by decide +kernel
theorem dX3_time_8 : decode cX3_time 8 = .ok (.ireturn, 1) := by decide +kernel
set_option maxRecDepth 20000 in
theorem ggX3_hours_X3_isSite : GoodIn wsX3_hours wsX3_isSite := goodIn_r _ [4, 5, 6, 3, 7] (by decide +kernel) (by decide +kernel)
set_option maxRecDepth 20000 in
theorem gX3_hours_X3_isSite : GoodIn wsX3_hours (va_wsS RX3 76 yX3_isSite wsX3_isSite) := goodIn_app (goodIn_of _ (by decide +kernel)) ggX3_hours_X3_isSite
set_option maxRecDepth 20000 in
theorem ggX3_hours_X3_in : GoodIn wsX3_hours wsX3_in := goodIn_r _ [7] (by decide +kernel) (by decide +kernel)
set_option maxRecDepth 20000 in
theorem gX3_hours_X3_in : GoodIn wsX3_hours (va_wsS RX3 69 yX3_in wsX3_in) := goodIn_app (goodIn_of _ (by decide +kernel)) ggX3_hours_X3_in
set_option maxRecDepth 20000 in
theorem ggX3_hours_X3_asked_ : GoodIn wsX3_hours wsX3_asked_ := goodIn_r _ [11, 12, 20, 21, 22, 23, 24, 25, 26, 27, 28, 29, 30, 31, 32, 33, 34, 35, 36, 37, 38, 39, 40] (by decide +kernel) (by decide +kernel)
set_option maxRecDepth 20000 in
theorem gX3_hours_X3_asked_ : GoodIn wsX3_hours (wsV RX3 80 RX3 yX3_asked_ wsX3_asked_) := goodIn_app (goodIn_of _ (by decide +kernel)) ggX3_hours_X3_asked_
set_option maxRecDepth 20000 in
theorem ggX3_hours_X3_counts : GoodIn wsX3_hours wsX3_counts := goodIn_r _ [16, 17, 18, 19, 5, 6, 3, 7, 20, 21, 22, 23, 24, 25, 26, 27, 28, 29, 30, 31, 32, 33, 34, 35, 36, 37, 38, 39, 40] (by decide +kernel) (by decide +kernel)
set_option maxRecDepth 20000 in
theorem gX3_hours_X3_counts : GoodIn wsX3_hours (wsV RX3 99 RX3 yX3_counts wsX3_counts) := goodIn_app (goodIn_of _ (by decide +kernel)) ggX3_hours_X3_counts
theorem dX3_hours_0 : decode cX3_hours 0 = .ok (.iconst 0, 1) := by decide +kernel
theorem dX3_hours_1 : decode cX3_hours 1 = .ok (.istore 4, 2) := by decide +kernel
theorem dX3_hours_3 : decode cX3_hours 3 = .ok (.aload_n 0, 1) := by decide +kernel
theorem dX3_hours_4 : decode cX3_hours 4 = .ok (.iload_n 1, 1) := by decide +kernel
theorem dX3_hours_5 : decode cX3_hours 5 = .ok (.invokestatic 76, 3) := by decide +kernel
theorem dX3_hours_8 : decode cX3_hours 8 = .ok (.iload_n 2, 1) := by decide +kernel
theorem dX3_hours_9 : decode cX3_hours 9 = .ok (.iconst 0, 1) := by decide +kernel
theorem dX3_hours_10 : decode cX3_hours 10 = .ok (.sipush 24000, 3) := by decide +kernel
theorem dX3_hours_13 : decode cX3_hours 13 = .ok (.invokestatic 69, 3) := by decide +kernel
theorem dX3_hours_16 : decode cX3_hours 16 = .ok (.ifCond .eq 18, 3) := by decide +kernel
theorem dX3_hours_19 : decode cX3_hours 19 = .ok (.iload_n 3, 1) := by decide +kernel
theorem dX3_hours_20 : decode cX3_hours 20 = .ok (.iload_n 2, 1) := by decide +kernel
theorem dX3_hours_21 : decode cX3_hours 21 = .ok (.sipush 24000, 3) := by decide +kernel
theorem dX3_hours_24 : decode cX3_hours 24 = .ok (.invokestatic 69, 3) := by decide +kernel
theorem dX3_hours_27 : decode cX3_hours 27 = .ok (.ifCond .eq 7, 3) := by decide +kernel
theorem dX3_hours_30 : decode cX3_hours 30 = .ok (.iconst 1, 1) := by decide +kernel
theorem dX3_hours_31 : decode cX3_hours 31 = .ok (.goto 4, 3) := by decide +kernel
theorem dX3_hours_34 : decode cX3_hours 34 = .ok (.iconst 0, 1) := by decide +kernel
theorem dX3_hours_35 : decode cX3_hours 35 = .ok (.invokevirtual 80, 3) := by decide +kernel
theorem dX3_hours_38 : decode cX3_hours 38 = .ok (.istore 5, 2) := by decide +kernel
theorem dX3_hours_40 : decode cX3_hours 40 = .ok (.iload_n 2, 1) := by decide +kernel
theorem dX3_hours_41 : decode cX3_hours 41 = .ok (.istore 6, 2) := by decide +kernel
theorem dX3_hours_43 : decode cX3_hours 43 = .ok (.iload 5, 2) := by decide +kernel
theorem dX3_hours_45 : decode cX3_hours 45 = .ok (.ifCond .eq 35, 3) := by decide +kernel
theorem dX3_hours_48 : decode cX3_hours 48 = .ok (.iload 6, 2) := by decide +kernel
theorem dX3_hours_50 : decode cX3_hours 50 = .ok (.iload_n 3, 1) := by decide +kernel
theorem dX3_hours_51 : decode cX3_hours 51 = .ok (.if_icmp .ge 29, 3) := by decide +kernel
theorem dX3_hours_54 : decode cX3_hours 54 = .ok (.iload 4, 2) := by decide +kernel
theorem dX3_hours_56 : decode cX3_hours 56 = .ok (.aload_n 0, 1) := by decide +kernel
theorem dX3_hours_57 : decode cX3_hours 57 = .ok (.iload_n 1, 1) := by decide +kernel
theorem dX3_hours_58 : decode cX3_hours 58 = .ok (.iload 6, 2) := by decide +kernel
theorem dX3_hours_60 : decode cX3_hours 60 = .ok (.invokevirtual 99, 3) := by decide +kernel
theorem dX3_hours_63 : decode cX3_hours 63 = .ok (.ifCond .eq 7, 3) := by decide +kernel
theorem dX3_hours_66 : decode cX3_hours 66 = .ok (.iconst 1, 1) := by decide +kernel
theorem dX3_hours_67 : decode cX3_hours 67 = .ok (.goto 4, 3) := by decide +kernel
theorem dX3_hours_70 : decode cX3_hours 70 = .ok (.iconst 0, 1) := by decide +kernel
theorem dX3_hours_71 : decode cX3_hours 71 = .ok (.iadd, 1) := by decide +kernel
theorem dX3_hours_72 : decode cX3_hours 72 = .ok (.istore 4, 2) := by decide +kernel
theorem dX3_hours_74 : decode cX3_hours 74 = .ok (.iinc 6 1, 3) := by decide +kernel
theorem dX3_hours_77 : decode cX3_hours 77 = .ok (.goto (-34), 3) := by decide +kernel
theorem dX3_hours_80 : decode cX3_hours 80 = .ok (.iload 4, 2) := by decide +kernel
theorem dX3_hours_82 : decode cX3_hours 82 = .ok (.ireturn, 1) := by decide +kernel
set_option maxRecDepth 20000 in
theorem ggX3_hoursOneByOne_X3_hours : GoodIn wsX3_hoursOneByOne wsX3_hours := goodIn_r _ [5, 6, 7, 4, 8, 9, 10, 11, 12, 13, 14, 15, 16, 17, 18, 19, 20, 21, 22, 23, 24, 25, 26, 27, 28, 29, 30, 31, 32, 33, 34, 35, 36, 37, 38, 39, 40, 41, 42, 43, 44] (by decide +kernel) (by decide +kernel)
set_option maxRecDepth 20000 in
theorem gX3_hoursOneByOne_X3_hours : GoodIn wsX3_hoursOneByOne (wsV RX3 107 RX3 yX3_hours wsX3_hours) := goodIn_app (goodIn_of _ (by decide +kernel)) ggX3_hoursOneByOne_X3_hours
theorem dX3_hoursOneByOne_0 : decode cX3_hoursOneByOne 0 = .ok (.aload_n 0, 1) := by decide +kernel
theorem dX3_hoursOneByOne_1 : decode cX3_hoursOneByOne 1 = .ok (.iload_n 1, 1) := by decide +kernel
theorem dX3_hoursOneByOne_2 : decode cX3_hoursOneByOne 2 = .ok (.iload_n 2, 1) := by decide +kernel
theorem dX3_hoursOneByOne_3 : decode cX3_hoursOneByOne 3 = .ok (.iload_n 3, 1) := by decide +kernel
theorem dX3_hoursOneByOne_4 : decode cX3_hoursOneByOne 4 = .ok (.invokevirtual 107, 3) := by decide +kernel
theorem dX3_hoursOneByOne_7 : decode cX3_hoursOneByOne 7 = .ok (.ireturn, 1) := by decide +kernel
set_option maxRecDepth 20000 in
theorem ggX3_open_X3_isSite : GoodIn wsX3_open wsX3_isSite := goodIn_r _ [10, 11, 12, 9, 13] (by decide +kernel) (by decide +kernel)
set_option maxRecDepth 20000 in
theorem gX3_open_X3_isSite : GoodIn wsX3_open (va_wsS RX3 76 yX3_isSite wsX3_isSite) := goodIn_app (goodIn_of _ (by decide +kernel)) ggX3_open_X3_isSite
set_option maxRecDepth 20000 in
theorem ggX3_open_X3_isKind : GoodIn wsX3_open wsX3_isKind := goodIn_r _ [16, 11, 12, 9, 13] (by decide +kernel) (by decide +kernel)
set_option maxRecDepth 20000 in
theorem gX3_open_X3_isKind : GoodIn wsX3_open (va_wsS RX3 90 yX3_isKind wsX3_isKind) := goodIn_app (goodIn_of _ (by decide +kernel)) ggX3_open_X3_isKind
set_option maxRecDepth 20000 in
theorem ggX3_open_X3_in : GoodIn wsX3_open wsX3_in := goodIn_r _ [13] (by decide +kernel) (by decide +kernel)
set_option maxRecDepth 20000 in
theorem gX3_open_X3_in : GoodIn wsX3_open (va_wsS RX3 69 yX3_in wsX3_in) := goodIn_app (goodIn_of _ (by decide +kernel)) ggX3_open_X3_in
set_option maxRecDepth 20000 in
theorem ggX3_open_X3_asked__ : GoodIn wsX3_open wsX3_asked__ := goodIn_r _ [20, 21, 22, 23, 24, 25, 26, 27, 28, 29, 30, 31, 32, 33, 34, 35, 36, 37, 38, 39, 40, 41, 42] (by decide +kernel) (by decide +kernel)
set_option maxRecDepth 20000 in
theorem gX3_open_X3_asked__ : GoodIn wsX3_open (wsV RX3 84 RX3 yX3_asked__ wsX3_asked__) := goodIn_app (goodIn_of _ (by decide +kernel)) ggX3_open_X3_asked__
theorem dX3_open_0 : decode cX3_open 0 = .ok (.aload_n 0, 1) := by decide +kernel
theorem dX3_open_1 : decode cX3_open 1 = .ok (.iload_n 1, 1) := by decide +kernel
theorem dX3_open_2 : decode cX3_open 2 = .ok (.invokestatic 76, 3) := by decide +kernel
theorem dX3_open_5 : decode cX3_open 5 = .ok (.ifCond .eq 14, 3) := by decide +kernel
theorem dX3_open_8 : decode cX3_open 8 = .ok (.iload_n 2, 1) := by decide +kernel
theorem dX3_open_9 : decode cX3_open 9 = .ok (.invokestatic 90, 3) := by decide +kernel
theorem dX3_open_12 : decode cX3_open 12 = .ok (.ifCond .eq 7, 3) := by decide +kernel
theorem dX3_open_15 : decode cX3_open 15 = .ok (.iconst 1, 1) := by decide +kernel
theorem dX3_open_16 : decode cX3_open 16 = .ok (.goto 4, 3) := by decide +kernel
theorem dX3_open_19 : decode cX3_open 19 = .ok (.iconst 0, 1) := by decide +kernel
theorem dX3_open_20 : decode cX3_open 20 = .ok (.iload_n 3, 1) := by decide +kernel
theorem dX3_open_21 : decode cX3_open 21 = .ok (.iconst 0, 1) := by decide +kernel
theorem dX3_open_22 : decode cX3_open 22 = .ok (.iconst 2, 1) := by decide +kernel
theorem dX3_open_23 : decode cX3_open 23 = .ok (.invokestatic 69, 3) := by decide +kernel
theorem dX3_open_26 : decode cX3_open 26 = .ok (.aload_n 0, 1) := by decide +kernel
theorem dX3_open_27 : decode cX3_open 27 = .ok (.getfield 73, 3) := by decide +kernel
theorem dX3_open_30 : decode cX3_open 30 = .ok (.bipush 40, 2) := by decide +kernel
theorem dX3_open_32 : decode cX3_open 32 = .ok (.if_icmp .ge 7, 3) := by decide +kernel
theorem dX3_open_35 : decode cX3_open 35 = .ok (.iconst 1, 1) := by decide +kernel
theorem dX3_open_36 : decode cX3_open 36 = .ok (.goto 4, 3) := by decide +kernel
theorem dX3_open_39 : decode cX3_open 39 = .ok (.iconst 0, 1) := by decide +kernel
theorem dX3_open_40 : decode cX3_open 40 = .ok (.invokevirtual 84, 3) := by decide +kernel
theorem dX3_open_43 : decode cX3_open 43 = .ok (.ifCond .ne 5, 3) := by decide +kernel
theorem dX3_open_46 : decode cX3_open 46 = .ok (.iconst 0, 1) := by decide +kernel
theorem dX3_open_47 : decode cX3_open 47 = .ok (.ireturn, 1) := by decide +kernel
theorem dX3_open_48 : decode cX3_open 48 = .ok (.aload_n 0, 1) := by decide +kernel
theorem dX3_open_49 : decode cX3_open 49 = .ok (.getfield 34, 3) := by decide +kernel
theorem dX3_open_52 : decode cX3_open 52 = .ok (.aload_n 0, 1) := by decide +kernel
theorem dX3_open_53 : decode cX3_open 53 = .ok (.getfield 73, 3) := by decide +kernel
theorem dX3_open_56 : decode cX3_open 56 = .ok (.iload_n 1, 1) := by decide +kernel
theorem dX3_open_57 : decode cX3_open 57 = .ok (.iastore, 1) := by decide +kernel
theorem dX3_open_58 : decode cX3_open 58 = .ok (.aload_n 0, 1) := by decide +kernel
theorem dX3_open_59 : decode cX3_open 59 = .ok (.getfield 37, 3) := by decide +kernel
theorem dX3_open_62 : decode cX3_open 62 = .ok (.aload_n 0, 1) := by decide +kernel
theorem dX3_open_63 : decode cX3_open 63 = .ok (.getfield 73, 3) := by decide +kernel
theorem dX3_open_66 : decode cX3_open 66 = .ok (.iload_n 2, 1) := by decide +kernel
theorem dX3_open_67 : decode cX3_open 67 = .ok (.iastore, 1) := by decide +kernel
theorem dX3_open_68 : decode cX3_open 68 = .ok (.aload_n 0, 1) := by decide +kernel
theorem dX3_open_69 : decode cX3_open 69 = .ok (.getfield 40, 3) := by decide +kernel
theorem dX3_open_72 : decode cX3_open 72 = .ok (.aload_n 0, 1) := by decide +kernel
theorem dX3_open_73 : decode cX3_open 73 = .ok (.getfield 73, 3) := by decide +kernel
theorem dX3_open_76 : decode cX3_open 76 = .ok (.iload_n 3, 1) := by decide +kernel
theorem dX3_open_77 : decode cX3_open 77 = .ok (.iastore, 1) := by decide +kernel
theorem dX3_open_78 : decode cX3_open 78 = .ok (.aload_n 0, 1) := by decide +kernel
theorem dX3_open_79 : decode cX3_open 79 = .ok (.getfield 43, 3) := by decide +kernel
theorem dX3_open_82 : decode cX3_open 82 = .ok (.aload_n 0, 1) := by decide +kernel
theorem dX3_open_83 : decode cX3_open 83 = .ok (.getfield 73, 3) := by decide +kernel
theorem dX3_open_86 : decode cX3_open 86 = .ok (.iconst 0, 1) := by decide +kernel
theorem dX3_open_87 : decode cX3_open 87 = .ok (.iastore, 1) := by decide +kernel
theorem dX3_open_88 : decode cX3_open 88 = .ok (.aload_n 0, 1) := by decide +kernel
theorem dX3_open_89 : decode cX3_open 89 = .ok (.getfield 46, 3) := by decide +kernel
theorem dX3_open_92 : decode cX3_open 92 = .ok (.aload_n 0, 1) := by decide +kernel
theorem dX3_open_93 : decode cX3_open 93 = .ok (.getfield 73, 3) := by decide +kernel
theorem dX3_open_96 : decode cX3_open 96 = .ok (.iconst (-1), 1) := by decide +kernel
theorem dX3_open_97 : decode cX3_open 97 = .ok (.iastore, 1) := by decide +kernel
theorem dX3_open_98 : decode cX3_open 98 = .ok (.aload_n 0, 1) := by decide +kernel
theorem dX3_open_99 : decode cX3_open 99 = .ok (.dup, 1) := by decide +kernel
theorem dX3_open_100 : decode cX3_open 100 = .ok (.getfield 73, 3) := by decide +kernel
theorem dX3_open_103 : decode cX3_open 103 = .ok (.iconst 1, 1) := by decide +kernel
theorem dX3_open_104 : decode cX3_open 104 = .ok (.iadd, 1) := by decide +kernel
theorem dX3_open_105 : decode cX3_open 105 = .ok (.putfield 73, 3) := by decide +kernel
theorem dX3_open_108 : decode cX3_open 108 = .ok (.aload_n 0, 1) := by decide +kernel
theorem dX3_open_109 : decode cX3_open 109 = .ok (.getfield 73, 3) := by decide +kernel
theorem dX3_open_112 : decode cX3_open 112 = .ok (.iconst 1, 1) := by decide +kernel
theorem dX3_open_113 : decode cX3_open 113 = .ok (.isub, 1) := by decide +kernel
theorem dX3_open_114 : decode cX3_open 114 = .ok (.ireturn, 1) := by decide +kernel
theorem dX3_missed_0 : decode cX3_missed 0 = .ok (.aload_n 0, 1) := by decide +kernel
theorem dX3_missed_1 : decode cX3_missed 1 = .ok (.getfield 53, 3) := by decide +kernel
theorem dX3_missed_4 : decode cX3_missed 4 = .ok (.iconst 3, 1) := by decide +kernel
theorem dX3_missed_5 : decode cX3_missed 5 = .ok (.iload_n 1, 1) := by decide +kernel
theorem dX3_missed_6 : decode cX3_missed 6 = .ok (.imul, 1) := by decide +kernel
theorem dX3_missed_7 : decode cX3_missed 7 = .ok (.iload_n 2, 1) := by decide +kernel
theorem dX3_missed_8 : decode cX3_missed 8 = .ok (.iadd, 1) := by decide +kernel
theorem dX3_missed_9 : decode cX3_missed 9 = .ok (.iaload, 1) := by decide +kernel
theorem dX3_missed_10 : decode cX3_missed 10 = .ok (.aload_n 0, 1) := by decide +kernel
theorem dX3_missed_11 : decode cX3_missed 11 = .ok (.getfield 31, 3) := by decide +kernel
theorem dX3_missed_14 : decode cX3_missed 14 = .ok (.iconst 3, 1) := by decide +kernel
theorem dX3_missed_15 : decode cX3_missed 15 = .ok (.aload_n 0, 1) := by decide +kernel
theorem dX3_missed_16 : decode cX3_missed 16 = .ok (.getfield 40, 3) := by decide +kernel
theorem dX3_missed_19 : decode cX3_missed 19 = .ok (.iload_n 1, 1) := by decide +kernel
theorem dX3_missed_20 : decode cX3_missed 20 = .ok (.iaload, 1) := by decide +kernel
theorem dX3_missed_21 : decode cX3_missed 21 = .ok (.imul, 1) := by decide +kernel
theorem dX3_missed_22 : decode cX3_missed 22 = .ok (.iload_n 2, 1) := by decide +kernel
theorem dX3_missed_23 : decode cX3_missed 23 = .ok (.iadd, 1) := by decide +kernel
theorem dX3_missed_24 : decode cX3_missed 24 = .ok (.iaload, 1) := by decide +kernel
theorem dX3_missed_25 : decode cX3_missed 25 = .ok (.if_icmp .le 7, 3) := by decide +kernel
theorem dX3_missed_28 : decode cX3_missed 28 = .ok (.iconst 1, 1) := by decide +kernel
theorem dX3_missed_29 : decode cX3_missed 29 = .ok (.goto 4, 3) := by decide +kernel
theorem dX3_missed_32 : decode cX3_missed 32 = .ok (.iconst 0, 1) := by decide +kernel
theorem dX3_missed_33 : decode cX3_missed 33 = .ok (.ireturn, 1) := by decide +kernel
set_option maxRecDepth 20000 in
theorem ggX3_missedOf_X3_missed : GoodIn wsX3_missedOf wsX3_missed := goodIn_r _ [6, 7, 8, 9, 10, 11, 12, 13, 14, 15, 16, 17, 18, 19, 20, 21, 22, 23, 24, 25, 26, 27, 28, 29, 30] (by decide +kernel) (by decide +kernel)
set_option maxRecDepth 20000 in
theorem gX3_missedOf_X3_missed : GoodIn wsX3_missedOf (wsV RX3 111 RX3 yX3_missed wsX3_missed) := goodIn_app (goodIn_of _ (by decide +kernel)) ggX3_missedOf_X3_missed
theorem dX3_missedOf_0 : decode cX3_missedOf 0 = .ok (.iconst 0, 1) := by decide +kernel
theorem dX3_missedOf_1 : decode cX3_missedOf 1 = .ok (.istore_n 2, 1) := by decide +kernel
theorem dX3_missedOf_2 : decode cX3_missedOf 2 = .ok (.iconst 0, 1) := by decide +kernel
theorem dX3_missedOf_3 : decode cX3_missedOf 3 = .ok (.istore_n 3, 1) := by decide +kernel
theorem dX3_missedOf_4 : decode cX3_missedOf 4 = .ok (.iload_n 3, 1) := by decide +kernel
theorem dX3_missedOf_5 : decode cX3_missedOf 5 = .ok (.iconst 2, 1) := by decide +kernel
theorem dX3_missedOf_6 : decode cX3_missedOf 6 = .ok (.if_icmp .gt 39, 3) := by decide +kernel
theorem dX3_missedOf_9 : decode cX3_missedOf 9 = .ok (.iload_n 2, 1) := by decide +kernel
theorem dX3_missedOf_10 : decode cX3_missedOf 10 = .ok (.aload_n 0, 1) := by decide +kernel
theorem dX3_missedOf_11 : decode cX3_missedOf 11 = .ok (.getfield 56, 3) := by decide +kernel
theorem dX3_missedOf_14 : decode cX3_missedOf 14 = .ok (.iconst 3, 1) := by decide +kernel
theorem dX3_missedOf_15 : decode cX3_missedOf 15 = .ok (.iload_n 1, 1) := by decide +kernel
theorem dX3_missedOf_16 : decode cX3_missedOf 16 = .ok (.imul, 1) := by decide +kernel
theorem dX3_missedOf_17 : decode cX3_missedOf 17 = .ok (.iload_n 3, 1) := by decide +kernel
theorem dX3_missedOf_18 : decode cX3_missedOf 18 = .ok (.iadd, 1) := by decide +kernel
theorem dX3_missedOf_19 : decode cX3_missedOf 19 = .ok (.baload, 1) := by decide +kernel
theorem dX3_missedOf_20 : decode cX3_missedOf 20 = .ok (.ifCond .eq 16, 3) := by decide +kernel
theorem dX3_missedOf_23 : decode cX3_missedOf 23 = .ok (.aload_n 0, 1) := by decide +kernel
theorem dX3_missedOf_24 : decode cX3_missedOf 24 = .ok (.iload_n 1, 1) := by decide +kernel
theorem dX3_missedOf_25 : decode cX3_missedOf 25 = .ok (.iload_n 3, 1) := by decide +kernel
theorem dX3_missedOf_26 : decode cX3_missedOf 26 = .ok (.invokevirtual 111, 3) := by decide +kernel
theorem dX3_missedOf_29 : decode cX3_missedOf 29 = .ok (.ifCond .eq 7, 3) := by decide +kernel
theorem dX3_missedOf_32 : decode cX3_missedOf 32 = .ok (.iconst 1, 1) := by decide +kernel
theorem dX3_missedOf_33 : decode cX3_missedOf 33 = .ok (.goto 4, 3) := by decide +kernel
theorem dX3_missedOf_36 : decode cX3_missedOf 36 = .ok (.iconst 0, 1) := by decide +kernel
theorem dX3_missedOf_37 : decode cX3_missedOf 37 = .ok (.iadd, 1) := by decide +kernel
theorem dX3_missedOf_38 : decode cX3_missedOf 38 = .ok (.istore_n 2, 1) := by decide +kernel
theorem dX3_missedOf_39 : decode cX3_missedOf 39 = .ok (.iinc 3 1, 3) := by decide +kernel
theorem dX3_missedOf_42 : decode cX3_missedOf 42 = .ok (.goto (-38), 3) := by decide +kernel
theorem dX3_missedOf_45 : decode cX3_missedOf 45 = .ok (.iload_n 2, 1) := by decide +kernel
theorem dX3_missedOf_46 : decode cX3_missedOf 46 = .ok (.ireturn, 1) := by decide +kernel
set_option maxRecDepth 20000 in
theorem ggX3_reach_X3_isCase : GoodIn wsX3_reach wsX3_isCase := goodIn_r _ [13, 3, 14, 15, 12, 16, 41, 42, 43, 44, 45, 46, 47, 48, 49, 50, 51, 52, 53, 54, 55, 56, 57, 58, 59, 60, 61] (by decide +kernel) (by decide +kernel)
set_option maxRecDepth 20000 in
theorem gX3_reach_X3_isCase : GoodIn wsX3_reach (wsV RX3 114 RX3 yX3_isCase wsX3_isCase) := goodIn_app (goodIn_of _ (by decide +kernel)) ggX3_reach_X3_isCase
set_option maxRecDepth 20000 in
theorem ggX3_reach_X3_in : GoodIn wsX3_reach wsX3_in := goodIn_r _ [16] (by decide +kernel) (by decide +kernel)
set_option maxRecDepth 20000 in
theorem gX3_reach_X3_in : GoodIn wsX3_reach (va_wsS RX3 69 yX3_in wsX3_in) := goodIn_app (goodIn_of _ (by decide +kernel)) ggX3_reach_X3_in
set_option maxRecDepth 20000 in
theorem ggX3_reach_X3_asked__ : GoodIn wsX3_reach wsX3_asked__ := goodIn_r _ [20, 21, 41, 42, 43, 44, 45, 46, 47, 48, 49, 50, 51, 52, 53, 54, 55, 56, 57, 58, 59, 60, 61] (by decide +kernel) (by decide +kernel)
set_option maxRecDepth 20000 in
theorem gX3_reach_X3_asked__ : GoodIn wsX3_reach (wsV RX3 84 RX3 yX3_asked__ wsX3_asked__) := goodIn_app (goodIn_of _ (by decide +kernel)) ggX3_reach_X3_asked__
set_option maxRecDepth 20000 in
theorem ggX3_reach_X3_missedOf : GoodIn wsX3_reach wsX3_missedOf := goodIn_r _ [25, 2, 26, 27, 28, 12, 29, 30, 31, 32, 41, 42, 43, 44, 45, 46, 47, 48, 49, 50, 51, 52, 53, 54, 55, 56, 57, 58, 59, 60, 61] (by decide +kernel) (by decide +kernel)
set_option maxRecDepth 20000 in
theorem gX3_reach_X3_missedOf : GoodIn wsX3_reach (wsV RX3 117 RX3 yX3_missedOf wsX3_missedOf) := goodIn_app (goodIn_of _ (by decide +kernel)) ggX3_reach_X3_missedOf
set_option maxRecDepth 20000 in
theorem ggX3_reach_X3_covered : GoodIn wsX3_reach wsX3_covered := goodIn_r _ [36, 37, 38, 39, 40, 14, 15, 12, 16, 41, 42, 43, 44, 45, 46, 47, 48, 49, 50, 51, 52, 53, 54, 55, 56, 57, 58, 59, 60, 61] (by decide +kernel) (by decide +kernel)
set_option maxRecDepth 20000 in
theorem gX3_reach_X3_covered : GoodIn wsX3_reach (wsV RX3 93 RX3 yX3_covered wsX3_covered) := goodIn_app (goodIn_of _ (by decide +kernel)) ggX3_reach_X3_covered
theorem dX3_reach_0 : decode cX3_reach 0 = .ok (.aload_n 0, 1) := by decide +kernel
theorem dX3_reach_1 : decode cX3_reach 1 = .ok (.iload_n 1, 1) := by decide +kernel
theorem dX3_reach_2 : decode cX3_reach 2 = .ok (.invokevirtual 114, 3) := by decide +kernel
theorem dX3_reach_5 : decode cX3_reach 5 = .ok (.istore_n 3, 1) := by decide +kernel
theorem dX3_reach_6 : decode cX3_reach 6 = .ok (.iload_n 2, 1) := by decide +kernel
theorem dX3_reach_7 : decode cX3_reach 7 = .ok (.iconst 0, 1) := by decide +kernel
theorem dX3_reach_8 : decode cX3_reach 8 = .ok (.iconst 2, 1) := by decide +kernel
theorem dX3_reach_9 : decode cX3_reach 9 = .ok (.invokestatic 69, 3) := by decide +kernel
theorem dX3_reach_12 : decode cX3_reach 12 = .ok (.istore 4, 2) := by decide +kernel
theorem dX3_reach_14 : decode cX3_reach 14 = .ok (.aload_n 0, 1) := by decide +kernel
theorem dX3_reach_15 : decode cX3_reach 15 = .ok (.iload_n 3, 1) := by decide +kernel
theorem dX3_reach_16 : decode cX3_reach 16 = .ok (.iload 4, 2) := by decide +kernel
theorem dX3_reach_18 : decode cX3_reach 18 = .ok (.iload_n 3, 1) := by decide +kernel
theorem dX3_reach_19 : decode cX3_reach 19 = .ok (.ifCond .eq 34, 3) := by decide +kernel
theorem dX3_reach_22 : decode cX3_reach 22 = .ok (.iload 4, 2) := by decide +kernel
theorem dX3_reach_24 : decode cX3_reach 24 = .ok (.ifCond .eq 29, 3) := by decide +kernel
theorem dX3_reach_27 : decode cX3_reach 27 = .ok (.aload_n 0, 1) := by decide +kernel
theorem dX3_reach_28 : decode cX3_reach 28 = .ok (.getfield 43, 3) := by decide +kernel
theorem dX3_reach_31 : decode cX3_reach 31 = .ok (.iload_n 1, 1) := by decide +kernel
theorem dX3_reach_32 : decode cX3_reach 32 = .ok (.iaload, 1) := by decide +kernel
theorem dX3_reach_33 : decode cX3_reach 33 = .ok (.ifCond .ne 20, 3) := by decide +kernel
theorem dX3_reach_36 : decode cX3_reach 36 = .ok (.aload_n 0, 1) := by decide +kernel
theorem dX3_reach_37 : decode cX3_reach 37 = .ok (.getfield 56, 3) := by decide +kernel
theorem dX3_reach_40 : decode cX3_reach 40 = .ok (.iconst 3, 1) := by decide +kernel
theorem dX3_reach_41 : decode cX3_reach 41 = .ok (.iload_n 1, 1) := by decide +kernel
theorem dX3_reach_42 : decode cX3_reach 42 = .ok (.imul, 1) := by decide +kernel
theorem dX3_reach_43 : decode cX3_reach 43 = .ok (.iload_n 2, 1) := by decide +kernel
theorem dX3_reach_44 : decode cX3_reach 44 = .ok (.iadd, 1) := by decide +kernel
theorem dX3_reach_45 : decode cX3_reach 45 = .ok (.baload, 1) := by decide +kernel
theorem dX3_reach_46 : decode cX3_reach 46 = .ok (.ifCond .ne 7, 3) := by decide +kernel
theorem dX3_reach_49 : decode cX3_reach 49 = .ok (.iconst 1, 1) := by decide +kernel
theorem dX3_reach_50 : decode cX3_reach 50 = .ok (.goto 4, 3) := by decide +kernel
theorem dX3_reach_53 : decode cX3_reach 53 = .ok (.iconst 0, 1) := by decide +kernel
theorem dX3_reach_54 : decode cX3_reach 54 = .ok (.invokevirtual 84, 3) := by decide +kernel
theorem dX3_reach_57 : decode cX3_reach 57 = .ok (.ifCond .ne 5, 3) := by decide +kernel
theorem dX3_reach_60 : decode cX3_reach 60 = .ok (.iconst 0, 1) := by decide +kernel
theorem dX3_reach_61 : decode cX3_reach 61 = .ok (.ireturn, 1) := by decide +kernel
theorem dX3_reach_62 : decode cX3_reach 62 = .ok (.iconst 0, 1) := by decide +kernel
theorem dX3_reach_63 : decode cX3_reach 63 = .ok (.istore 5, 2) := by decide +kernel
theorem dX3_reach_65 : decode cX3_reach 65 = .ok (.iload 5, 2) := by decide +kernel
theorem dX3_reach_67 : decode cX3_reach 67 = .ok (.iload_n 2, 1) := by decide +kernel
theorem dX3_reach_68 : decode cX3_reach 68 = .ok (.if_icmp .gt 21, 3) := by decide +kernel
theorem dX3_reach_71 : decode cX3_reach 71 = .ok (.aload_n 0, 1) := by decide +kernel
theorem dX3_reach_72 : decode cX3_reach 72 = .ok (.getfield 56, 3) := by decide +kernel
theorem dX3_reach_75 : decode cX3_reach 75 = .ok (.iconst 3, 1) := by decide +kernel
theorem dX3_reach_76 : decode cX3_reach 76 = .ok (.iload_n 1, 1) := by decide +kernel
theorem dX3_reach_77 : decode cX3_reach 77 = .ok (.imul, 1) := by decide +kernel
theorem dX3_reach_78 : decode cX3_reach 78 = .ok (.iload 5, 2) := by decide +kernel
theorem dX3_reach_80 : decode cX3_reach 80 = .ok (.iadd, 1) := by decide +kernel
theorem dX3_reach_81 : decode cX3_reach 81 = .ok (.iconst 1, 1) := by decide +kernel
theorem dX3_reach_82 : decode cX3_reach 82 = .ok (.bastore, 1) := by decide +kernel
theorem dX3_reach_83 : decode cX3_reach 83 = .ok (.iinc 5 1, 3) := by decide +kernel
theorem dX3_reach_86 : decode cX3_reach 86 = .ok (.goto (-21), 3) := by decide +kernel
theorem dX3_reach_89 : decode cX3_reach 89 = .ok (.aload_n 0, 1) := by decide +kernel
theorem dX3_reach_90 : decode cX3_reach 90 = .ok (.iload_n 1, 1) := by decide +kernel
theorem dX3_reach_91 : decode cX3_reach 91 = .ok (.invokevirtual 117, 3) := by decide +kernel
theorem dX3_reach_94 : decode cX3_reach 94 = .ok (.istore 5, 2) := by decide +kernel
theorem dX3_reach_96 : decode cX3_reach 96 = .ok (.iload_n 2, 1) := by decide +kernel
theorem dX3_reach_97 : decode cX3_reach 97 = .ok (.iconst 2, 1) := by decide +kernel
theorem dX3_reach_98 : decode cX3_reach 98 = .ok (.if_icmp .ne 114, 3) := by decide +kernel
theorem dX3_reach_101 : decode cX3_reach 101 = .ok (.aload_n 0, 1) := by decide +kernel
theorem dX3_reach_102 : decode cX3_reach 102 = .ok (.getfield 43, 3) := by decide +kernel
theorem dX3_reach_105 : decode cX3_reach 105 = .ok (.iload_n 1, 1) := by decide +kernel
theorem dX3_reach_106 : decode cX3_reach 106 = .ok (.iconst 2, 1) := by decide +kernel
theorem dX3_reach_107 : decode cX3_reach 107 = .ok (.iastore, 1) := by decide +kernel
theorem dX3_reach_108 : decode cX3_reach 108 = .ok (.iconst 0, 1) := by decide +kernel
theorem dX3_reach_109 : decode cX3_reach 109 = .ok (.istore 6, 2) := by decide +kernel
theorem dX3_reach_111 : decode cX3_reach 111 = .ok (.iload 6, 2) := by decide +kernel
theorem dX3_reach_113 : decode cX3_reach 113 = .ok (.aload_n 0, 1) := by decide +kernel
theorem dX3_reach_114 : decode cX3_reach 114 = .ok (.getfield 73, 3) := by decide +kernel
theorem dX3_reach_117 : decode cX3_reach 117 = .ok (.if_icmp .ge 49, 3) := by decide +kernel
theorem dX3_reach_120 : decode cX3_reach 120 = .ok (.aload_n 0, 1) := by decide +kernel
theorem dX3_reach_121 : decode cX3_reach 121 = .ok (.getfield 43, 3) := by decide +kernel
theorem dX3_reach_124 : decode cX3_reach 124 = .ok (.iload 6, 2) := by decide +kernel
theorem dX3_reach_126 : decode cX3_reach 126 = .ok (.aload_n 0, 1) := by decide +kernel
theorem dX3_reach_127 : decode cX3_reach 127 = .ok (.getfield 43, 3) := by decide +kernel
theorem dX3_reach_130 : decode cX3_reach 130 = .ok (.iload 6, 2) := by decide +kernel
theorem dX3_reach_132 : decode cX3_reach 132 = .ok (.iaload, 1) := by decide +kernel
theorem dX3_reach_133 : decode cX3_reach 133 = .ok (.iconst 1, 1) := by decide +kernel
theorem dX3_reach_134 : decode cX3_reach 134 = .ok (.if_icmp .ne 18, 3) := by decide +kernel
theorem dX3_reach_137 : decode cX3_reach 137 = .ok (.aload_n 0, 1) := by decide +kernel
theorem dX3_reach_138 : decode cX3_reach 138 = .ok (.getfield 46, 3) := by decide +kernel
theorem dX3_reach_141 : decode cX3_reach 141 = .ok (.iload 6, 2) := by decide +kernel
theorem dX3_reach_143 : decode cX3_reach 143 = .ok (.iaload, 1) := by decide +kernel
theorem dX3_reach_144 : decode cX3_reach 144 = .ok (.iload_n 1, 1) := by decide +kernel
theorem dX3_reach_145 : decode cX3_reach 145 = .ok (.if_icmp .ne 7, 3) := by decide +kernel
theorem dX3_reach_148 : decode cX3_reach 148 = .ok (.iconst 2, 1) := by decide +kernel
theorem dX3_reach_149 : decode cX3_reach 149 = .ok (.goto 10, 3) := by decide +kernel
theorem dX3_reach_152 : decode cX3_reach 152 = .ok (.aload_n 0, 1) := by decide +kernel
theorem dX3_reach_153 : decode cX3_reach 153 = .ok (.getfield 43, 3) := by decide +kernel
theorem dX3_reach_156 : decode cX3_reach 156 = .ok (.iload 6, 2) := by decide +kernel
theorem dX3_reach_158 : decode cX3_reach 158 = .ok (.iaload, 1) := by decide +kernel
theorem dX3_reach_159 : decode cX3_reach 159 = .ok (.iastore, 1) := by decide +kernel
theorem dX3_reach_160 : decode cX3_reach 160 = .ok (.iinc 6 1, 3) := by decide +kernel
theorem dX3_reach_163 : decode cX3_reach 163 = .ok (.goto (-52), 3) := by decide +kernel
theorem dX3_reach_166 : decode cX3_reach 166 = .ok (.aload_n 0, 1) := by decide +kernel
theorem dX3_reach_167 : decode cX3_reach 167 = .ok (.aload_n 0, 1) := by decide +kernel
theorem dX3_reach_168 : decode cX3_reach 168 = .ok (.getfield 34, 3) := by decide +kernel
theorem dX3_reach_171 : decode cX3_reach 171 = .ok (.iload_n 1, 1) := by decide +kernel
theorem dX3_reach_172 : decode cX3_reach 172 = .ok (.iaload, 1) := by decide +kernel
theorem dX3_reach_173 : decode cX3_reach 173 = .ok (.aload_n 0, 1) := by decide +kernel
theorem dX3_reach_174 : decode cX3_reach 174 = .ok (.getfield 37, 3) := by decide +kernel
theorem dX3_reach_177 : decode cX3_reach 177 = .ok (.iload_n 1, 1) := by decide +kernel
theorem dX3_reach_178 : decode cX3_reach 178 = .ok (.iaload, 1) := by decide +kernel
theorem dX3_reach_179 : decode cX3_reach 179 = .ok (.aload_n 0, 1) := by decide +kernel
theorem dX3_reach_180 : decode cX3_reach 180 = .ok (.getfield 96, 3) := by decide +kernel
theorem dX3_reach_183 : decode cX3_reach 183 = .ok (.bipush 24, 2) := by decide +kernel
theorem dX3_reach_185 : decode cX3_reach 185 = .ok (.idiv, 1) := by decide +kernel
theorem dX3_reach_186 : decode cX3_reach 186 = .ok (.invokevirtual 93, 3) := by decide +kernel
theorem dX3_reach_189 : decode cX3_reach 189 = .ok (.ifCond .eq 23, 3) := by decide +kernel
theorem dX3_reach_192 : decode cX3_reach 192 = .ok (.aload_n 0, 1) := by decide +kernel
theorem dX3_reach_193 : decode cX3_reach 193 = .ok (.getfield 62, 3) := by decide +kernel
theorem dX3_reach_196 : decode cX3_reach 196 = .ok (.aload_n 0, 1) := by decide +kernel
theorem dX3_reach_197 : decode cX3_reach 197 = .ok (.getfield 34, 3) := by decide +kernel
theorem dX3_reach_200 : decode cX3_reach 200 = .ok (.iload_n 1, 1) := by decide +kernel
theorem dX3_reach_201 : decode cX3_reach 201 = .ok (.iaload, 1) := by decide +kernel
theorem dX3_reach_202 : decode cX3_reach 202 = .ok (.dup2, 1) := by decide +kernel
theorem dX3_reach_203 : decode cX3_reach 203 = .ok (.iaload, 1) := by decide +kernel
theorem dX3_reach_204 : decode cX3_reach 204 = .ok (.sipush 2500, 3) := by decide +kernel
theorem dX3_reach_207 : decode cX3_reach 207 = .ok (.iload 5, 2) := by decide +kernel
theorem dX3_reach_209 : decode cX3_reach 209 = .ok (.imul, 1) := by decide +kernel
theorem dX3_reach_210 : decode cX3_reach 210 = .ok (.isub, 1) := by decide +kernel
theorem dX3_reach_211 : decode cX3_reach 211 = .ok (.iastore, 1) := by decide +kernel
theorem dX3_reach_212 : decode cX3_reach 212 = .ok (.iload 5, 2) := by decide +kernel
theorem dX3_reach_214 : decode cX3_reach 214 = .ok (.ireturn, 1) := by decide +kernel
set_option maxRecDepth 20000 in
theorem ggX3_rest_X3_isCase : GoodIn wsX3_rest wsX3_isCase := goodIn_r _ [7, 8, 9, 10, 6, 11, 17, 18, 19, 20, 21, 22, 23, 24, 25, 26, 27, 28, 29, 30, 31, 32, 33, 34, 35, 36, 37] (by decide +kernel) (by decide +kernel)
set_option maxRecDepth 20000 in
theorem gX3_rest_X3_isCase : GoodIn wsX3_rest (wsV RX3 114 RX3 yX3_isCase wsX3_isCase) := goodIn_app (goodIn_of _ (by decide +kernel)) ggX3_rest_X3_isCase
set_option maxRecDepth 20000 in
theorem ggX3_rest_X3_asked_ : GoodIn wsX3_rest wsX3_asked_ := goodIn_r _ [15, 16, 17, 18, 19, 20, 21, 22, 23, 24, 25, 26, 27, 28, 29, 30, 31, 32, 33, 34, 35, 36, 37] (by decide +kernel) (by decide +kernel)
set_option maxRecDepth 20000 in
theorem gX3_rest_X3_asked_ : GoodIn wsX3_rest (wsV RX3 80 RX3 yX3_asked_ wsX3_asked_) := goodIn_app (goodIn_of _ (by decide +kernel)) ggX3_rest_X3_asked_
theorem dX3_rest_0 : decode cX3_rest 0 = .ok (.aload_n 0, 1) := by decide +kernel
theorem dX3_rest_1 : decode cX3_rest 1 = .ok (.iload_n 1, 1) := by decide +kernel
theorem dX3_rest_2 : decode cX3_rest 2 = .ok (.invokevirtual 114, 3) := by decide +kernel
theorem dX3_rest_5 : decode cX3_rest 5 = .ok (.istore_n 3, 1) := by decide +kernel
theorem dX3_rest_6 : decode cX3_rest 6 = .ok (.aload_n 0, 1) := by decide +kernel
theorem dX3_rest_7 : decode cX3_rest 7 = .ok (.iload_n 3, 1) := by decide +kernel
theorem dX3_rest_8 : decode cX3_rest 8 = .ok (.iload_n 3, 1) := by decide +kernel
theorem dX3_rest_9 : decode cX3_rest 9 = .ok (.ifCond .eq 16, 3) := by decide +kernel
theorem dX3_rest_12 : decode cX3_rest 12 = .ok (.aload_n 0, 1) := by decide +kernel
theorem dX3_rest_13 : decode cX3_rest 13 = .ok (.getfield 43, 3) := by decide +kernel
theorem dX3_rest_16 : decode cX3_rest 16 = .ok (.iload_n 1, 1) := by decide +kernel
theorem dX3_rest_17 : decode cX3_rest 17 = .ok (.iaload, 1) := by decide +kernel
theorem dX3_rest_18 : decode cX3_rest 18 = .ok (.ifCond .ne 7, 3) := by decide +kernel
theorem dX3_rest_21 : decode cX3_rest 21 = .ok (.iconst 1, 1) := by decide +kernel
theorem dX3_rest_22 : decode cX3_rest 22 = .ok (.goto 4, 3) := by decide +kernel
theorem dX3_rest_25 : decode cX3_rest 25 = .ok (.iconst 0, 1) := by decide +kernel
theorem dX3_rest_26 : decode cX3_rest 26 = .ok (.invokevirtual 80, 3) := by decide +kernel
theorem dX3_rest_29 : decode cX3_rest 29 = .ok (.ifCond .ne 5, 3) := by decide +kernel
theorem dX3_rest_32 : decode cX3_rest 32 = .ok (.iconst 0, 1) := by decide +kernel
theorem dX3_rest_33 : decode cX3_rest 33 = .ok (.ireturn, 1) := by decide +kernel
theorem dX3_rest_34 : decode cX3_rest 34 = .ok (.aload_n 0, 1) := by decide +kernel
theorem dX3_rest_35 : decode cX3_rest 35 = .ok (.getfield 49, 3) := by decide +kernel
theorem dX3_rest_38 : decode cX3_rest 38 = .ok (.iload_n 1, 1) := by decide +kernel
theorem dX3_rest_39 : decode cX3_rest 39 = .ok (.baload, 1) := by decide +kernel
theorem dX3_rest_40 : decode cX3_rest 40 = .ok (.istore 4, 2) := by decide +kernel
theorem dX3_rest_42 : decode cX3_rest 42 = .ok (.aload_n 0, 1) := by decide +kernel
theorem dX3_rest_43 : decode cX3_rest 43 = .ok (.getfield 49, 3) := by decide +kernel
theorem dX3_rest_46 : decode cX3_rest 46 = .ok (.iload_n 1, 1) := by decide +kernel
theorem dX3_rest_47 : decode cX3_rest 47 = .ok (.iload_n 2, 1) := by decide +kernel
theorem dX3_rest_48 : decode cX3_rest 48 = .ok (.bastore, 1) := by decide +kernel
theorem dX3_rest_49 : decode cX3_rest 49 = .ok (.iload 4, 2) := by decide +kernel
theorem dX3_rest_51 : decode cX3_rest 51 = .ok (.ireturn, 1) := by decide +kernel
set_option maxRecDepth 20000 in
theorem ggX3_setGravity_X3_isCase : GoodIn wsX3_setGravity wsX3_isCase := goodIn_r _ [7, 8, 9, 10, 6, 11, 17, 18, 19, 20, 21, 22, 23, 24, 25, 26, 27, 28, 29, 30, 31, 32, 33, 34, 35, 36, 37] (by decide +kernel) (by decide +kernel)
set_option maxRecDepth 20000 in
theorem gX3_setGravity_X3_isCase : GoodIn wsX3_setGravity (wsV RX3 114 RX3 yX3_isCase wsX3_isCase) := goodIn_app (goodIn_of _ (by decide +kernel)) ggX3_setGravity_X3_isCase
set_option maxRecDepth 20000 in
theorem ggX3_setGravity_X3_in : GoodIn wsX3_setGravity wsX3_in := goodIn_r _ [11] (by decide +kernel) (by decide +kernel)
set_option maxRecDepth 20000 in
theorem gX3_setGravity_X3_in : GoodIn wsX3_setGravity (va_wsS RX3 69 yX3_in wsX3_in) := goodIn_app (goodIn_of _ (by decide +kernel)) ggX3_setGravity_X3_in
set_option maxRecDepth 20000 in
theorem ggX3_setGravity_X3_asked__ : GoodIn wsX3_setGravity wsX3_asked__ := goodIn_r _ [15, 16, 17, 18, 19, 20, 21, 22, 23, 24, 25, 26, 27, 28, 29, 30, 31, 32, 33, 34, 35, 36, 37] (by decide +kernel) (by decide +kernel)
set_option maxRecDepth 20000 in
theorem gX3_setGravity_X3_asked__ : GoodIn wsX3_setGravity (wsV RX3 84 RX3 yX3_asked__ wsX3_asked__) := goodIn_app (goodIn_of _ (by decide +kernel)) ggX3_setGravity_X3_asked__
theorem dX3_setGravity_0 : decode cX3_setGravity 0 = .ok (.aload_n 0, 1) := by decide +kernel
theorem dX3_setGravity_1 : decode cX3_setGravity 1 = .ok (.iload_n 1, 1) := by decide +kernel
theorem dX3_setGravity_2 : decode cX3_setGravity 2 = .ok (.invokevirtual 114, 3) := by decide +kernel
theorem dX3_setGravity_5 : decode cX3_setGravity 5 = .ok (.istore_n 3, 1) := by decide +kernel
theorem dX3_setGravity_6 : decode cX3_setGravity 6 = .ok (.aload_n 0, 1) := by decide +kernel
theorem dX3_setGravity_7 : decode cX3_setGravity 7 = .ok (.iload_n 3, 1) := by decide +kernel
theorem dX3_setGravity_8 : decode cX3_setGravity 8 = .ok (.iload_n 2, 1) := by decide +kernel
theorem dX3_setGravity_9 : decode cX3_setGravity 9 = .ok (.iconst 0, 1) := by decide +kernel
theorem dX3_setGravity_10 : decode cX3_setGravity 10 = .ok (.iconst 2, 1) := by decide +kernel
theorem dX3_setGravity_11 : decode cX3_setGravity 11 = .ok (.invokestatic 69, 3) := by decide +kernel
theorem dX3_setGravity_14 : decode cX3_setGravity 14 = .ok (.iload_n 3, 1) := by decide +kernel
theorem dX3_setGravity_15 : decode cX3_setGravity 15 = .ok (.ifCond .eq 16, 3) := by decide +kernel
theorem dX3_setGravity_18 : decode cX3_setGravity 18 = .ok (.aload_n 0, 1) := by decide +kernel
theorem dX3_setGravity_19 : decode cX3_setGravity 19 = .ok (.getfield 43, 3) := by decide +kernel
theorem dX3_setGravity_22 : decode cX3_setGravity 22 = .ok (.iload_n 1, 1) := by decide +kernel
theorem dX3_setGravity_23 : decode cX3_setGravity 23 = .ok (.iaload, 1) := by decide +kernel
theorem dX3_setGravity_24 : decode cX3_setGravity 24 = .ok (.ifCond .ne 7, 3) := by decide +kernel
theorem dX3_setGravity_27 : decode cX3_setGravity 27 = .ok (.iconst 1, 1) := by decide +kernel
theorem dX3_setGravity_28 : decode cX3_setGravity 28 = .ok (.goto 4, 3) := by decide +kernel
theorem dX3_setGravity_31 : decode cX3_setGravity 31 = .ok (.iconst 0, 1) := by decide +kernel
theorem dX3_setGravity_32 : decode cX3_setGravity 32 = .ok (.invokevirtual 84, 3) := by decide +kernel
theorem dX3_setGravity_35 : decode cX3_setGravity 35 = .ok (.ifCond .ne 5, 3) := by decide +kernel
theorem dX3_setGravity_38 : decode cX3_setGravity 38 = .ok (.iconst 0, 1) := by decide +kernel
theorem dX3_setGravity_39 : decode cX3_setGravity 39 = .ok (.ireturn, 1) := by decide +kernel
theorem dX3_setGravity_40 : decode cX3_setGravity 40 = .ok (.aload_n 0, 1) := by decide +kernel
theorem dX3_setGravity_41 : decode cX3_setGravity 41 = .ok (.getfield 40, 3) := by decide +kernel
theorem dX3_setGravity_44 : decode cX3_setGravity 44 = .ok (.iload_n 1, 1) := by decide +kernel
theorem dX3_setGravity_45 : decode cX3_setGravity 45 = .ok (.iaload, 1) := by decide +kernel
theorem dX3_setGravity_46 : decode cX3_setGravity 46 = .ok (.istore 4, 2) := by decide +kernel
theorem dX3_setGravity_48 : decode cX3_setGravity 48 = .ok (.aload_n 0, 1) := by decide +kernel
theorem dX3_setGravity_49 : decode cX3_setGravity 49 = .ok (.getfield 40, 3) := by decide +kernel
theorem dX3_setGravity_52 : decode cX3_setGravity 52 = .ok (.iload_n 1, 1) := by decide +kernel
theorem dX3_setGravity_53 : decode cX3_setGravity 53 = .ok (.iload_n 2, 1) := by decide +kernel
theorem dX3_setGravity_54 : decode cX3_setGravity 54 = .ok (.iastore, 1) := by decide +kernel
theorem dX3_setGravity_55 : decode cX3_setGravity 55 = .ok (.iload 4, 2) := by decide +kernel
theorem dX3_setGravity_57 : decode cX3_setGravity 57 = .ok (.ireturn, 1) := by decide +kernel
theorem dX3_joinedTo_0 : decode cX3_joinedTo 0 = .ok (.iconst 0, 1) := by decide +kernel
theorem dX3_joinedTo_1 : decode cX3_joinedTo 1 = .ok (.istore_n 2, 1) := by decide +kernel
theorem dX3_joinedTo_2 : decode cX3_joinedTo 2 = .ok (.iconst 0, 1) := by decide +kernel
theorem dX3_joinedTo_3 : decode cX3_joinedTo 3 = .ok (.istore_n 3, 1) := by decide +kernel
theorem dX3_joinedTo_4 : decode cX3_joinedTo 4 = .ok (.iload_n 3, 1) := by decide +kernel
theorem dX3_joinedTo_5 : decode cX3_joinedTo 5 = .ok (.aload_n 0, 1) := by decide +kernel
theorem dX3_joinedTo_6 : decode cX3_joinedTo 6 = .ok (.getfield 73, 3) := by decide +kernel
theorem dX3_joinedTo_9 : decode cX3_joinedTo 9 = .ok (.if_icmp .ge 37, 3) := by decide +kernel
theorem dX3_joinedTo_12 : decode cX3_joinedTo 12 = .ok (.iload_n 2, 1) := by decide +kernel
theorem dX3_joinedTo_13 : decode cX3_joinedTo 13 = .ok (.aload_n 0, 1) := by decide +kernel
theorem dX3_joinedTo_14 : decode cX3_joinedTo 14 = .ok (.getfield 43, 3) := by decide +kernel
theorem dX3_joinedTo_17 : decode cX3_joinedTo 17 = .ok (.iload_n 3, 1) := by decide +kernel
theorem dX3_joinedTo_18 : decode cX3_joinedTo 18 = .ok (.iaload, 1) := by decide +kernel
theorem dX3_joinedTo_19 : decode cX3_joinedTo 19 = .ok (.iconst 1, 1) := by decide +kernel
theorem dX3_joinedTo_20 : decode cX3_joinedTo 20 = .ok (.if_icmp .ne 17, 3) := by decide +kernel
theorem dX3_joinedTo_23 : decode cX3_joinedTo 23 = .ok (.aload_n 0, 1) := by decide +kernel
theorem dX3_joinedTo_24 : decode cX3_joinedTo 24 = .ok (.getfield 46, 3) := by decide +kernel
theorem dX3_joinedTo_27 : decode cX3_joinedTo 27 = .ok (.iload_n 3, 1) := by decide +kernel
theorem dX3_joinedTo_28 : decode cX3_joinedTo 28 = .ok (.iaload, 1) := by decide +kernel
theorem dX3_joinedTo_29 : decode cX3_joinedTo 29 = .ok (.iload_n 1, 1) := by decide +kernel
theorem dX3_joinedTo_30 : decode cX3_joinedTo 30 = .ok (.if_icmp .ne 7, 3) := by decide +kernel
theorem dX3_joinedTo_33 : decode cX3_joinedTo 33 = .ok (.iconst 1, 1) := by decide +kernel
theorem dX3_joinedTo_34 : decode cX3_joinedTo 34 = .ok (.goto 4, 3) := by decide +kernel
theorem dX3_joinedTo_37 : decode cX3_joinedTo 37 = .ok (.iconst 0, 1) := by decide +kernel
theorem dX3_joinedTo_38 : decode cX3_joinedTo 38 = .ok (.iadd, 1) := by decide +kernel
theorem dX3_joinedTo_39 : decode cX3_joinedTo 39 = .ok (.istore_n 2, 1) := by decide +kernel
theorem dX3_joinedTo_40 : decode cX3_joinedTo 40 = .ok (.iinc 3 1, 3) := by decide +kernel
theorem dX3_joinedTo_43 : decode cX3_joinedTo 43 = .ok (.goto (-39), 3) := by decide +kernel
theorem dX3_joinedTo_46 : decode cX3_joinedTo 46 = .ok (.iload_n 2, 1) := by decide +kernel
theorem dX3_joinedTo_47 : decode cX3_joinedTo 47 = .ok (.ireturn, 1) := by decide +kernel
set_option maxRecDepth 20000 in
theorem ggX3_join_X3_isCase : GoodIn wsX3_join wsX3_isCase := goodIn_r _ [8, 9, 10, 11, 7, 12, 22, 23, 24, 25, 26, 27, 28, 29, 30, 31, 32, 33, 34, 35, 36, 37, 38, 39, 40, 41, 42] (by decide +kernel) (by decide +kernel)
set_option maxRecDepth 20000 in
theorem gX3_join_X3_isCase : GoodIn wsX3_join (wsV RX3 114 RX3 yX3_isCase wsX3_isCase) := goodIn_app (goodIn_of _ (by decide +kernel)) ggX3_join_X3_isCase
set_option maxRecDepth 20000 in
theorem ggX3_join_X3_joinedTo : GoodIn wsX3_join wsX3_joinedTo := goodIn_r _ [16, 9, 2, 3, 22, 23, 24, 25, 26, 27, 28, 29, 30, 31, 32, 33, 34, 35, 36, 37, 38, 39, 40, 41, 42] (by decide +kernel) (by decide +kernel)
set_option maxRecDepth 20000 in
theorem gX3_join_X3_joinedTo : GoodIn wsX3_join (wsV RX3 120 RX3 yX3_joinedTo wsX3_joinedTo) := goodIn_app (goodIn_of _ (by decide +kernel)) ggX3_join_X3_joinedTo
set_option maxRecDepth 20000 in
theorem ggX3_join_X3_asked__ : GoodIn wsX3_join wsX3_asked__ := goodIn_r _ [20, 21, 22, 23, 24, 25, 26, 27, 28, 29, 30, 31, 32, 33, 34, 35, 36, 37, 38, 39, 40, 41, 42] (by decide +kernel) (by decide +kernel)
set_option maxRecDepth 20000 in
theorem gX3_join_X3_asked__ : GoodIn wsX3_join (wsV RX3 84 RX3 yX3_asked__ wsX3_asked__) := goodIn_app (goodIn_of _ (by decide +kernel)) ggX3_join_X3_asked__
theorem dX3_join_0 : decode cX3_join 0 = .ok (.aload_n 0, 1) := by decide +kernel
theorem dX3_join_1 : decode cX3_join 1 = .ok (.iload_n 1, 1) := by decide +kernel
theorem dX3_join_2 : decode cX3_join 2 = .ok (.invokevirtual 114, 3) := by decide +kernel
theorem dX3_join_5 : decode cX3_join 5 = .ok (.ifCond .eq 15, 3) := by decide +kernel
theorem dX3_join_8 : decode cX3_join 8 = .ok (.aload_n 0, 1) := by decide +kernel
theorem dX3_join_9 : decode cX3_join 9 = .ok (.iload_n 2, 1) := by decide +kernel
theorem dX3_join_10 : decode cX3_join 10 = .ok (.invokevirtual 114, 3) := by decide +kernel
theorem dX3_join_13 : decode cX3_join 13 = .ok (.ifCond .eq 7, 3) := by decide +kernel
theorem dX3_join_16 : decode cX3_join 16 = .ok (.iconst 1, 1) := by decide +kernel
theorem dX3_join_17 : decode cX3_join 17 = .ok (.goto 4, 3) := by decide +kernel
theorem dX3_join_20 : decode cX3_join 20 = .ok (.iconst 0, 1) := by decide +kernel
theorem dX3_join_21 : decode cX3_join 21 = .ok (.istore_n 3, 1) := by decide +kernel
theorem dX3_join_22 : decode cX3_join 22 = .ok (.iload_n 3, 1) := by decide +kernel
theorem dX3_join_23 : decode cX3_join 23 = .ok (.ifCond .eq 27, 3) := by decide +kernel
theorem dX3_join_26 : decode cX3_join 26 = .ok (.iload_n 1, 1) := by decide +kernel
theorem dX3_join_27 : decode cX3_join 27 = .ok (.iload_n 2, 1) := by decide +kernel
theorem dX3_join_28 : decode cX3_join 28 = .ok (.if_icmp .eq 22, 3) := by decide +kernel
theorem dX3_join_31 : decode cX3_join 31 = .ok (.aload_n 0, 1) := by decide +kernel
theorem dX3_join_32 : decode cX3_join 32 = .ok (.getfield 34, 3) := by decide +kernel
theorem dX3_join_35 : decode cX3_join 35 = .ok (.iload_n 1, 1) := by decide +kernel
theorem dX3_join_36 : decode cX3_join 36 = .ok (.iaload, 1) := by decide +kernel
theorem dX3_join_37 : decode cX3_join 37 = .ok (.aload_n 0, 1) := by decide +kernel
theorem dX3_join_38 : decode cX3_join 38 = .ok (.getfield 34, 3) := by decide +kernel
theorem dX3_join_41 : decode cX3_join 41 = .ok (.iload_n 2, 1) := by decide +kernel
theorem dX3_join_42 : decode cX3_join 42 = .ok (.iaload, 1) := by decide +kernel
theorem dX3_join_43 : decode cX3_join 43 = .ok (.if_icmp .ne 7, 3) := by decide +kernel
theorem dX3_join_46 : decode cX3_join 46 = .ok (.iconst 1, 1) := by decide +kernel
theorem dX3_join_47 : decode cX3_join 47 = .ok (.goto 4, 3) := by decide +kernel
theorem dX3_join_50 : decode cX3_join 50 = .ok (.iconst 0, 1) := by decide +kernel
theorem dX3_join_51 : decode cX3_join 51 = .ok (.istore 4, 2) := by decide +kernel
theorem dX3_join_53 : decode cX3_join 53 = .ok (.aload_n 0, 1) := by decide +kernel
theorem dX3_join_54 : decode cX3_join 54 = .ok (.iload_n 3, 1) := by decide +kernel
theorem dX3_join_55 : decode cX3_join 55 = .ok (.iload 4, 2) := by decide +kernel
theorem dX3_join_57 : decode cX3_join 57 = .ok (.iload 4, 2) := by decide +kernel
theorem dX3_join_59 : decode cX3_join 59 = .ok (.ifCond .eq 33, 3) := by decide +kernel
theorem dX3_join_62 : decode cX3_join 62 = .ok (.aload_n 0, 1) := by decide +kernel
theorem dX3_join_63 : decode cX3_join 63 = .ok (.getfield 43, 3) := by decide +kernel
theorem dX3_join_66 : decode cX3_join 66 = .ok (.iload_n 1, 1) := by decide +kernel
theorem dX3_join_67 : decode cX3_join 67 = .ok (.iaload, 1) := by decide +kernel
theorem dX3_join_68 : decode cX3_join 68 = .ok (.ifCond .ne 24, 3) := by decide +kernel
theorem dX3_join_71 : decode cX3_join 71 = .ok (.aload_n 0, 1) := by decide +kernel
theorem dX3_join_72 : decode cX3_join 72 = .ok (.getfield 43, 3) := by decide +kernel
theorem dX3_join_75 : decode cX3_join 75 = .ok (.iload_n 2, 1) := by decide +kernel
theorem dX3_join_76 : decode cX3_join 76 = .ok (.iaload, 1) := by decide +kernel
theorem dX3_join_77 : decode cX3_join 77 = .ok (.ifCond .ne 15, 3) := by decide +kernel
theorem dX3_join_80 : decode cX3_join 80 = .ok (.aload_n 0, 1) := by decide +kernel
theorem dX3_join_81 : decode cX3_join 81 = .ok (.iload_n 1, 1) := by decide +kernel
theorem dX3_join_82 : decode cX3_join 82 = .ok (.invokevirtual 120, 3) := by decide +kernel
theorem dX3_join_85 : decode cX3_join 85 = .ok (.ifCond .ne 7, 3) := by decide +kernel
theorem dX3_join_88 : decode cX3_join 88 = .ok (.iconst 1, 1) := by decide +kernel
theorem dX3_join_89 : decode cX3_join 89 = .ok (.goto 4, 3) := by decide +kernel
theorem dX3_join_92 : decode cX3_join 92 = .ok (.iconst 0, 1) := by decide +kernel
theorem dX3_join_93 : decode cX3_join 93 = .ok (.invokevirtual 84, 3) := by decide +kernel
theorem dX3_join_96 : decode cX3_join 96 = .ok (.ifCond .ne 5, 3) := by decide +kernel
theorem dX3_join_99 : decode cX3_join 99 = .ok (.iconst 0, 1) := by decide +kernel
theorem dX3_join_100 : decode cX3_join 100 = .ok (.ireturn, 1) := by decide +kernel
theorem dX3_join_101 : decode cX3_join 101 = .ok (.aload_n 0, 1) := by decide +kernel
theorem dX3_join_102 : decode cX3_join 102 = .ok (.getfield 43, 3) := by decide +kernel
theorem dX3_join_105 : decode cX3_join 105 = .ok (.iload_n 1, 1) := by decide +kernel
theorem dX3_join_106 : decode cX3_join 106 = .ok (.iconst 1, 1) := by decide +kernel
theorem dX3_join_107 : decode cX3_join 107 = .ok (.iastore, 1) := by decide +kernel
theorem dX3_join_108 : decode cX3_join 108 = .ok (.aload_n 0, 1) := by decide +kernel
theorem dX3_join_109 : decode cX3_join 109 = .ok (.getfield 46, 3) := by decide +kernel
theorem dX3_join_112 : decode cX3_join 112 = .ok (.iload_n 1, 1) := by decide +kernel
theorem dX3_join_113 : decode cX3_join 113 = .ok (.iload_n 2, 1) := by decide +kernel
theorem dX3_join_114 : decode cX3_join 114 = .ok (.iastore, 1) := by decide +kernel
theorem dX3_join_115 : decode cX3_join 115 = .ok (.aload_n 0, 1) := by decide +kernel
theorem dX3_join_116 : decode cX3_join 116 = .ok (.iload_n 2, 1) := by decide +kernel
theorem dX3_join_117 : decode cX3_join 117 = .ok (.invokevirtual 120, 3) := by decide +kernel
theorem dX3_join_120 : decode cX3_join 120 = .ok (.ireturn, 1) := by decide +kernel
set_option maxRecDepth 20000 in
theorem ggX3_openAnew_X3_isCase : GoodIn wsX3_openAnew wsX3_isCase := goodIn_r _ [9, 10, 11, 12, 8, 13, 19, 20, 21, 22, 23, 24, 25, 26, 27, 28, 29, 30, 31, 32, 33, 34, 35, 36, 37, 38, 39] (by decide +kernel) (by decide +kernel)
set_option maxRecDepth 20000 in
theorem gX3_openAnew_X3_isCase : GoodIn wsX3_openAnew (wsV RX3 114 RX3 yX3_isCase wsX3_isCase) := goodIn_app (goodIn_of _ (by decide +kernel)) ggX3_openAnew_X3_isCase
set_option maxRecDepth 20000 in
theorem ggX3_openAnew_X3_asked_ : GoodIn wsX3_openAnew wsX3_asked_ := goodIn_r _ [17, 18, 19, 20, 21, 22, 23, 24, 25, 26, 27, 28, 29, 30, 31, 32, 33, 34, 35, 36, 37, 38, 39] (by decide +kernel) (by decide +kernel)
set_option maxRecDepth 20000 in
theorem gX3_openAnew_X3_asked_ : GoodIn wsX3_openAnew (wsV RX3 80 RX3 yX3_asked_ wsX3_asked_) := goodIn_app (goodIn_of _ (by decide +kernel)) ggX3_openAnew_X3_asked_
theorem dX3_openAnew_0 : decode cX3_openAnew 0 = .ok (.aload_n 0, 1) := by decide +kernel
theorem dX3_openAnew_1 : decode cX3_openAnew 1 = .ok (.iload_n 1, 1) := by decide +kernel
theorem dX3_openAnew_2 : decode cX3_openAnew 2 = .ok (.invokevirtual 114, 3) := by decide +kernel
theorem dX3_openAnew_5 : decode cX3_openAnew 5 = .ok (.istore_n 2, 1) := by decide +kernel
theorem dX3_openAnew_6 : decode cX3_openAnew 6 = .ok (.aload_n 0, 1) := by decide +kernel
theorem dX3_openAnew_7 : decode cX3_openAnew 7 = .ok (.iload_n 2, 1) := by decide +kernel
theorem dX3_openAnew_8 : decode cX3_openAnew 8 = .ok (.iload_n 2, 1) := by decide +kernel
theorem dX3_openAnew_9 : decode cX3_openAnew 9 = .ok (.ifCond .eq 17, 3) := by decide +kernel
theorem dX3_openAnew_12 : decode cX3_openAnew 12 = .ok (.aload_n 0, 1) := by decide +kernel
theorem dX3_openAnew_13 : decode cX3_openAnew 13 = .ok (.getfield 43, 3) := by decide +kernel
theorem dX3_openAnew_16 : decode cX3_openAnew 16 = .ok (.iload_n 1, 1) := by decide +kernel
theorem dX3_openAnew_17 : decode cX3_openAnew 17 = .ok (.iaload, 1) := by decide +kernel
theorem dX3_openAnew_18 : decode cX3_openAnew 18 = .ok (.iconst 2, 1) := by decide +kernel
theorem dX3_openAnew_19 : decode cX3_openAnew 19 = .ok (.if_icmp .ne 7, 3) := by decide +kernel
theorem dX3_openAnew_22 : decode cX3_openAnew 22 = .ok (.iconst 1, 1) := by decide +kernel
theorem dX3_openAnew_23 : decode cX3_openAnew 23 = .ok (.goto 4, 3) := by decide +kernel
theorem dX3_openAnew_26 : decode cX3_openAnew 26 = .ok (.iconst 0, 1) := by decide +kernel
theorem dX3_openAnew_27 : decode cX3_openAnew 27 = .ok (.invokevirtual 80, 3) := by decide +kernel
theorem dX3_openAnew_30 : decode cX3_openAnew 30 = .ok (.ifCond .ne 5, 3) := by decide +kernel
theorem dX3_openAnew_33 : decode cX3_openAnew 33 = .ok (.iconst 0, 1) := by decide +kernel
theorem dX3_openAnew_34 : decode cX3_openAnew 34 = .ok (.ireturn, 1) := by decide +kernel
theorem dX3_openAnew_35 : decode cX3_openAnew 35 = .ok (.aload_n 0, 1) := by decide +kernel
theorem dX3_openAnew_36 : decode cX3_openAnew 36 = .ok (.getfield 43, 3) := by decide +kernel
theorem dX3_openAnew_39 : decode cX3_openAnew 39 = .ok (.iload_n 1, 1) := by decide +kernel
theorem dX3_openAnew_40 : decode cX3_openAnew 40 = .ok (.iconst 0, 1) := by decide +kernel
theorem dX3_openAnew_41 : decode cX3_openAnew 41 = .ok (.iastore, 1) := by decide +kernel
theorem dX3_openAnew_42 : decode cX3_openAnew 42 = .ok (.aload_n 0, 1) := by decide +kernel
theorem dX3_openAnew_43 : decode cX3_openAnew 43 = .ok (.getfield 49, 3) := by decide +kernel
theorem dX3_openAnew_46 : decode cX3_openAnew 46 = .ok (.iload_n 1, 1) := by decide +kernel
theorem dX3_openAnew_47 : decode cX3_openAnew 47 = .ok (.iconst 0, 1) := by decide +kernel
theorem dX3_openAnew_48 : decode cX3_openAnew 48 = .ok (.bastore, 1) := by decide +kernel
theorem dX3_openAnew_49 : decode cX3_openAnew 49 = .ok (.aload_n 0, 1) := by decide +kernel
theorem dX3_openAnew_50 : decode cX3_openAnew 50 = .ok (.getfield 56, 3) := by decide +kernel
theorem dX3_openAnew_53 : decode cX3_openAnew 53 = .ok (.iconst 3, 1) := by decide +kernel
theorem dX3_openAnew_54 : decode cX3_openAnew 54 = .ok (.iload_n 1, 1) := by decide +kernel
theorem dX3_openAnew_55 : decode cX3_openAnew 55 = .ok (.imul, 1) := by decide +kernel
theorem dX3_openAnew_56 : decode cX3_openAnew 56 = .ok (.iconst 2, 1) := by decide +kernel
theorem dX3_openAnew_57 : decode cX3_openAnew 57 = .ok (.iadd, 1) := by decide +kernel
theorem dX3_openAnew_58 : decode cX3_openAnew 58 = .ok (.iconst 0, 1) := by decide +kernel
theorem dX3_openAnew_59 : decode cX3_openAnew 59 = .ok (.bastore, 1) := by decide +kernel
theorem dX3_openAnew_60 : decode cX3_openAnew 60 = .ok (.aload_n 0, 1) := by decide +kernel
theorem dX3_openAnew_61 : decode cX3_openAnew 61 = .ok (.getfield 53, 3) := by decide +kernel
theorem dX3_openAnew_64 : decode cX3_openAnew 64 = .ok (.iconst 3, 1) := by decide +kernel
theorem dX3_openAnew_65 : decode cX3_openAnew 65 = .ok (.iload_n 1, 1) := by decide +kernel
theorem dX3_openAnew_66 : decode cX3_openAnew 66 = .ok (.imul, 1) := by decide +kernel
theorem dX3_openAnew_67 : decode cX3_openAnew 67 = .ok (.iconst 2, 1) := by decide +kernel
theorem dX3_openAnew_68 : decode cX3_openAnew 68 = .ok (.iadd, 1) := by decide +kernel
theorem dX3_openAnew_69 : decode cX3_openAnew 69 = .ok (.iaload, 1) := by decide +kernel
theorem dX3_openAnew_70 : decode cX3_openAnew 70 = .ok (.ireturn, 1) := by decide +kernel
set_option maxRecDepth 20000 in
theorem ggX3_stateOf_X3_isCase : GoodIn wsX3_stateOf wsX3_isCase := goodIn_r _ [6, 7, 8, 9, 5, 10, 16, 17, 18, 19, 20, 21, 22, 23, 24, 25, 26, 27, 28, 29, 30, 31, 32, 33, 34, 35, 36] (by decide +kernel) (by decide +kernel)
set_option maxRecDepth 20000 in
theorem gX3_stateOf_X3_isCase : GoodIn wsX3_stateOf (wsV RX3 114 RX3 yX3_isCase wsX3_isCase) := goodIn_app (goodIn_of _ (by decide +kernel)) ggX3_stateOf_X3_isCase
set_option maxRecDepth 20000 in
theorem ggX3_stateOf_X3_asked : GoodIn wsX3_stateOf wsX3_asked := goodIn_r _ [14, 15, 16, 17, 18, 19, 20, 21, 22, 23, 24, 25, 26, 27, 28, 29, 30, 31, 32, 33, 34, 35, 36] (by decide +kernel) (by decide +kernel)
set_option maxRecDepth 20000 in
theorem gX3_stateOf_X3_asked : GoodIn wsX3_stateOf (wsV RX3 87 RX3 yX3_asked wsX3_asked) := goodIn_app (goodIn_of _ (by decide +kernel)) ggX3_stateOf_X3_asked
theorem dX3_stateOf_0 : decode cX3_stateOf 0 = .ok (.aload_n 0, 1) := by decide +kernel
theorem dX3_stateOf_1 : decode cX3_stateOf 1 = .ok (.aload_n 0, 1) := by decide +kernel
theorem dX3_stateOf_2 : decode cX3_stateOf 2 = .ok (.iload_n 1, 1) := by decide +kernel
theorem dX3_stateOf_3 : decode cX3_stateOf 3 = .ok (.invokevirtual 114, 3) := by decide +kernel
theorem dX3_stateOf_6 : decode cX3_stateOf 6 = .ok (.invokevirtual 87, 3) := by decide +kernel
theorem dX3_stateOf_9 : decode cX3_stateOf 9 = .ok (.ifCond .eq 12, 3) := by decide +kernel
theorem dX3_stateOf_12 : decode cX3_stateOf 12 = .ok (.aload_n 0, 1) := by decide +kernel
theorem dX3_stateOf_13 : decode cX3_stateOf 13 = .ok (.getfield 43, 3) := by decide +kernel
theorem dX3_stateOf_16 : decode cX3_stateOf 16 = .ok (.iload_n 1, 1) := by decide +kernel
theorem dX3_stateOf_17 : decode cX3_stateOf 17 = .ok (.iaload, 1) := by decide +kernel
theorem dX3_stateOf_18 : decode cX3_stateOf 18 = .ok (.goto 4, 3) := by decide +kernel
theorem dX3_stateOf_21 : decode cX3_stateOf 21 = .ok (.iconst 0, 1) := by decide +kernel
theorem dX3_stateOf_22 : decode cX3_stateOf 22 = .ok (.ireturn, 1) := by decide +kernel
set_option maxRecDepth 20000 in
theorem ggX3_isStage_X3_in : GoodIn wsX3_isStage wsX3_in := goodIn_r _ [4] (by decide +kernel) (by decide +kernel)
set_option maxRecDepth 20000 in
theorem gX3_isStage_X3_in : GoodIn wsX3_isStage (va_wsS RX3 69 yX3_in wsX3_in) := goodIn_app (goodIn_of _ (by decide +kernel)) ggX3_isStage_X3_in
theorem dX3_isStage_0 : decode cX3_isStage 0 = .ok (.iload_n 0, 1) := by decide +kernel
theorem dX3_isStage_1 : decode cX3_isStage 1 = .ok (.iconst 0, 1) := by decide +kernel
theorem dX3_isStage_2 : decode cX3_isStage 2 = .ok (.iconst 2, 1) := by decide +kernel
theorem dX3_isStage_3 : decode cX3_isStage 3 = .ok (.invokestatic 69, 3) := by decide +kernel
theorem dX3_isStage_6 : decode cX3_isStage 6 = .ok (.ireturn, 1) := by decide +kernel
set_option maxRecDepth 20000 in
theorem ggX3_clock_X3_isCase : GoodIn wsX3_clock wsX3_isCase := goodIn_r _ [6, 7, 8, 9, 5, 10, 19, 20, 21, 22, 23, 24, 25, 26, 27, 28, 29, 30, 31, 32, 33, 34, 35, 36, 37, 38, 39] (by decide +kernel) (by decide +kernel)
set_option maxRecDepth 20000 in
theorem gX3_clock_X3_isCase : GoodIn wsX3_clock (wsV RX3 114 RX3 yX3_isCase wsX3_isCase) := goodIn_app (goodIn_of _ (by decide +kernel)) ggX3_clock_X3_isCase
set_option maxRecDepth 20000 in
theorem ggX3_clock_X3_isStage : GoodIn wsX3_clock wsX3_isStage := goodIn_r _ [13, 8, 9, 5, 10] (by decide +kernel) (by decide +kernel)
set_option maxRecDepth 20000 in
theorem gX3_clock_X3_isStage : GoodIn wsX3_clock (va_wsS RX3 123 yX3_isStage wsX3_isStage) := goodIn_app (goodIn_of _ (by decide +kernel)) ggX3_clock_X3_isStage
set_option maxRecDepth 20000 in
theorem ggX3_clock_X3_asked_ : GoodIn wsX3_clock wsX3_asked_ := goodIn_r _ [17, 18, 19, 20, 21, 22, 23, 24, 25, 26, 27, 28, 29, 30, 31, 32, 33, 34, 35, 36, 37, 38, 39] (by decide +kernel) (by decide +kernel)
set_option maxRecDepth 20000 in
theorem gX3_clock_X3_asked_ : GoodIn wsX3_clock (wsV RX3 80 RX3 yX3_asked_ wsX3_asked_) := goodIn_app (goodIn_of _ (by decide +kernel)) ggX3_clock_X3_asked_
theorem dX3_clock_0 : decode cX3_clock 0 = .ok (.aload_n 0, 1) := by decide +kernel
theorem dX3_clock_1 : decode cX3_clock 1 = .ok (.aload_n 0, 1) := by decide +kernel
theorem dX3_clock_2 : decode cX3_clock 2 = .ok (.iload_n 1, 1) := by decide +kernel
theorem dX3_clock_3 : decode cX3_clock 3 = .ok (.invokevirtual 114, 3) := by decide +kernel
theorem dX3_clock_6 : decode cX3_clock 6 = .ok (.iload_n 2, 1) := by decide +kernel
theorem dX3_clock_7 : decode cX3_clock 7 = .ok (.invokestatic 123, 3) := by decide +kernel
theorem dX3_clock_10 : decode cX3_clock 10 = .ok (.invokevirtual 80, 3) := by decide +kernel
theorem dX3_clock_13 : decode cX3_clock 13 = .ok (.ifCond .eq 16, 3) := by decide +kernel
theorem dX3_clock_16 : decode cX3_clock 16 = .ok (.aload_n 0, 1) := by decide +kernel
theorem dX3_clock_17 : decode cX3_clock 17 = .ok (.getfield 53, 3) := by decide +kernel
theorem dX3_clock_20 : decode cX3_clock 20 = .ok (.iconst 3, 1) := by decide +kernel
theorem dX3_clock_21 : decode cX3_clock 21 = .ok (.iload_n 1, 1) := by decide +kernel
theorem dX3_clock_22 : decode cX3_clock 22 = .ok (.imul, 1) := by decide +kernel
theorem dX3_clock_23 : decode cX3_clock 23 = .ok (.iload_n 2, 1) := by decide +kernel
theorem dX3_clock_24 : decode cX3_clock 24 = .ok (.iadd, 1) := by decide +kernel
theorem dX3_clock_25 : decode cX3_clock 25 = .ok (.iaload, 1) := by decide +kernel
theorem dX3_clock_26 : decode cX3_clock 26 = .ok (.goto 4, 3) := by decide +kernel
theorem dX3_clock_29 : decode cX3_clock 29 = .ok (.iconst 0, 1) := by decide +kernel
theorem dX3_clock_30 : decode cX3_clock 30 = .ok (.ireturn, 1) := by decide +kernel
set_option maxRecDepth 20000 in
theorem ggX3_isMissed_X3_isCase : GoodIn wsX3_isMissed wsX3_isCase := goodIn_r _ [5, 6, 7, 8, 4, 9, 25, 26, 27, 28, 29, 30, 31, 32, 33, 34, 35, 36, 37, 38, 39, 40, 41, 42, 43, 44, 45] (by decide +kernel) (by decide +kernel)
set_option maxRecDepth 20000 in
theorem gX3_isMissed_X3_isCase : GoodIn wsX3_isMissed (wsV RX3 114 RX3 yX3_isCase wsX3_isCase) := goodIn_app (goodIn_of _ (by decide +kernel)) ggX3_isMissed_X3_isCase
set_option maxRecDepth 20000 in
theorem ggX3_isMissed_X3_isStage : GoodIn wsX3_isMissed wsX3_isStage := goodIn_r _ [12, 7, 8, 4, 9] (by decide +kernel) (by decide +kernel)
set_option maxRecDepth 20000 in
theorem gX3_isMissed_X3_isStage : GoodIn wsX3_isMissed (va_wsS RX3 123 yX3_isStage wsX3_isStage) := goodIn_app (goodIn_of _ (by decide +kernel)) ggX3_isMissed_X3_isStage
set_option maxRecDepth 20000 in
theorem ggX3_isMissed_X3_asked_ : GoodIn wsX3_isMissed wsX3_asked_ := goodIn_r _ [16, 17, 25, 26, 27, 28, 29, 30, 31, 32, 33, 34, 35, 36, 37, 38, 39, 40, 41, 42, 43, 44, 45] (by decide +kernel) (by decide +kernel)
set_option maxRecDepth 20000 in
theorem gX3_isMissed_X3_asked_ : GoodIn wsX3_isMissed (wsV RX3 80 RX3 yX3_asked_ wsX3_asked_) := goodIn_app (goodIn_of _ (by decide +kernel)) ggX3_isMissed_X3_asked_
set_option maxRecDepth 20000 in
theorem ggX3_isMissed_X3_missed : GoodIn wsX3_isMissed wsX3_missed := goodIn_r _ [21, 22, 23, 24, 25, 26, 27, 28, 29, 30, 31, 32, 33, 34, 35, 36, 37, 38, 39, 40, 41, 42, 43, 44, 45] (by decide +kernel) (by decide +kernel)
set_option maxRecDepth 20000 in
theorem gX3_isMissed_X3_missed : GoodIn wsX3_isMissed (wsV RX3 111 RX3 yX3_missed wsX3_missed) := goodIn_app (goodIn_of _ (by decide +kernel)) ggX3_isMissed_X3_missed
theorem dX3_isMissed_0 : decode cX3_isMissed 0 = .ok (.aload_n 0, 1) := by decide +kernel
theorem dX3_isMissed_1 : decode cX3_isMissed 1 = .ok (.aload_n 0, 1) := by decide +kernel
theorem dX3_isMissed_2 : decode cX3_isMissed 2 = .ok (.iload_n 1, 1) := by decide +kernel
theorem dX3_isMissed_3 : decode cX3_isMissed 3 = .ok (.invokevirtual 114, 3) := by decide +kernel
theorem dX3_isMissed_6 : decode cX3_isMissed 6 = .ok (.iload_n 2, 1) := by decide +kernel
theorem dX3_isMissed_7 : decode cX3_isMissed 7 = .ok (.invokestatic 123, 3) := by decide +kernel
theorem dX3_isMissed_10 : decode cX3_isMissed 10 = .ok (.invokevirtual 80, 3) := by decide +kernel
theorem dX3_isMissed_13 : decode cX3_isMissed 13 = .ok (.ifCond .eq 16, 3) := by decide +kernel
theorem dX3_isMissed_16 : decode cX3_isMissed 16 = .ok (.aload_n 0, 1) := by decide +kernel
theorem dX3_isMissed_17 : decode cX3_isMissed 17 = .ok (.iload_n 1, 1) := by decide +kernel
theorem dX3_isMissed_18 : decode cX3_isMissed 18 = .ok (.iload_n 2, 1) := by decide +kernel
theorem dX3_isMissed_19 : decode cX3_isMissed 19 = .ok (.invokevirtual 111, 3) := by decide +kernel
theorem dX3_isMissed_22 : decode cX3_isMissed 22 = .ok (.ifCond .eq 7, 3) := by decide +kernel
theorem dX3_isMissed_25 : decode cX3_isMissed 25 = .ok (.iconst 1, 1) := by decide +kernel
theorem dX3_isMissed_26 : decode cX3_isMissed 26 = .ok (.goto 4, 3) := by decide +kernel
theorem dX3_isMissed_29 : decode cX3_isMissed 29 = .ok (.iconst 0, 1) := by decide +kernel
theorem dX3_isMissed_30 : decode cX3_isMissed 30 = .ok (.ireturn, 1) := by decide +kernel
theorem dX3_stepOf_0 : decode cX3_stepOf 0 = .ok (.iconst 0, 1) := by decide +kernel
theorem dX3_stepOf_1 : decode cX3_stepOf 1 = .ok (.istore_n 2, 1) := by decide +kernel
theorem dX3_stepOf_2 : decode cX3_stepOf 2 = .ok (.iconst 0, 1) := by decide +kernel
theorem dX3_stepOf_3 : decode cX3_stepOf 3 = .ok (.istore_n 3, 1) := by decide +kernel
theorem dX3_stepOf_4 : decode cX3_stepOf 4 = .ok (.iload_n 3, 1) := by decide +kernel
theorem dX3_stepOf_5 : decode cX3_stepOf 5 = .ok (.iconst 2, 1) := by decide +kernel
theorem dX3_stepOf_6 : decode cX3_stepOf 6 = .ok (.if_icmp .gt 112, 3) := by decide +kernel
theorem dX3_stepOf_9 : decode cX3_stepOf 9 = .ok (.bipush 100, 2) := by decide +kernel
theorem dX3_stepOf_11 : decode cX3_stepOf 11 = .ok (.aload_n 0, 1) := by decide +kernel
theorem dX3_stepOf_12 : decode cX3_stepOf 12 = .ok (.getfield 53, 3) := by decide +kernel
theorem dX3_stepOf_15 : decode cX3_stepOf 15 = .ok (.iconst 3, 1) := by decide +kernel
theorem dX3_stepOf_16 : decode cX3_stepOf 16 = .ok (.iload_n 1, 1) := by decide +kernel
theorem dX3_stepOf_17 : decode cX3_stepOf 17 = .ok (.imul, 1) := by decide +kernel
theorem dX3_stepOf_18 : decode cX3_stepOf 18 = .ok (.iload_n 3, 1) := by decide +kernel
theorem dX3_stepOf_19 : decode cX3_stepOf 19 = .ok (.iadd, 1) := by decide +kernel
theorem dX3_stepOf_20 : decode cX3_stepOf 20 = .ok (.iaload, 1) := by decide +kernel
theorem dX3_stepOf_21 : decode cX3_stepOf 21 = .ok (.imul, 1) := by decide +kernel
theorem dX3_stepOf_22 : decode cX3_stepOf 22 = .ok (.istore 4, 2) := by decide +kernel
theorem dX3_stepOf_24 : decode cX3_stepOf 24 = .ok (.aload_n 0, 1) := by decide +kernel
theorem dX3_stepOf_25 : decode cX3_stepOf 25 = .ok (.getfield 31, 3) := by decide +kernel
theorem dX3_stepOf_28 : decode cX3_stepOf 28 = .ok (.iconst 3, 1) := by decide +kernel
theorem dX3_stepOf_29 : decode cX3_stepOf 29 = .ok (.aload_n 0, 1) := by decide +kernel
theorem dX3_stepOf_30 : decode cX3_stepOf 30 = .ok (.getfield 40, 3) := by decide +kernel
theorem dX3_stepOf_33 : decode cX3_stepOf 33 = .ok (.iload_n 1, 1) := by decide +kernel
theorem dX3_stepOf_34 : decode cX3_stepOf 34 = .ok (.iaload, 1) := by decide +kernel
theorem dX3_stepOf_35 : decode cX3_stepOf 35 = .ok (.imul, 1) := by decide +kernel
theorem dX3_stepOf_36 : decode cX3_stepOf 36 = .ok (.iload_n 3, 1) := by decide +kernel
theorem dX3_stepOf_37 : decode cX3_stepOf 37 = .ok (.iadd, 1) := by decide +kernel
theorem dX3_stepOf_38 : decode cX3_stepOf 38 = .ok (.iaload, 1) := by decide +kernel
theorem dX3_stepOf_39 : decode cX3_stepOf 39 = .ok (.istore 5, 2) := by decide +kernel
theorem dX3_stepOf_41 : decode cX3_stepOf 41 = .ok (.aload_n 0, 1) := by decide +kernel
theorem dX3_stepOf_42 : decode cX3_stepOf 42 = .ok (.getfield 56, 3) := by decide +kernel
theorem dX3_stepOf_45 : decode cX3_stepOf 45 = .ok (.iconst 3, 1) := by decide +kernel
theorem dX3_stepOf_46 : decode cX3_stepOf 46 = .ok (.iload_n 1, 1) := by decide +kernel
theorem dX3_stepOf_47 : decode cX3_stepOf 47 = .ok (.imul, 1) := by decide +kernel
theorem dX3_stepOf_48 : decode cX3_stepOf 48 = .ok (.iload_n 3, 1) := by decide +kernel
theorem dX3_stepOf_49 : decode cX3_stepOf 49 = .ok (.iadd, 1) := by decide +kernel
theorem dX3_stepOf_50 : decode cX3_stepOf 50 = .ok (.baload, 1) := by decide +kernel
theorem dX3_stepOf_51 : decode cX3_stepOf 51 = .ok (.ifCond .ne 13, 3) := by decide +kernel
theorem dX3_stepOf_54 : decode cX3_stepOf 54 = .ok (.iload 4, 2) := by decide +kernel
theorem dX3_stepOf_56 : decode cX3_stepOf 56 = .ok (.bipush 50, 2) := by decide +kernel
theorem dX3_stepOf_58 : decode cX3_stepOf 58 = .ok (.iload 5, 2) := by decide +kernel
theorem dX3_stepOf_60 : decode cX3_stepOf 60 = .ok (.imul, 1) := by decide +kernel
theorem dX3_stepOf_61 : decode cX3_stepOf 61 = .ok (.if_icmp .ge 7, 3) := by decide +kernel
theorem dX3_stepOf_64 : decode cX3_stepOf 64 = .ok (.iconst 0, 1) := by decide +kernel
theorem dX3_stepOf_65 : decode cX3_stepOf 65 = .ok (.goto 32, 3) := by decide +kernel
theorem dX3_stepOf_68 : decode cX3_stepOf 68 = .ok (.iload 4, 2) := by decide +kernel
theorem dX3_stepOf_70 : decode cX3_stepOf 70 = .ok (.bipush 75, 2) := by decide +kernel
theorem dX3_stepOf_72 : decode cX3_stepOf 72 = .ok (.iload 5, 2) := by decide +kernel
theorem dX3_stepOf_74 : decode cX3_stepOf 74 = .ok (.imul, 1) := by decide +kernel
theorem dX3_stepOf_75 : decode cX3_stepOf 75 = .ok (.if_icmp .ge 7, 3) := by decide +kernel
theorem dX3_stepOf_78 : decode cX3_stepOf 78 = .ok (.iconst 1, 1) := by decide +kernel
theorem dX3_stepOf_79 : decode cX3_stepOf 79 = .ok (.goto 18, 3) := by decide +kernel
theorem dX3_stepOf_82 : decode cX3_stepOf 82 = .ok (.iload 4, 2) := by decide +kernel
theorem dX3_stepOf_84 : decode cX3_stepOf 84 = .ok (.bipush 100, 2) := by decide +kernel
theorem dX3_stepOf_86 : decode cX3_stepOf 86 = .ok (.iload 5, 2) := by decide +kernel
theorem dX3_stepOf_88 : decode cX3_stepOf 88 = .ok (.imul, 1) := by decide +kernel
theorem dX3_stepOf_89 : decode cX3_stepOf 89 = .ok (.if_icmp .gt 7, 3) := by decide +kernel
theorem dX3_stepOf_92 : decode cX3_stepOf 92 = .ok (.iconst 2, 1) := by decide +kernel
theorem dX3_stepOf_93 : decode cX3_stepOf 93 = .ok (.goto 4, 3) := by decide +kernel
theorem dX3_stepOf_96 : decode cX3_stepOf 96 = .ok (.iconst 3, 1) := by decide +kernel
theorem dX3_stepOf_97 : decode cX3_stepOf 97 = .ok (.istore 6, 2) := by decide +kernel
theorem dX3_stepOf_99 : decode cX3_stepOf 99 = .ok (.iload 6, 2) := by decide +kernel
theorem dX3_stepOf_101 : decode cX3_stepOf 101 = .ok (.iload_n 2, 1) := by decide +kernel
theorem dX3_stepOf_102 : decode cX3_stepOf 102 = .ok (.if_icmp .le 8, 3) := by decide +kernel
theorem dX3_stepOf_105 : decode cX3_stepOf 105 = .ok (.iload 6, 2) := by decide +kernel
theorem dX3_stepOf_107 : decode cX3_stepOf 107 = .ok (.goto 4, 3) := by decide +kernel
theorem dX3_stepOf_110 : decode cX3_stepOf 110 = .ok (.iload_n 2, 1) := by decide +kernel
theorem dX3_stepOf_111 : decode cX3_stepOf 111 = .ok (.istore_n 2, 1) := by decide +kernel
theorem dX3_stepOf_112 : decode cX3_stepOf 112 = .ok (.iinc 3 1, 3) := by decide +kernel
theorem dX3_stepOf_115 : decode cX3_stepOf 115 = .ok (.goto (-111), 3) := by decide +kernel
theorem dX3_stepOf_118 : decode cX3_stepOf 118 = .ok (.iload_n 2, 1) := by decide +kernel
theorem dX3_stepOf_119 : decode cX3_stepOf 119 = .ok (.ireturn, 1) := by decide +kernel
set_option maxRecDepth 20000 in
theorem ggX3_step_X3_isCase : GoodIn wsX3_step wsX3_isCase := goodIn_r _ [5, 6, 7, 8, 4, 9, 23, 24, 25, 26, 27, 28, 29, 30, 31, 32, 33, 34, 35, 36, 37, 38, 39, 40, 41, 42, 43] (by decide +kernel) (by decide +kernel)
set_option maxRecDepth 20000 in
theorem gX3_step_X3_isCase : GoodIn wsX3_step (wsV RX3 114 RX3 yX3_isCase wsX3_isCase) := goodIn_app (goodIn_of _ (by decide +kernel)) ggX3_step_X3_isCase
set_option maxRecDepth 20000 in
theorem ggX3_step_X3_asked : GoodIn wsX3_step wsX3_asked := goodIn_r _ [13, 14, 23, 24, 25, 26, 27, 28, 29, 30, 31, 32, 33, 34, 35, 36, 37, 38, 39, 40, 41, 42, 43] (by decide +kernel) (by decide +kernel)
set_option maxRecDepth 20000 in
theorem gX3_step_X3_asked : GoodIn wsX3_step (wsV RX3 87 RX3 yX3_asked wsX3_asked) := goodIn_app (goodIn_of _ (by decide +kernel)) ggX3_step_X3_asked
set_option maxRecDepth 20000 in
theorem ggX3_step_X3_stepOf : GoodIn wsX3_step wsX3_stepOf := goodIn_r _ [18, 19, 20, 21, 22, 23, 24, 25, 26, 27, 28, 29, 30, 31, 32, 33, 34, 35, 36, 37, 38, 39, 40, 41, 42, 43] (by decide +kernel) (by decide +kernel)
set_option maxRecDepth 20000 in
theorem gX3_step_X3_stepOf : GoodIn wsX3_step (wsV RX3 126 RX3 yX3_stepOf wsX3_stepOf) := goodIn_app (goodIn_of _ (by decide +kernel)) ggX3_step_X3_stepOf
theorem dX3_step_0 : decode cX3_step 0 = .ok (.aload_n 0, 1) := by decide +kernel
theorem dX3_step_1 : decode cX3_step 1 = .ok (.aload_n 0, 1) := by decide +kernel
theorem dX3_step_2 : decode cX3_step 2 = .ok (.iload_n 1, 1) := by decide +kernel
theorem dX3_step_3 : decode cX3_step 3 = .ok (.invokevirtual 114, 3) := by decide +kernel
theorem dX3_step_6 : decode cX3_step 6 = .ok (.invokevirtual 87, 3) := by decide +kernel
theorem dX3_step_9 : decode cX3_step 9 = .ok (.ifCond .eq 11, 3) := by decide +kernel
theorem dX3_step_12 : decode cX3_step 12 = .ok (.aload_n 0, 1) := by decide +kernel
theorem dX3_step_13 : decode cX3_step 13 = .ok (.iload_n 1, 1) := by decide +kernel
theorem dX3_step_14 : decode cX3_step 14 = .ok (.invokevirtual 126, 3) := by decide +kernel
theorem dX3_step_17 : decode cX3_step 17 = .ok (.goto 4, 3) := by decide +kernel
theorem dX3_step_20 : decode cX3_step 20 = .ok (.iconst 0, 1) := by decide +kernel
theorem dX3_step_21 : decode cX3_step 21 = .ok (.ireturn, 1) := by decide +kernel
set_option maxRecDepth 20000 in
theorem ggX3_mostUrgent_X3_stepOf : GoodIn wsX3_mostUrgent wsX3_stepOf := goodIn_r _ [9, 10, 11, 4, 12, 18, 19, 20, 21, 22, 23, 24, 25, 26, 27, 28, 29, 30, 31, 32, 33, 34, 35, 36, 37, 38] (by decide +kernel) (by decide +kernel)
set_option maxRecDepth 20000 in
theorem gX3_mostUrgent_X3_stepOf : GoodIn wsX3_mostUrgent (wsV RX3 126 RX3 yX3_stepOf wsX3_stepOf) := goodIn_app (goodIn_of _ (by decide +kernel)) ggX3_mostUrgent_X3_stepOf
set_option maxRecDepth 20000 in
theorem ggX3_mostUrgent_X3_told : GoodIn wsX3_mostUrgent wsX3_told := goodIn_r _ [16, 17, 18, 19, 20, 21, 22, 23, 24, 25, 26, 27, 28, 29, 30, 31, 32, 33, 34, 35, 36, 37, 38] (by decide +kernel) (by decide +kernel)
set_option maxRecDepth 20000 in
theorem gX3_mostUrgent_X3_told : GoodIn wsX3_mostUrgent (wsV RX3 103 RX3 yX3_told wsX3_told) := goodIn_app (goodIn_of _ (by decide +kernel)) ggX3_mostUrgent_X3_told
theorem dX3_mostUrgent_0 : decode cX3_mostUrgent 0 = .ok (.iconst (-1), 1) := by decide +kernel
theorem dX3_mostUrgent_1 : decode cX3_mostUrgent 1 = .ok (.istore_n 1, 1) := by decide +kernel
theorem dX3_mostUrgent_2 : decode cX3_mostUrgent 2 = .ok (.iconst 0, 1) := by decide +kernel
theorem dX3_mostUrgent_3 : decode cX3_mostUrgent 3 = .ok (.istore_n 2, 1) := by decide +kernel
theorem dX3_mostUrgent_4 : decode cX3_mostUrgent 4 = .ok (.iload_n 2, 1) := by decide +kernel
theorem dX3_mostUrgent_5 : decode cX3_mostUrgent 5 = .ok (.aload_n 0, 1) := by decide +kernel
theorem dX3_mostUrgent_6 : decode cX3_mostUrgent 6 = .ok (.getfield 73, 3) := by decide +kernel
theorem dX3_mostUrgent_9 : decode cX3_mostUrgent 9 = .ok (.if_icmp .ge 76, 3) := by decide +kernel
theorem dX3_mostUrgent_12 : decode cX3_mostUrgent 12 = .ok (.aload_n 0, 1) := by decide +kernel
theorem dX3_mostUrgent_13 : decode cX3_mostUrgent 13 = .ok (.getfield 43, 3) := by decide +kernel
theorem dX3_mostUrgent_16 : decode cX3_mostUrgent 16 = .ok (.iload_n 2, 1) := by decide +kernel
theorem dX3_mostUrgent_17 : decode cX3_mostUrgent 17 = .ok (.iaload, 1) := by decide +kernel
theorem dX3_mostUrgent_18 : decode cX3_mostUrgent 18 = .ok (.ifCond .ne 61, 3) := by decide +kernel
theorem dX3_mostUrgent_21 : decode cX3_mostUrgent 21 = .ok (.aload_n 0, 1) := by decide +kernel
theorem dX3_mostUrgent_22 : decode cX3_mostUrgent 22 = .ok (.getfield 49, 3) := by decide +kernel
theorem dX3_mostUrgent_25 : decode cX3_mostUrgent 25 = .ok (.iload_n 2, 1) := by decide +kernel
theorem dX3_mostUrgent_26 : decode cX3_mostUrgent 26 = .ok (.baload, 1) := by decide +kernel
theorem dX3_mostUrgent_27 : decode cX3_mostUrgent 27 = .ok (.ifCond .ne 52, 3) := by decide +kernel
theorem dX3_mostUrgent_30 : decode cX3_mostUrgent 30 = .ok (.iload_n 1, 1) := by decide +kernel
theorem dX3_mostUrgent_31 : decode cX3_mostUrgent 31 = .ok (.iconst (-1), 1) := by decide +kernel
theorem dX3_mostUrgent_32 : decode cX3_mostUrgent 32 = .ok (.if_icmp .ne 7, 3) := by decide +kernel
theorem dX3_mostUrgent_35 : decode cX3_mostUrgent 35 = .ok (.iconst 1, 1) := by decide +kernel
theorem dX3_mostUrgent_36 : decode cX3_mostUrgent 36 = .ok (.goto 32, 3) := by decide +kernel
theorem dX3_mostUrgent_39 : decode cX3_mostUrgent 39 = .ok (.iconst 3, 1) := by decide +kernel
theorem dX3_mostUrgent_40 : decode cX3_mostUrgent 40 = .ok (.aload_n 0, 1) := by decide +kernel
theorem dX3_mostUrgent_41 : decode cX3_mostUrgent 41 = .ok (.iload_n 2, 1) := by decide +kernel
theorem dX3_mostUrgent_42 : decode cX3_mostUrgent 42 = .ok (.invokevirtual 126, 3) := by decide +kernel
theorem dX3_mostUrgent_45 : decode cX3_mostUrgent 45 = .ok (.imul, 1) := by decide +kernel
theorem dX3_mostUrgent_46 : decode cX3_mostUrgent 46 = .ok (.aload_n 0, 1) := by decide +kernel
theorem dX3_mostUrgent_47 : decode cX3_mostUrgent 47 = .ok (.getfield 40, 3) := by decide +kernel
theorem dX3_mostUrgent_50 : decode cX3_mostUrgent 50 = .ok (.iload_n 2, 1) := by decide +kernel
theorem dX3_mostUrgent_51 : decode cX3_mostUrgent 51 = .ok (.iaload, 1) := by decide +kernel
theorem dX3_mostUrgent_52 : decode cX3_mostUrgent 52 = .ok (.iadd, 1) := by decide +kernel
theorem dX3_mostUrgent_53 : decode cX3_mostUrgent 53 = .ok (.iconst 3, 1) := by decide +kernel
theorem dX3_mostUrgent_54 : decode cX3_mostUrgent 54 = .ok (.aload_n 0, 1) := by decide +kernel
theorem dX3_mostUrgent_55 : decode cX3_mostUrgent 55 = .ok (.iload_n 1, 1) := by decide +kernel
theorem dX3_mostUrgent_56 : decode cX3_mostUrgent 56 = .ok (.invokevirtual 126, 3) := by decide +kernel
theorem dX3_mostUrgent_59 : decode cX3_mostUrgent 59 = .ok (.imul, 1) := by decide +kernel
theorem dX3_mostUrgent_60 : decode cX3_mostUrgent 60 = .ok (.isub, 1) := by decide +kernel
theorem dX3_mostUrgent_61 : decode cX3_mostUrgent 61 = .ok (.aload_n 0, 1) := by decide +kernel
theorem dX3_mostUrgent_62 : decode cX3_mostUrgent 62 = .ok (.getfield 40, 3) := by decide +kernel
theorem dX3_mostUrgent_65 : decode cX3_mostUrgent 65 = .ok (.iload_n 1, 1) := by decide +kernel
theorem dX3_mostUrgent_66 : decode cX3_mostUrgent 66 = .ok (.iaload, 1) := by decide +kernel
theorem dX3_mostUrgent_67 : decode cX3_mostUrgent 67 = .ok (.isub, 1) := by decide +kernel
theorem dX3_mostUrgent_68 : decode cX3_mostUrgent 68 = .ok (.istore_n 3, 1) := by decide +kernel
theorem dX3_mostUrgent_69 : decode cX3_mostUrgent 69 = .ok (.iload_n 3, 1) := by decide +kernel
theorem dX3_mostUrgent_70 : decode cX3_mostUrgent 70 = .ok (.ifCond .le 7, 3) := by decide +kernel
theorem dX3_mostUrgent_73 : decode cX3_mostUrgent 73 = .ok (.iload_n 2, 1) := by decide +kernel
theorem dX3_mostUrgent_74 : decode cX3_mostUrgent 74 = .ok (.goto 4, 3) := by decide +kernel
theorem dX3_mostUrgent_77 : decode cX3_mostUrgent 77 = .ok (.iload_n 1, 1) := by decide +kernel
theorem dX3_mostUrgent_78 : decode cX3_mostUrgent 78 = .ok (.istore_n 1, 1) := by decide +kernel
theorem dX3_mostUrgent_79 : decode cX3_mostUrgent 79 = .ok (.iinc 2 1, 3) := by decide +kernel
theorem dX3_mostUrgent_82 : decode cX3_mostUrgent 82 = .ok (.goto (-78), 3) := by decide +kernel
theorem dX3_mostUrgent_85 : decode cX3_mostUrgent 85 = .ok (.aload_n 0, 1) := by decide +kernel
theorem dX3_mostUrgent_86 : decode cX3_mostUrgent 86 = .ok (.iload_n 1, 1) := by decide +kernel
theorem dX3_mostUrgent_87 : decode cX3_mostUrgent 87 = .ok (.invokevirtual 103, 3) := by decide +kernel
theorem dX3_mostUrgent_90 : decode cX3_mostUrgent 90 = .ok (.ireturn, 1) := by decide +kernel
set_option maxRecDepth 20000 in
theorem ggX3_buy_X3_isSite : GoodIn wsX3_buy wsX3_isSite := goodIn_r _ [6, 7, 8, 5, 9] (by decide +kernel) (by decide +kernel)
set_option maxRecDepth 20000 in
theorem gX3_buy_X3_isSite : GoodIn wsX3_buy (va_wsS RX3 76 yX3_isSite wsX3_isSite) := goodIn_app (goodIn_of _ (by decide +kernel)) ggX3_buy_X3_isSite
set_option maxRecDepth 20000 in
theorem ggX3_buy_X3_in : GoodIn wsX3_buy wsX3_in := goodIn_r _ [9] (by decide +kernel) (by decide +kernel)
set_option maxRecDepth 20000 in
theorem gX3_buy_X3_in : GoodIn wsX3_buy (va_wsS RX3 69 yX3_in wsX3_in) := goodIn_app (goodIn_of _ (by decide +kernel)) ggX3_buy_X3_in
set_option maxRecDepth 20000 in
theorem ggX3_buy_X3_asked_ : GoodIn wsX3_buy wsX3_asked_ := goodIn_r _ [13, 14, 15, 16, 17, 18, 19, 20, 21, 22, 23, 24, 25, 26, 27, 28, 29, 30, 31, 32, 33, 34, 35] (by decide +kernel) (by decide +kernel)
set_option maxRecDepth 20000 in
theorem gX3_buy_X3_asked_ : GoodIn wsX3_buy (wsV RX3 80 RX3 yX3_asked_ wsX3_asked_) := goodIn_app (goodIn_of _ (by decide +kernel)) ggX3_buy_X3_asked_
theorem dX3_buy_0 : decode cX3_buy 0 = .ok (.aload_n 0, 1) := by decide +kernel
theorem dX3_buy_1 : decode cX3_buy 1 = .ok (.iload_n 1, 1) := by decide +kernel
theorem dX3_buy_2 : decode cX3_buy 2 = .ok (.invokestatic 76, 3) := by decide +kernel
theorem dX3_buy_5 : decode cX3_buy 5 = .ok (.iload_n 2, 1) := by decide +kernel
theorem dX3_buy_6 : decode cX3_buy 6 = .ok (.iconst 1, 1) := by decide +kernel
theorem dX3_buy_7 : decode cX3_buy 7 = .ok (.bipush 100, 2) := by decide +kernel
theorem dX3_buy_9 : decode cX3_buy 9 = .ok (.invokestatic 69, 3) := by decide +kernel
theorem dX3_buy_12 : decode cX3_buy 12 = .ok (.invokevirtual 80, 3) := by decide +kernel
theorem dX3_buy_15 : decode cX3_buy 15 = .ok (.ifCond .ne 5, 3) := by decide +kernel
theorem dX3_buy_18 : decode cX3_buy 18 = .ok (.iconst 0, 1) := by decide +kernel
theorem dX3_buy_19 : decode cX3_buy 19 = .ok (.ireturn, 1) := by decide +kernel
theorem dX3_buy_20 : decode cX3_buy 20 = .ok (.aload_n 0, 1) := by decide +kernel
theorem dX3_buy_21 : decode cX3_buy 21 = .ok (.getfield 59, 3) := by decide +kernel
theorem dX3_buy_24 : decode cX3_buy 24 = .ok (.iload_n 1, 1) := by decide +kernel
theorem dX3_buy_25 : decode cX3_buy 25 = .ok (.dup2, 1) := by decide +kernel
theorem dX3_buy_26 : decode cX3_buy 26 = .ok (.iaload, 1) := by decide +kernel
theorem dX3_buy_27 : decode cX3_buy 27 = .ok (.iload_n 2, 1) := by decide +kernel
theorem dX3_buy_28 : decode cX3_buy 28 = .ok (.iadd, 1) := by decide +kernel
theorem dX3_buy_29 : decode cX3_buy 29 = .ok (.iastore, 1) := by decide +kernel
theorem dX3_buy_30 : decode cX3_buy 30 = .ok (.aload_n 0, 1) := by decide +kernel
theorem dX3_buy_31 : decode cX3_buy 31 = .ok (.getfield 62, 3) := by decide +kernel
theorem dX3_buy_34 : decode cX3_buy 34 = .ok (.iload_n 1, 1) := by decide +kernel
theorem dX3_buy_35 : decode cX3_buy 35 = .ok (.dup2, 1) := by decide +kernel
theorem dX3_buy_36 : decode cX3_buy 36 = .ok (.iaload, 1) := by decide +kernel
theorem dX3_buy_37 : decode cX3_buy 37 = .ok (.sipush 7000, 3) := by decide +kernel
theorem dX3_buy_40 : decode cX3_buy 40 = .ok (.iload_n 2, 1) := by decide +kernel
theorem dX3_buy_41 : decode cX3_buy 41 = .ok (.imul, 1) := by decide +kernel
theorem dX3_buy_42 : decode cX3_buy 42 = .ok (.iadd, 1) := by decide +kernel
theorem dX3_buy_43 : decode cX3_buy 43 = .ok (.iastore, 1) := by decide +kernel
theorem dX3_buy_44 : decode cX3_buy 44 = .ok (.aload_n 0, 1) := by decide +kernel
theorem dX3_buy_45 : decode cX3_buy 45 = .ok (.getfield 59, 3) := by decide +kernel
theorem dX3_buy_48 : decode cX3_buy 48 = .ok (.iload_n 1, 1) := by decide +kernel
theorem dX3_buy_49 : decode cX3_buy 49 = .ok (.iaload, 1) := by decide +kernel
theorem dX3_buy_50 : decode cX3_buy 50 = .ok (.ireturn, 1) := by decide +kernel
set_option maxRecDepth 20000 in
theorem ggX3_work_X3_isCase : GoodIn wsX3_work wsX3_isCase := goodIn_r _ [11, 12, 13, 14, 10, 15, 29, 30, 31, 32, 33, 34, 35, 36, 37, 38, 39, 40, 41, 42, 43, 44, 45, 46, 47, 48, 49] (by decide +kernel) (by decide +kernel)
set_option maxRecDepth 20000 in
theorem gX3_work_X3_isCase : GoodIn wsX3_work (wsV RX3 114 RX3 yX3_isCase wsX3_isCase) := goodIn_app (goodIn_of _ (by decide +kernel)) ggX3_work_X3_isCase
set_option maxRecDepth 20000 in
theorem ggX3_work_X3_in : GoodIn wsX3_work wsX3_in := goodIn_r _ [15] (by decide +kernel) (by decide +kernel)
set_option maxRecDepth 20000 in
theorem gX3_work_X3_in : GoodIn wsX3_work (va_wsS RX3 69 yX3_in wsX3_in) := goodIn_app (goodIn_of _ (by decide +kernel)) ggX3_work_X3_in
set_option maxRecDepth 20000 in
theorem ggX3_work_X3_asked__ : GoodIn wsX3_work wsX3_asked__ := goodIn_r _ [19, 20, 29, 30, 31, 32, 33, 34, 35, 36, 37, 38, 39, 40, 41, 42, 43, 44, 45, 46, 47, 48, 49] (by decide +kernel) (by decide +kernel)
set_option maxRecDepth 20000 in
theorem gX3_work_X3_asked__ : GoodIn wsX3_work (wsV RX3 84 RX3 yX3_asked__ wsX3_asked__) := goodIn_app (goodIn_of _ (by decide +kernel)) ggX3_work_X3_asked__
set_option maxRecDepth 20000 in
theorem ggX3_work_X3_covered : GoodIn wsX3_work wsX3_covered := goodIn_r _ [24, 25, 26, 27, 28, 13, 14, 10, 15, 29, 30, 31, 32, 33, 34, 35, 36, 37, 38, 39, 40, 41, 42, 43, 44, 45, 46, 47, 48, 49] (by decide +kernel) (by decide +kernel)
set_option maxRecDepth 20000 in
theorem gX3_work_X3_covered : GoodIn wsX3_work (wsV RX3 93 RX3 yX3_covered wsX3_covered) := goodIn_app (goodIn_of _ (by decide +kernel)) ggX3_work_X3_covered
theorem dX3_work_0 : decode cX3_work 0 = .ok (.aload_n 0, 1) := by decide +kernel
theorem dX3_work_1 : decode cX3_work 1 = .ok (.iload_n 1, 1) := by decide +kernel
theorem dX3_work_2 : decode cX3_work 2 = .ok (.invokevirtual 114, 3) := by decide +kernel
theorem dX3_work_5 : decode cX3_work 5 = .ok (.istore_n 3, 1) := by decide +kernel
theorem dX3_work_6 : decode cX3_work 6 = .ok (.aload_n 0, 1) := by decide +kernel
theorem dX3_work_7 : decode cX3_work 7 = .ok (.iload_n 3, 1) := by decide +kernel
theorem dX3_work_8 : decode cX3_work 8 = .ok (.iload_n 2, 1) := by decide +kernel
theorem dX3_work_9 : decode cX3_work 9 = .ok (.iconst 1, 1) := by decide +kernel
theorem dX3_work_10 : decode cX3_work 10 = .ok (.bipush 100, 2) := by decide +kernel
theorem dX3_work_12 : decode cX3_work 12 = .ok (.invokestatic 69, 3) := by decide +kernel
theorem dX3_work_15 : decode cX3_work 15 = .ok (.iload_n 3, 1) := by decide +kernel
theorem dX3_work_16 : decode cX3_work 16 = .ok (.ifCond .eq 16, 3) := by decide +kernel
theorem dX3_work_19 : decode cX3_work 19 = .ok (.aload_n 0, 1) := by decide +kernel
theorem dX3_work_20 : decode cX3_work 20 = .ok (.getfield 43, 3) := by decide +kernel
theorem dX3_work_23 : decode cX3_work 23 = .ok (.iload_n 1, 1) := by decide +kernel
theorem dX3_work_24 : decode cX3_work 24 = .ok (.iaload, 1) := by decide +kernel
theorem dX3_work_25 : decode cX3_work 25 = .ok (.ifCond .ne 7, 3) := by decide +kernel
theorem dX3_work_28 : decode cX3_work 28 = .ok (.iconst 1, 1) := by decide +kernel
theorem dX3_work_29 : decode cX3_work 29 = .ok (.goto 4, 3) := by decide +kernel
theorem dX3_work_32 : decode cX3_work 32 = .ok (.iconst 0, 1) := by decide +kernel
theorem dX3_work_33 : decode cX3_work 33 = .ok (.invokevirtual 84, 3) := by decide +kernel
theorem dX3_work_36 : decode cX3_work 36 = .ok (.ifCond .ne 5, 3) := by decide +kernel
theorem dX3_work_39 : decode cX3_work 39 = .ok (.iconst 0, 1) := by decide +kernel
theorem dX3_work_40 : decode cX3_work 40 = .ok (.ireturn, 1) := by decide +kernel
theorem dX3_work_41 : decode cX3_work 41 = .ok (.aload_n 0, 1) := by decide +kernel
theorem dX3_work_42 : decode cX3_work 42 = .ok (.getfield 34, 3) := by decide +kernel
theorem dX3_work_45 : decode cX3_work 45 = .ok (.iload_n 1, 1) := by decide +kernel
theorem dX3_work_46 : decode cX3_work 46 = .ok (.iaload, 1) := by decide +kernel
theorem dX3_work_47 : decode cX3_work 47 = .ok (.istore 4, 2) := by decide +kernel
theorem dX3_work_49 : decode cX3_work 49 = .ok (.aload_n 0, 1) := by decide +kernel
theorem dX3_work_50 : decode cX3_work 50 = .ok (.iload 4, 2) := by decide +kernel
theorem dX3_work_52 : decode cX3_work 52 = .ok (.aload_n 0, 1) := by decide +kernel
theorem dX3_work_53 : decode cX3_work 53 = .ok (.getfield 37, 3) := by decide +kernel
theorem dX3_work_56 : decode cX3_work 56 = .ok (.iload_n 1, 1) := by decide +kernel
theorem dX3_work_57 : decode cX3_work 57 = .ok (.iaload, 1) := by decide +kernel
theorem dX3_work_58 : decode cX3_work 58 = .ok (.aload_n 0, 1) := by decide +kernel
theorem dX3_work_59 : decode cX3_work 59 = .ok (.getfield 96, 3) := by decide +kernel
theorem dX3_work_62 : decode cX3_work 62 = .ok (.bipush 24, 2) := by decide +kernel
theorem dX3_work_64 : decode cX3_work 64 = .ok (.idiv, 1) := by decide +kernel
theorem dX3_work_65 : decode cX3_work 65 = .ok (.invokevirtual 93, 3) := by decide +kernel
theorem dX3_work_68 : decode cX3_work 68 = .ok (.ifCond .eq 5, 3) := by decide +kernel
theorem dX3_work_71 : decode cX3_work 71 = .ok (.iconst 0, 1) := by decide +kernel
theorem dX3_work_72 : decode cX3_work 72 = .ok (.ireturn, 1) := by decide +kernel
theorem dX3_work_73 : decode cX3_work 73 = .ok (.aload_n 0, 1) := by decide +kernel
theorem dX3_work_74 : decode cX3_work 74 = .ok (.getfield 59, 3) := by decide +kernel
theorem dX3_work_77 : decode cX3_work 77 = .ok (.iload 4, 2) := by decide +kernel
theorem dX3_work_79 : decode cX3_work 79 = .ok (.iaload, 1) := by decide +kernel
theorem dX3_work_80 : decode cX3_work 80 = .ok (.iload_n 2, 1) := by decide +kernel
theorem dX3_work_81 : decode cX3_work 81 = .ok (.if_icmp .ge 13, 3) := by decide +kernel
theorem dX3_work_84 : decode cX3_work 84 = .ok (.aload_n 0, 1) := by decide +kernel
theorem dX3_work_85 : decode cX3_work 85 = .ok (.getfield 59, 3) := by decide +kernel
theorem dX3_work_88 : decode cX3_work 88 = .ok (.iload 4, 2) := by decide +kernel
theorem dX3_work_90 : decode cX3_work 90 = .ok (.iaload, 1) := by decide +kernel
theorem dX3_work_91 : decode cX3_work 91 = .ok (.goto 4, 3) := by decide +kernel
theorem dX3_work_94 : decode cX3_work 94 = .ok (.iload_n 2, 1) := by decide +kernel
theorem dX3_work_95 : decode cX3_work 95 = .ok (.istore 5, 2) := by decide +kernel
theorem dX3_work_97 : decode cX3_work 97 = .ok (.aload_n 0, 1) := by decide +kernel
theorem dX3_work_98 : decode cX3_work 98 = .ok (.getfield 59, 3) := by decide +kernel
theorem dX3_work_101 : decode cX3_work 101 = .ok (.iload 4, 2) := by decide +kernel
theorem dX3_work_103 : decode cX3_work 103 = .ok (.dup2, 1) := by decide +kernel
theorem dX3_work_104 : decode cX3_work 104 = .ok (.iaload, 1) := by decide +kernel
theorem dX3_work_105 : decode cX3_work 105 = .ok (.iload 5, 2) := by decide +kernel
theorem dX3_work_107 : decode cX3_work 107 = .ok (.isub, 1) := by decide +kernel
theorem dX3_work_108 : decode cX3_work 108 = .ok (.iastore, 1) := by decide +kernel
theorem dX3_work_109 : decode cX3_work 109 = .ok (.aload_n 0, 1) := by decide +kernel
theorem dX3_work_110 : decode cX3_work 110 = .ok (.getfield 62, 3) := by decide +kernel
theorem dX3_work_113 : decode cX3_work 113 = .ok (.iload 4, 2) := by decide +kernel
theorem dX3_work_115 : decode cX3_work 115 = .ok (.dup2, 1) := by decide +kernel
theorem dX3_work_116 : decode cX3_work 116 = .ok (.iaload, 1) := by decide +kernel
theorem dX3_work_117 : decode cX3_work 117 = .ok (.sipush 9000, 3) := by decide +kernel
theorem dX3_work_120 : decode cX3_work 120 = .ok (.iload_n 2, 1) := by decide +kernel
theorem dX3_work_121 : decode cX3_work 121 = .ok (.iload 5, 2) := by decide +kernel
theorem dX3_work_123 : decode cX3_work 123 = .ok (.isub, 1) := by decide +kernel
theorem dX3_work_124 : decode cX3_work 124 = .ok (.imul, 1) := by decide +kernel
theorem dX3_work_125 : decode cX3_work 125 = .ok (.iadd, 1) := by decide +kernel
theorem dX3_work_126 : decode cX3_work 126 = .ok (.iastore, 1) := by decide +kernel
theorem dX3_work_127 : decode cX3_work 127 = .ok (.sipush 9000, 3) := by decide +kernel
theorem dX3_work_130 : decode cX3_work 130 = .ok (.iload_n 2, 1) := by decide +kernel
theorem dX3_work_131 : decode cX3_work 131 = .ok (.iload 5, 2) := by decide +kernel
theorem dX3_work_133 : decode cX3_work 133 = .ok (.isub, 1) := by decide +kernel
theorem dX3_work_134 : decode cX3_work 134 = .ok (.imul, 1) := by decide +kernel
theorem dX3_work_135 : decode cX3_work 135 = .ok (.ireturn, 1) := by decide +kernel
set_option maxRecDepth 20000 in
theorem ggX3_ahead_X3_isSite : GoodIn wsX3_ahead wsX3_isSite := goodIn_r _ [5, 6, 7, 4, 8] (by decide +kernel) (by decide +kernel)
set_option maxRecDepth 20000 in
theorem gX3_ahead_X3_isSite : GoodIn wsX3_ahead (va_wsS RX3 76 yX3_isSite wsX3_isSite) := goodIn_app (goodIn_of _ (by decide +kernel)) ggX3_ahead_X3_isSite
set_option maxRecDepth 20000 in
theorem ggX3_ahead_X3_asked : GoodIn wsX3_ahead wsX3_asked := goodIn_r _ [12, 13, 14, 15, 16, 17, 18, 19, 20, 21, 22, 23, 24, 25, 26, 27, 28, 29, 30, 31, 32, 33, 34] (by decide +kernel) (by decide +kernel)
set_option maxRecDepth 20000 in
theorem gX3_ahead_X3_asked : GoodIn wsX3_ahead (wsV RX3 87 RX3 yX3_asked wsX3_asked) := goodIn_app (goodIn_of _ (by decide +kernel)) ggX3_ahead_X3_asked
theorem dX3_ahead_0 : decode cX3_ahead 0 = .ok (.aload_n 0, 1) := by decide +kernel
theorem dX3_ahead_1 : decode cX3_ahead 1 = .ok (.iload_n 1, 1) := by decide +kernel
theorem dX3_ahead_2 : decode cX3_ahead 2 = .ok (.invokestatic 76, 3) := by decide +kernel
theorem dX3_ahead_5 : decode cX3_ahead 5 = .ok (.invokevirtual 87, 3) := by decide +kernel
theorem dX3_ahead_8 : decode cX3_ahead 8 = .ok (.ifCond .eq 12, 3) := by decide +kernel
theorem dX3_ahead_11 : decode cX3_ahead 11 = .ok (.aload_n 0, 1) := by decide +kernel
theorem dX3_ahead_12 : decode cX3_ahead 12 = .ok (.getfield 59, 3) := by decide +kernel
theorem dX3_ahead_15 : decode cX3_ahead 15 = .ok (.iload_n 1, 1) := by decide +kernel
theorem dX3_ahead_16 : decode cX3_ahead 16 = .ok (.iaload, 1) := by decide +kernel
theorem dX3_ahead_17 : decode cX3_ahead 17 = .ok (.goto 4, 3) := by decide +kernel
theorem dX3_ahead_20 : decode cX3_ahead 20 = .ok (.iconst 0, 1) := by decide +kernel
theorem dX3_ahead_21 : decode cX3_ahead 21 = .ok (.ireturn, 1) := by decide +kernel
set_option maxRecDepth 20000 in
theorem ggX3_owes_X3_isSite : GoodIn wsX3_owes wsX3_isSite := goodIn_r _ [5, 6, 7, 4, 8] (by decide +kernel) (by decide +kernel)
set_option maxRecDepth 20000 in
theorem gX3_owes_X3_isSite : GoodIn wsX3_owes (va_wsS RX3 76 yX3_isSite wsX3_isSite) := goodIn_app (goodIn_of _ (by decide +kernel)) ggX3_owes_X3_isSite
set_option maxRecDepth 20000 in
theorem ggX3_owes_X3_asked : GoodIn wsX3_owes wsX3_asked := goodIn_r _ [12, 13, 14, 15, 16, 17, 18, 19, 20, 21, 22, 23, 24, 25, 26, 27, 28, 29, 30, 31, 32, 33, 34] (by decide +kernel) (by decide +kernel)
set_option maxRecDepth 20000 in
theorem gX3_owes_X3_asked : GoodIn wsX3_owes (wsV RX3 87 RX3 yX3_asked wsX3_asked) := goodIn_app (goodIn_of _ (by decide +kernel)) ggX3_owes_X3_asked
theorem dX3_owes_0 : decode cX3_owes 0 = .ok (.aload_n 0, 1) := by decide +kernel
theorem dX3_owes_1 : decode cX3_owes 1 = .ok (.iload_n 1, 1) := by decide +kernel
theorem dX3_owes_2 : decode cX3_owes 2 = .ok (.invokestatic 76, 3) := by decide +kernel
theorem dX3_owes_5 : decode cX3_owes 5 = .ok (.invokevirtual 87, 3) := by decide +kernel
theorem dX3_owes_8 : decode cX3_owes 8 = .ok (.ifCond .eq 12, 3) := by decide +kernel
theorem dX3_owes_11 : decode cX3_owes 11 = .ok (.aload_n 0, 1) := by decide +kernel
theorem dX3_owes_12 : decode cX3_owes 12 = .ok (.getfield 62, 3) := by decide +kernel
theorem dX3_owes_15 : decode cX3_owes 15 = .ok (.iload_n 1, 1) := by decide +kernel
theorem dX3_owes_16 : decode cX3_owes 16 = .ok (.iaload, 1) := by decide +kernel
theorem dX3_owes_17 : decode cX3_owes 17 = .ok (.goto 4, 3) := by decide +kernel
theorem dX3_owes_20 : decode cX3_owes 20 = .ok (.iconst 0, 1) := by decide +kernel
theorem dX3_owes_21 : decode cX3_owes 21 = .ok (.ireturn, 1) := by decide +kernel
theorem dJ6_bitCount_0f7a4_0 : decode cJ6_bitCount_0f7a4 0 = .ok (.iload_n 0, 1) := by decide +kernel
theorem dJ6_bitCount_0f7a4_1 : decode cJ6_bitCount_0f7a4 1 = .ok (.iload_n 0, 1) := by decide +kernel
theorem dJ6_bitCount_0f7a4_2 : decode cJ6_bitCount_0f7a4 2 = .ok (.iconst 1, 1) := by decide +kernel
theorem dJ6_bitCount_0f7a4_3 : decode cJ6_bitCount_0f7a4 3 = .ok (.iushr, 1) := by decide +kernel
theorem dJ6_bitCount_0f7a4_4 : decode cJ6_bitCount_0f7a4 4 = .ok (.ldc_w 265, 3) := by decide +kernel
theorem dJ6_bitCount_0f7a4_7 : decode cJ6_bitCount_0f7a4 7 = .ok (.iand, 1) := by decide +kernel
theorem dJ6_bitCount_0f7a4_8 : decode cJ6_bitCount_0f7a4 8 = .ok (.isub, 1) := by decide +kernel
theorem dJ6_bitCount_0f7a4_9 : decode cJ6_bitCount_0f7a4 9 = .ok (.istore_n 0, 1) := by decide +kernel
theorem dJ6_bitCount_0f7a4_10 : decode cJ6_bitCount_0f7a4 10 = .ok (.iload_n 0, 1) := by decide +kernel
theorem dJ6_bitCount_0f7a4_11 : decode cJ6_bitCount_0f7a4 11 = .ok (.ldc_w 266, 3) := by decide +kernel
theorem dJ6_bitCount_0f7a4_14 : decode cJ6_bitCount_0f7a4 14 = .ok (.iand, 1) := by decide +kernel
theorem dJ6_bitCount_0f7a4_15 : decode cJ6_bitCount_0f7a4 15 = .ok (.iload_n 0, 1) := by decide +kernel
theorem dJ6_bitCount_0f7a4_16 : decode cJ6_bitCount_0f7a4 16 = .ok (.iconst 2, 1) := by decide +kernel
theorem dJ6_bitCount_0f7a4_17 : decode cJ6_bitCount_0f7a4 17 = .ok (.iushr, 1) := by decide +kernel
theorem dJ6_bitCount_0f7a4_18 : decode cJ6_bitCount_0f7a4 18 = .ok (.ldc_w 266, 3) := by decide +kernel
theorem dJ6_bitCount_0f7a4_21 : decode cJ6_bitCount_0f7a4 21 = .ok (.iand, 1) := by decide +kernel
theorem dJ6_bitCount_0f7a4_22 : decode cJ6_bitCount_0f7a4 22 = .ok (.iadd, 1) := by decide +kernel
theorem dJ6_bitCount_0f7a4_23 : decode cJ6_bitCount_0f7a4 23 = .ok (.istore_n 0, 1) := by decide +kernel
theorem dJ6_bitCount_0f7a4_24 : decode cJ6_bitCount_0f7a4 24 = .ok (.iload_n 0, 1) := by decide +kernel
theorem dJ6_bitCount_0f7a4_25 : decode cJ6_bitCount_0f7a4 25 = .ok (.iload_n 0, 1) := by decide +kernel
theorem dJ6_bitCount_0f7a4_26 : decode cJ6_bitCount_0f7a4 26 = .ok (.iconst 4, 1) := by decide +kernel
theorem dJ6_bitCount_0f7a4_27 : decode cJ6_bitCount_0f7a4 27 = .ok (.iushr, 1) := by decide +kernel
theorem dJ6_bitCount_0f7a4_28 : decode cJ6_bitCount_0f7a4 28 = .ok (.iadd, 1) := by decide +kernel
theorem dJ6_bitCount_0f7a4_29 : decode cJ6_bitCount_0f7a4 29 = .ok (.ldc_w 267, 3) := by decide +kernel
theorem dJ6_bitCount_0f7a4_32 : decode cJ6_bitCount_0f7a4 32 = .ok (.iand, 1) := by decide +kernel
theorem dJ6_bitCount_0f7a4_33 : decode cJ6_bitCount_0f7a4 33 = .ok (.istore_n 0, 1) := by decide +kernel
theorem dJ6_bitCount_0f7a4_34 : decode cJ6_bitCount_0f7a4 34 = .ok (.iload_n 0, 1) := by decide +kernel
theorem dJ6_bitCount_0f7a4_35 : decode cJ6_bitCount_0f7a4 35 = .ok (.iload_n 0, 1) := by decide +kernel
theorem dJ6_bitCount_0f7a4_36 : decode cJ6_bitCount_0f7a4 36 = .ok (.bipush 8, 2) := by decide +kernel
theorem dJ6_bitCount_0f7a4_38 : decode cJ6_bitCount_0f7a4 38 = .ok (.iushr, 1) := by decide +kernel
theorem dJ6_bitCount_0f7a4_39 : decode cJ6_bitCount_0f7a4 39 = .ok (.iadd, 1) := by decide +kernel
theorem dJ6_bitCount_0f7a4_40 : decode cJ6_bitCount_0f7a4 40 = .ok (.istore_n 0, 1) := by decide +kernel
theorem dJ6_bitCount_0f7a4_41 : decode cJ6_bitCount_0f7a4 41 = .ok (.iload_n 0, 1) := by decide +kernel
theorem dJ6_bitCount_0f7a4_42 : decode cJ6_bitCount_0f7a4 42 = .ok (.iload_n 0, 1) := by decide +kernel
theorem dJ6_bitCount_0f7a4_43 : decode cJ6_bitCount_0f7a4 43 = .ok (.bipush 16, 2) := by decide +kernel
theorem dJ6_bitCount_0f7a4_45 : decode cJ6_bitCount_0f7a4 45 = .ok (.iushr, 1) := by decide +kernel
theorem dJ6_bitCount_0f7a4_46 : decode cJ6_bitCount_0f7a4 46 = .ok (.iadd, 1) := by decide +kernel
theorem dJ6_bitCount_0f7a4_47 : decode cJ6_bitCount_0f7a4 47 = .ok (.istore_n 0, 1) := by decide +kernel
theorem dJ6_bitCount_0f7a4_48 : decode cJ6_bitCount_0f7a4 48 = .ok (.iload_n 0, 1) := by decide +kernel
theorem dJ6_bitCount_0f7a4_49 : decode cJ6_bitCount_0f7a4 49 = .ok (.bipush 63, 2) := by decide +kernel
theorem dJ6_bitCount_0f7a4_51 : decode cJ6_bitCount_0f7a4 51 = .ok (.iand, 1) := by decide +kernel
theorem dJ6_bitCount_0f7a4_52 : decode cJ6_bitCount_0f7a4 52 = .ok (.ireturn, 1) := by decide +kernel
theorem dJ9_max_7cf53_0 : decode cJ9_max_7cf53 0 = .ok (.iload_n 0, 1) := by decide +kernel
theorem dJ9_max_7cf53_1 : decode cJ9_max_7cf53 1 = .ok (.iload_n 1, 1) := by decide +kernel
theorem dJ9_max_7cf53_2 : decode cJ9_max_7cf53 2 = .ok (.if_icmp .lt 7, 3) := by decide +kernel
theorem dJ9_max_7cf53_5 : decode cJ9_max_7cf53 5 = .ok (.iload_n 0, 1) := by decide +kernel
theorem dJ9_max_7cf53_6 : decode cJ9_max_7cf53 6 = .ok (.goto 4, 3) := by decide +kernel
theorem dJ9_max_7cf53_9 : decode cJ9_max_7cf53 9 = .ok (.iload_n 1, 1) := by decide +kernel
theorem dJ9_max_7cf53_10 : decode cJ9_max_7cf53 10 = .ok (.ireturn, 1) := by decide +kernel
theorem dJ9_min_7cf53_0 : decode cJ9_min_7cf53 0 = .ok (.iload_n 0, 1) := by decide +kernel
theorem dJ9_min_7cf53_1 : decode cJ9_min_7cf53 1 = .ok (.iload_n 1, 1) := by decide +kernel
theorem dJ9_min_7cf53_2 : decode cJ9_min_7cf53 2 = .ok (.if_icmp .gt 7, 3) := by decide +kernel
theorem dJ9_min_7cf53_5 : decode cJ9_min_7cf53 5 = .ok (.iload_n 0, 1) := by decide +kernel
theorem dJ9_min_7cf53_6 : decode cJ9_min_7cf53 6 = .ok (.goto 4, 3) := by decide +kernel
theorem dJ9_min_7cf53_9 : decode cJ9_min_7cf53 9 = .ok (.iload_n 1, 1) := by decide +kernel
theorem dJ9_min_7cf53_10 : decode cJ9_min_7cf53 10 = .ok (.ireturn, 1) := by decide +kernel
end
section
set_option maxRecDepth 20000 in
theorem ggL_setCalendar_X2_setCalendar : GoodIn wsL_setCalendar wsX2_setCalendar := goodIn_ca (goodIn_ca (goodIn_r _ [7, 8, 9, 10, 11, 12, 13, 6, 14, 15, 16, 17, 18, 19, 20, 21, 22, 23, 24, 25, 26, 27, 28, 29, 30, 31, 32, 33, 34, 35, 36, 37, 38, 39] (by decide +kernel) (by decide +kernel)) (goodIn_sub (fun _ h => List.mem_cons_of_mem _ (List.mem_append_left _ (List.mem_append_right _ h))) (by decide +kernel))) (goodIn_sub (fun _ h => List.mem_cons_of_mem _ (List.mem_append_right _ h)) (by decide +kernel))
set_option maxRecDepth 20000 in
theorem gL_setCalendar_X2_setCalendar : GoodIn wsL_setCalendar (wsV RL 7 RX2 yX2_setCalendar wsX2_setCalendar) := goodIn_app (goodIn_of _ (by decide +kernel)) ggL_setCalendar_X2_setCalendar
theorem dL_setCalendar_0 : decode cL_setCalendar 0 = .ok (.aload 5, 2) := by decide +kernel
theorem dL_setCalendar_2 : decode cL_setCalendar 2 = .ok (.iconst 0, 1) := by decide +kernel
theorem dL_setCalendar_3 : decode cL_setCalendar 3 = .ok (.aload_n 0, 1) := by decide +kernel
theorem dL_setCalendar_4 : decode cL_setCalendar 4 = .ok (.iload_n 1, 1) := by decide +kernel
theorem dL_setCalendar_5 : decode cL_setCalendar 5 = .ok (.iload_n 2, 1) := by decide +kernel
theorem dL_setCalendar_6 : decode cL_setCalendar 6 = .ok (.iload_n 3, 1) := by decide +kernel
theorem dL_setCalendar_7 : decode cL_setCalendar 7 = .ok (.iload 4, 2) := by decide +kernel
theorem dL_setCalendar_9 : decode cL_setCalendar 9 = .ok (.invokevirtual 7, 3) := by decide +kernel
theorem dL_setCalendar_12 : decode cL_setCalendar 12 = .ok (.i2l, 1) := by decide +kernel
theorem dL_setCalendar_13 : decode cL_setCalendar 13 = .ok (.lastore, 1) := by decide +kernel
theorem dL_setCalendar_14 : decode cL_setCalendar 14 = .ok (.goto 11, 3) := by decide +kernel
theorem dL_setCalendar_17 : decode cL_setCalendar 17 = .ok (.astore 6, 2) := by decide +kernel
theorem dL_setCalendar_19 : decode cL_setCalendar 19 = .ok (.iconst 1, 1) := by decide +kernel
theorem dL_setCalendar_20 : decode cL_setCalendar 20 = .ok (.ireturn, 1) := by decide +kernel
theorem dL_setCalendar_21 : decode cL_setCalendar 21 = .ok (.astore 6, 2) := by decide +kernel
theorem dL_setCalendar_23 : decode cL_setCalendar 23 = .ok (.iconst 2, 1) := by decide +kernel
theorem dL_setCalendar_24 : decode cL_setCalendar 24 = .ok (.ireturn, 1) := by decide +kernel
theorem dL_setCalendar_25 : decode cL_setCalendar 25 = .ok (.iconst 0, 1) := by decide +kernel
theorem dL_setCalendar_26 : decode cL_setCalendar 26 = .ok (.ireturn, 1) := by decide +kernel
set_option maxRecDepth 20000 in
theorem ggL_addContract_X2_addContract : GoodIn wsL_addContract wsX2_addContract := goodIn_ca (goodIn_ca (goodIn_ca (goodIn_r _ [8, 9, 10, 11, 12, 7, 13, 14, 15, 16, 17, 18, 19, 20, 21, 22, 23, 24, 25, 26, 27, 28, 29, 30, 31, 32, 33, 34, 35, 36, 37, 38, 39, 40, 41, 42, 43, 44, 45, 46, 47, 48, 49, 50, 51, 52] (by decide +kernel) (by decide +kernel)) (goodIn_sub (fun _ h => List.mem_cons_of_mem _ (List.mem_append_left _ (List.mem_append_left _ (List.mem_append_right _ h)))) (by decide +kernel))) (goodIn_sub (fun _ h => List.mem_cons_of_mem _ (List.mem_append_left _ (List.mem_append_right _ h))) (by decide +kernel))) (goodIn_sub (fun _ h => List.mem_cons_of_mem _ (List.mem_append_right _ h)) (by decide +kernel))
set_option maxRecDepth 20000 in
theorem gL_addContract_X2_addContract : GoodIn wsL_addContract (wsV RL 17 RX2 yX2_addContract wsX2_addContract) := goodIn_app (goodIn_of _ (by decide +kernel)) ggL_addContract_X2_addContract
theorem dL_addContract_0 : decode cL_addContract 0 = .ok (.aload 5, 2) := by decide +kernel
theorem dL_addContract_2 : decode cL_addContract 2 = .ok (.iconst 0, 1) := by decide +kernel
theorem dL_addContract_3 : decode cL_addContract 3 = .ok (.aload_n 0, 1) := by decide +kernel
theorem dL_addContract_4 : decode cL_addContract 4 = .ok (.iload_n 1, 1) := by decide +kernel
theorem dL_addContract_5 : decode cL_addContract 5 = .ok (.iload_n 2, 1) := by decide +kernel
theorem dL_addContract_6 : decode cL_addContract 6 = .ok (.iload_n 3, 1) := by decide +kernel
theorem dL_addContract_7 : decode cL_addContract 7 = .ok (.iload 4, 2) := by decide +kernel
theorem dL_addContract_9 : decode cL_addContract 9 = .ok (.invokevirtual 17, 3) := by decide +kernel
theorem dL_addContract_12 : decode cL_addContract 12 = .ok (.i2l, 1) := by decide +kernel
theorem dL_addContract_13 : decode cL_addContract 13 = .ok (.lastore, 1) := by decide +kernel
theorem dL_addContract_14 : decode cL_addContract 14 = .ok (.goto 15, 3) := by decide +kernel
theorem dL_addContract_17 : decode cL_addContract 17 = .ok (.astore 6, 2) := by decide +kernel
theorem dL_addContract_19 : decode cL_addContract 19 = .ok (.iconst 1, 1) := by decide +kernel
theorem dL_addContract_20 : decode cL_addContract 20 = .ok (.ireturn, 1) := by decide +kernel
theorem dL_addContract_21 : decode cL_addContract 21 = .ok (.astore 6, 2) := by decide +kernel
theorem dL_addContract_23 : decode cL_addContract 23 = .ok (.iconst 2, 1) := by decide +kernel
theorem dL_addContract_24 : decode cL_addContract 24 = .ok (.ireturn, 1) := by decide +kernel
theorem dL_addContract_25 : decode cL_addContract 25 = .ok (.astore 6, 2) := by decide +kernel
theorem dL_addContract_27 : decode cL_addContract 27 = .ok (.iconst 3, 1) := by decide +kernel
theorem dL_addContract_28 : decode cL_addContract 28 = .ok (.ireturn, 1) := by decide +kernel
theorem dL_addContract_29 : decode cL_addContract 29 = .ok (.iconst 0, 1) := by decide +kernel
theorem dL_addContract_30 : decode cL_addContract 30 = .ok (.ireturn, 1) := by decide +kernel
set_option maxRecDepth 20000 in
theorem ggL_setPromise_X2_setPromise : GoodIn wsL_setPromise wsX2_setPromise := goodIn_ca (goodIn_r _ [6, 7, 8, 9, 5, 10, 11, 12, 13, 14, 15, 16, 17, 18, 19, 20] (by decide +kernel) (by decide +kernel)) (goodIn_sub (fun _ h => List.mem_cons_of_mem _ (List.mem_append_right _ h)) (by decide +kernel))
set_option maxRecDepth 20000 in
theorem gL_setPromise_X2_setPromise : GoodIn wsL_setPromise (wsV RL 22 RX2 yX2_setPromise wsX2_setPromise) := goodIn_app (goodIn_of _ (by decide +kernel)) ggL_setPromise_X2_setPromise
theorem dL_setPromise_0 : decode cL_setPromise 0 = .ok (.aload 4, 2) := by decide +kernel
theorem dL_setPromise_2 : decode cL_setPromise 2 = .ok (.iconst 0, 1) := by decide +kernel
theorem dL_setPromise_3 : decode cL_setPromise 3 = .ok (.aload_n 0, 1) := by decide +kernel
theorem dL_setPromise_4 : decode cL_setPromise 4 = .ok (.iload_n 1, 1) := by decide +kernel
theorem dL_setPromise_5 : decode cL_setPromise 5 = .ok (.iload_n 2, 1) := by decide +kernel
theorem dL_setPromise_6 : decode cL_setPromise 6 = .ok (.iload_n 3, 1) := by decide +kernel
theorem dL_setPromise_7 : decode cL_setPromise 7 = .ok (.invokevirtual 22, 3) := by decide +kernel
theorem dL_setPromise_10 : decode cL_setPromise 10 = .ok (.i2l, 1) := by decide +kernel
theorem dL_setPromise_11 : decode cL_setPromise 11 = .ok (.lastore, 1) := by decide +kernel
theorem dL_setPromise_12 : decode cL_setPromise 12 = .ok (.goto 7, 3) := by decide +kernel
theorem dL_setPromise_15 : decode cL_setPromise 15 = .ok (.astore 5, 2) := by decide +kernel
theorem dL_setPromise_17 : decode cL_setPromise 17 = .ok (.iconst 1, 1) := by decide +kernel
theorem dL_setPromise_18 : decode cL_setPromise 18 = .ok (.ireturn, 1) := by decide +kernel
theorem dL_setPromise_19 : decode cL_setPromise 19 = .ok (.iconst 0, 1) := by decide +kernel
theorem dL_setPromise_20 : decode cL_setPromise 20 = .ok (.ireturn, 1) := by decide +kernel
set_option maxRecDepth 20000 in
theorem ggL_isCovered_X2_isCovered : GoodIn wsL_isCovered wsX2_isCovered := goodIn_ca (goodIn_ca (goodIn_r _ [7, 8, 9, 10, 6, 11, 12, 13, 14, 15, 16, 17, 18, 19, 20, 21, 22, 23, 24, 25, 26, 27, 28, 29, 30, 31, 32, 33, 34, 35, 36, 37, 38, 39, 40, 41, 42, 43, 44, 45, 46, 47, 48] (by decide +kernel) (by decide +kernel)) (goodIn_sub (fun _ h => List.mem_cons_of_mem _ (List.mem_append_left _ (List.mem_append_right _ h))) (by decide +kernel))) (goodIn_sub (fun _ h => List.mem_cons_of_mem _ (List.mem_append_right _ h)) (by decide +kernel))
set_option maxRecDepth 20000 in
theorem gL_isCovered_X2_isCovered : GoodIn wsL_isCovered (wsV RL 26 RX2 yX2_isCovered wsX2_isCovered) := goodIn_app (goodIn_of _ (by decide +kernel)) ggL_isCovered_X2_isCovered
theorem dL_isCovered_0 : decode cL_isCovered 0 = .ok (.aload 4, 2) := by decide +kernel
theorem dL_isCovered_2 : decode cL_isCovered 2 = .ok (.iconst 0, 1) := by decide +kernel
theorem dL_isCovered_3 : decode cL_isCovered 3 = .ok (.aload_n 0, 1) := by decide +kernel
theorem dL_isCovered_4 : decode cL_isCovered 4 = .ok (.iload_n 1, 1) := by decide +kernel
theorem dL_isCovered_5 : decode cL_isCovered 5 = .ok (.iload_n 2, 1) := by decide +kernel
theorem dL_isCovered_6 : decode cL_isCovered 6 = .ok (.iload_n 3, 1) := by decide +kernel
theorem dL_isCovered_7 : decode cL_isCovered 7 = .ok (.invokevirtual 26, 3) := by decide +kernel
theorem dL_isCovered_10 : decode cL_isCovered 10 = .ok (.ifCond .eq 7, 3) := by decide +kernel
theorem dL_isCovered_13 : decode cL_isCovered 13 = .ok (.lconst 1, 1) := by decide +kernel
theorem dL_isCovered_14 : decode cL_isCovered 14 = .ok (.goto 4, 3) := by decide +kernel
theorem dL_isCovered_17 : decode cL_isCovered 17 = .ok (.lconst 0, 1) := by decide +kernel
theorem dL_isCovered_18 : decode cL_isCovered 18 = .ok (.lastore, 1) := by decide +kernel
theorem dL_isCovered_19 : decode cL_isCovered 19 = .ok (.goto 11, 3) := by decide +kernel
theorem dL_isCovered_22 : decode cL_isCovered 22 = .ok (.astore 5, 2) := by decide +kernel
theorem dL_isCovered_24 : decode cL_isCovered 24 = .ok (.iconst 1, 1) := by decide +kernel
theorem dL_isCovered_25 : decode cL_isCovered 25 = .ok (.ireturn, 1) := by decide +kernel
theorem dL_isCovered_26 : decode cL_isCovered 26 = .ok (.astore 5, 2) := by decide +kernel
theorem dL_isCovered_28 : decode cL_isCovered 28 = .ok (.iconst 2, 1) := by decide +kernel
theorem dL_isCovered_29 : decode cL_isCovered 29 = .ok (.ireturn, 1) := by decide +kernel
theorem dL_isCovered_30 : decode cL_isCovered 30 = .ok (.iconst 0, 1) := by decide +kernel
theorem dL_isCovered_31 : decode cL_isCovered 31 = .ok (.ireturn, 1) := by decide +kernel
set_option maxRecDepth 20000 in
theorem ggL_nextGap_X2_nextGap : GoodIn wsL_nextGap wsX2_nextGap := goodIn_ca (goodIn_ca (goodIn_r _ [7, 8, 9, 10, 6, 11, 12, 13, 14, 15, 16, 17, 18, 19, 20, 21, 22, 23, 24, 25, 26, 27, 28, 29, 30, 31, 32, 33, 34, 35, 36, 37, 38, 39, 40, 41, 42, 43, 44, 45, 46, 47, 48] (by decide +kernel) (by decide +kernel)) (goodIn_sub (fun _ h => List.mem_cons_of_mem _ (List.mem_append_left _ (List.mem_append_right _ h))) (by decide +kernel))) (goodIn_sub (fun _ h => List.mem_cons_of_mem _ (List.mem_append_right _ h)) (by decide +kernel))
set_option maxRecDepth 20000 in
theorem gL_nextGap_X2_nextGap : GoodIn wsL_nextGap (wsV RL 30 RX2 yX2_nextGap wsX2_nextGap) := goodIn_app (goodIn_of _ (by decide +kernel)) ggL_nextGap_X2_nextGap
theorem dL_nextGap_0 : decode cL_nextGap 0 = .ok (.aload 4, 2) := by decide +kernel
theorem dL_nextGap_2 : decode cL_nextGap 2 = .ok (.iconst 0, 1) := by decide +kernel
theorem dL_nextGap_3 : decode cL_nextGap 3 = .ok (.aload_n 0, 1) := by decide +kernel
theorem dL_nextGap_4 : decode cL_nextGap 4 = .ok (.iload_n 1, 1) := by decide +kernel
theorem dL_nextGap_5 : decode cL_nextGap 5 = .ok (.iload_n 2, 1) := by decide +kernel
theorem dL_nextGap_6 : decode cL_nextGap 6 = .ok (.iload_n 3, 1) := by decide +kernel
theorem dL_nextGap_7 : decode cL_nextGap 7 = .ok (.invokevirtual 30, 3) := by decide +kernel
theorem dL_nextGap_10 : decode cL_nextGap 10 = .ok (.i2l, 1) := by decide +kernel
theorem dL_nextGap_11 : decode cL_nextGap 11 = .ok (.lastore, 1) := by decide +kernel
theorem dL_nextGap_12 : decode cL_nextGap 12 = .ok (.goto 11, 3) := by decide +kernel
theorem dL_nextGap_15 : decode cL_nextGap 15 = .ok (.astore 5, 2) := by decide +kernel
theorem dL_nextGap_17 : decode cL_nextGap 17 = .ok (.iconst 1, 1) := by decide +kernel
theorem dL_nextGap_18 : decode cL_nextGap 18 = .ok (.ireturn, 1) := by decide +kernel
theorem dL_nextGap_19 : decode cL_nextGap 19 = .ok (.astore 5, 2) := by decide +kernel
theorem dL_nextGap_21 : decode cL_nextGap 21 = .ok (.iconst 2, 1) := by decide +kernel
theorem dL_nextGap_22 : decode cL_nextGap 22 = .ok (.ireturn, 1) := by decide +kernel
theorem dL_nextGap_23 : decode cL_nextGap 23 = .ok (.iconst 0, 1) := by decide +kernel
theorem dL_nextGap_24 : decode cL_nextGap 24 = .ok (.ireturn, 1) := by decide +kernel
set_option maxRecDepth 20000 in
theorem ggL_pass_X2_pass : GoodIn wsL_pass wsX2_pass := goodIn_ca (goodIn_ca (goodIn_r _ [7, 8, 9, 10, 11, 6, 12, 13, 14, 15, 16, 17, 18, 19, 20, 21, 22, 23, 24, 25, 26, 27, 28, 29, 30, 31, 32, 33, 34, 35, 36, 37, 38, 39, 40, 41, 42, 43, 44, 45, 46, 47, 48, 49, 50, 51, 52, 53, 54, 55, 56, 57, 58, 59, 60, 61, 62, 63, 64, 65, 66, 67, 68, 69, 70, 71, 72, 73, 74, 75, 76, 77, 78, 79, 80, 81, 82, 83, 84, 85, 86, 87, 88, 89, 90, 91, 92] (by decide +kernel) (by decide +kernel)) (goodIn_sub (fun _ h => List.mem_cons_of_mem _ (List.mem_append_left _ (List.mem_append_right _ h))) (by decide +kernel))) (goodIn_sub (fun _ h => List.mem_cons_of_mem _ (List.mem_append_right _ h)) (by decide +kernel))
set_option maxRecDepth 20000 in
theorem gL_pass_X2_pass : GoodIn wsL_pass (wsV RL 33 RX2 yX2_pass wsX2_pass) := goodIn_app (goodIn_of _ (by decide +kernel)) ggL_pass_X2_pass
theorem dL_pass_0 : decode cL_pass 0 = .ok (.aload_n 2, 1) := by decide +kernel
theorem dL_pass_1 : decode cL_pass 1 = .ok (.iconst 0, 1) := by decide +kernel
theorem dL_pass_2 : decode cL_pass 2 = .ok (.aload_n 0, 1) := by decide +kernel
theorem dL_pass_3 : decode cL_pass 3 = .ok (.iload_n 1, 1) := by decide +kernel
theorem dL_pass_4 : decode cL_pass 4 = .ok (.invokevirtual 33, 3) := by decide +kernel
theorem dL_pass_7 : decode cL_pass 7 = .ok (.i2l, 1) := by decide +kernel
theorem dL_pass_8 : decode cL_pass 8 = .ok (.lastore, 1) := by decide +kernel
theorem dL_pass_9 : decode cL_pass 9 = .ok (.goto 9, 3) := by decide +kernel
theorem dL_pass_12 : decode cL_pass 12 = .ok (.astore_n 3, 1) := by decide +kernel
theorem dL_pass_13 : decode cL_pass 13 = .ok (.iconst 1, 1) := by decide +kernel
theorem dL_pass_14 : decode cL_pass 14 = .ok (.ireturn, 1) := by decide +kernel
theorem dL_pass_15 : decode cL_pass 15 = .ok (.astore_n 3, 1) := by decide +kernel
theorem dL_pass_16 : decode cL_pass 16 = .ok (.iconst 2, 1) := by decide +kernel
theorem dL_pass_17 : decode cL_pass 17 = .ok (.ireturn, 1) := by decide +kernel
theorem dL_pass_18 : decode cL_pass 18 = .ok (.iconst 0, 1) := by decide +kernel
theorem dL_pass_19 : decode cL_pass 19 = .ok (.ireturn, 1) := by decide +kernel
set_option maxRecDepth 20000 in
theorem ggL_hours_X2_hours : GoodIn wsL_hours wsX2_hours := goodIn_ca (goodIn_ca (goodIn_r _ [7, 8, 9, 10, 6, 11, 12, 13, 14, 15, 16, 17, 18, 19, 20, 21, 22, 23, 24, 25, 26, 27, 28, 29, 30, 31, 32, 33, 34, 35, 36, 37, 38, 39, 40, 41, 42, 43, 44, 45, 46, 47, 48, 49, 50, 51, 52, 53, 54, 55, 56, 57, 58, 59, 60, 61, 62, 63, 64, 65, 66] (by decide +kernel) (by decide +kernel)) (goodIn_sub (fun _ h => List.mem_cons_of_mem _ (List.mem_append_left _ (List.mem_append_right _ h))) (by decide +kernel))) (goodIn_sub (fun _ h => List.mem_cons_of_mem _ (List.mem_append_right _ h)) (by decide +kernel))
set_option maxRecDepth 20000 in
theorem gL_hours_X2_hours : GoodIn wsL_hours (wsV RL 37 RX2 yX2_hours wsX2_hours) := goodIn_app (goodIn_of _ (by decide +kernel)) ggL_hours_X2_hours
theorem dL_hours_0 : decode cL_hours 0 = .ok (.aload 4, 2) := by decide +kernel
theorem dL_hours_2 : decode cL_hours 2 = .ok (.iconst 0, 1) := by decide +kernel
theorem dL_hours_3 : decode cL_hours 3 = .ok (.aload_n 0, 1) := by decide +kernel
theorem dL_hours_4 : decode cL_hours 4 = .ok (.iload_n 1, 1) := by decide +kernel
theorem dL_hours_5 : decode cL_hours 5 = .ok (.iload_n 2, 1) := by decide +kernel
theorem dL_hours_6 : decode cL_hours 6 = .ok (.iload_n 3, 1) := by decide +kernel
theorem dL_hours_7 : decode cL_hours 7 = .ok (.invokevirtual 37, 3) := by decide +kernel
theorem dL_hours_10 : decode cL_hours 10 = .ok (.i2l, 1) := by decide +kernel
theorem dL_hours_11 : decode cL_hours 11 = .ok (.lastore, 1) := by decide +kernel
theorem dL_hours_12 : decode cL_hours 12 = .ok (.goto 11, 3) := by decide +kernel
theorem dL_hours_15 : decode cL_hours 15 = .ok (.astore 5, 2) := by decide +kernel
theorem dL_hours_17 : decode cL_hours 17 = .ok (.iconst 1, 1) := by decide +kernel
theorem dL_hours_18 : decode cL_hours 18 = .ok (.ireturn, 1) := by decide +kernel
theorem dL_hours_19 : decode cL_hours 19 = .ok (.astore 5, 2) := by decide +kernel
theorem dL_hours_21 : decode cL_hours 21 = .ok (.iconst 2, 1) := by decide +kernel
theorem dL_hours_22 : decode cL_hours 22 = .ok (.ireturn, 1) := by decide +kernel
theorem dL_hours_23 : decode cL_hours 23 = .ok (.iconst 0, 1) := by decide +kernel
theorem dL_hours_24 : decode cL_hours 24 = .ok (.ireturn, 1) := by decide +kernel
set_option maxRecDepth 20000 in
theorem ggL_hoursOneByOne_X2_hoursOneByOne : GoodIn wsL_hoursOneByOne wsX2_hoursOneByOne := goodIn_ca (goodIn_ca (goodIn_r _ [7, 8, 9, 10, 6, 11, 12, 13, 14, 15, 16, 17, 18, 19, 20, 21, 22, 23, 24, 25, 26, 27, 28, 29, 30, 31, 32, 33, 34, 35, 36, 37, 38, 39, 40, 41, 42, 43, 44, 45, 46, 47, 48] (by decide +kernel) (by decide +kernel)) (goodIn_sub (fun _ h => List.mem_cons_of_mem _ (List.mem_append_left _ (List.mem_append_right _ h))) (by decide +kernel))) (goodIn_sub (fun _ h => List.mem_cons_of_mem _ (List.mem_append_right _ h)) (by decide +kernel))
set_option maxRecDepth 20000 in
theorem gL_hoursOneByOne_X2_hoursOneByOne : GoodIn wsL_hoursOneByOne (wsV RL 40 RX2 yX2_hoursOneByOne wsX2_hoursOneByOne) := goodIn_app (goodIn_of _ (by decide +kernel)) ggL_hoursOneByOne_X2_hoursOneByOne
theorem dL_hoursOneByOne_0 : decode cL_hoursOneByOne 0 = .ok (.aload 4, 2) := by decide +kernel
theorem dL_hoursOneByOne_2 : decode cL_hoursOneByOne 2 = .ok (.iconst 0, 1) := by decide +kernel
theorem dL_hoursOneByOne_3 : decode cL_hoursOneByOne 3 = .ok (.aload_n 0, 1) := by decide +kernel
theorem dL_hoursOneByOne_4 : decode cL_hoursOneByOne 4 = .ok (.iload_n 1, 1) := by decide +kernel
theorem dL_hoursOneByOne_5 : decode cL_hoursOneByOne 5 = .ok (.iload_n 2, 1) := by decide +kernel
theorem dL_hoursOneByOne_6 : decode cL_hoursOneByOne 6 = .ok (.iload_n 3, 1) := by decide +kernel
theorem dL_hoursOneByOne_7 : decode cL_hoursOneByOne 7 = .ok (.invokevirtual 40, 3) := by decide +kernel
theorem dL_hoursOneByOne_10 : decode cL_hoursOneByOne 10 = .ok (.i2l, 1) := by decide +kernel
theorem dL_hoursOneByOne_11 : decode cL_hoursOneByOne 11 = .ok (.lastore, 1) := by decide +kernel
theorem dL_hoursOneByOne_12 : decode cL_hoursOneByOne 12 = .ok (.goto 11, 3) := by decide +kernel
theorem dL_hoursOneByOne_15 : decode cL_hoursOneByOne 15 = .ok (.astore 5, 2) := by decide +kernel
theorem dL_hoursOneByOne_17 : decode cL_hoursOneByOne 17 = .ok (.iconst 1, 1) := by decide +kernel
theorem dL_hoursOneByOne_18 : decode cL_hoursOneByOne 18 = .ok (.ireturn, 1) := by decide +kernel
theorem dL_hoursOneByOne_19 : decode cL_hoursOneByOne 19 = .ok (.astore 5, 2) := by decide +kernel
theorem dL_hoursOneByOne_21 : decode cL_hoursOneByOne 21 = .ok (.iconst 2, 1) := by decide +kernel
theorem dL_hoursOneByOne_22 : decode cL_hoursOneByOne 22 = .ok (.ireturn, 1) := by decide +kernel
theorem dL_hoursOneByOne_23 : decode cL_hoursOneByOne 23 = .ok (.iconst 0, 1) := by decide +kernel
theorem dL_hoursOneByOne_24 : decode cL_hoursOneByOne 24 = .ok (.ireturn, 1) := by decide +kernel
set_option maxRecDepth 20000 in
theorem ggL_open_X2_open : GoodIn wsL_open wsX2_open := goodIn_ca (goodIn_ca (goodIn_ca (goodIn_r _ [8, 9, 10, 11, 12, 13, 14, 15, 16, 7, 17, 18, 19, 20, 21, 22, 23, 24, 25, 26, 27, 28, 29, 30, 31, 32, 33, 34, 35, 36, 37, 38, 39, 40, 41, 42, 43, 44, 45, 46, 47, 48, 49, 50, 51, 52, 53, 54, 55, 56, 57, 58, 59, 60, 61, 62, 63, 64] (by decide +kernel) (by decide +kernel)) (goodIn_sub (fun _ h => List.mem_cons_of_mem _ (List.mem_append_left _ (List.mem_append_left _ (List.mem_append_right _ h)))) (by decide +kernel))) (goodIn_sub (fun _ h => List.mem_cons_of_mem _ (List.mem_append_left _ (List.mem_append_right _ h))) (by decide +kernel))) (goodIn_sub (fun _ h => List.mem_cons_of_mem _ (List.mem_append_right _ h)) (by decide +kernel))
set_option maxRecDepth 20000 in
theorem gL_open_X2_open : GoodIn wsL_open (wsV RL 43 RX2 yX2_open wsX2_open) := goodIn_app (goodIn_of _ (by decide +kernel)) ggL_open_X2_open
theorem dL_open_0 : decode cL_open 0 = .ok (.aload 4, 2) := by decide +kernel
theorem dL_open_2 : decode cL_open 2 = .ok (.iconst 0, 1) := by decide +kernel
theorem dL_open_3 : decode cL_open 3 = .ok (.aload_n 0, 1) := by decide +kernel
theorem dL_open_4 : decode cL_open 4 = .ok (.iload_n 1, 1) := by decide +kernel
theorem dL_open_5 : decode cL_open 5 = .ok (.iload_n 2, 1) := by decide +kernel
theorem dL_open_6 : decode cL_open 6 = .ok (.iload_n 3, 1) := by decide +kernel
theorem dL_open_7 : decode cL_open 7 = .ok (.invokevirtual 43, 3) := by decide +kernel
theorem dL_open_10 : decode cL_open 10 = .ok (.i2l, 1) := by decide +kernel
theorem dL_open_11 : decode cL_open 11 = .ok (.lastore, 1) := by decide +kernel
theorem dL_open_12 : decode cL_open 12 = .ok (.goto 15, 3) := by decide +kernel
theorem dL_open_15 : decode cL_open 15 = .ok (.astore 5, 2) := by decide +kernel
theorem dL_open_17 : decode cL_open 17 = .ok (.iconst 1, 1) := by decide +kernel
theorem dL_open_18 : decode cL_open 18 = .ok (.ireturn, 1) := by decide +kernel
theorem dL_open_19 : decode cL_open 19 = .ok (.astore 5, 2) := by decide +kernel
theorem dL_open_21 : decode cL_open 21 = .ok (.iconst 2, 1) := by decide +kernel
theorem dL_open_22 : decode cL_open 22 = .ok (.ireturn, 1) := by decide +kernel
theorem dL_open_23 : decode cL_open 23 = .ok (.astore 5, 2) := by decide +kernel
theorem dL_open_25 : decode cL_open 25 = .ok (.iconst 3, 1) := by decide +kernel
theorem dL_open_26 : decode cL_open 26 = .ok (.ireturn, 1) := by decide +kernel
theorem dL_open_27 : decode cL_open 27 = .ok (.iconst 0, 1) := by decide +kernel
theorem dL_open_28 : decode cL_open 28 = .ok (.ireturn, 1) := by decide +kernel
set_option maxRecDepth 20000 in
theorem ggL_reach_X2_reach : GoodIn wsL_reach wsX2_reach := goodIn_ca (goodIn_ca (goodIn_ca (goodIn_r _ [8, 9, 10, 11, 12, 13, 7, 14, 15, 16, 17, 18, 19, 20, 21, 22, 23, 24, 25, 26, 27, 28, 29, 30, 31, 32, 33, 34, 35, 36, 37, 38, 39, 40, 41, 42, 43, 44, 45, 46, 47, 48, 49, 50, 51, 52, 53, 54, 55, 56, 57, 58, 59, 60, 61, 62, 63, 64, 65, 66, 67, 68, 69, 70, 71, 72, 73, 74, 75, 76, 77, 78, 79, 80, 81, 82, 83, 84, 85, 86, 87, 88, 89, 90, 91, 92, 93, 94, 95, 96, 97, 98, 99, 100] (by decide +kernel) (by decide +kernel)) (goodIn_sub (fun _ h => List.mem_cons_of_mem _ (List.mem_append_left _ (List.mem_append_left _ (List.mem_append_right _ h)))) (by decide +kernel))) (goodIn_sub (fun _ h => List.mem_cons_of_mem _ (List.mem_append_left _ (List.mem_append_right _ h))) (by decide +kernel))) (goodIn_sub (fun _ h => List.mem_cons_of_mem _ (List.mem_append_right _ h)) (by decide +kernel))
set_option maxRecDepth 20000 in
theorem gL_reach_X2_reach : GoodIn wsL_reach (wsV RL 46 RX2 yX2_reach wsX2_reach) := goodIn_app (goodIn_of _ (by decide +kernel)) ggL_reach_X2_reach
theorem dL_reach_0 : decode cL_reach 0 = .ok (.aload_n 3, 1) := by decide +kernel
theorem dL_reach_1 : decode cL_reach 1 = .ok (.iconst 0, 1) := by decide +kernel
theorem dL_reach_2 : decode cL_reach 2 = .ok (.aload_n 0, 1) := by decide +kernel
theorem dL_reach_3 : decode cL_reach 3 = .ok (.iload_n 1, 1) := by decide +kernel
theorem dL_reach_4 : decode cL_reach 4 = .ok (.iload_n 2, 1) := by decide +kernel
theorem dL_reach_5 : decode cL_reach 5 = .ok (.invokevirtual 46, 3) := by decide +kernel
theorem dL_reach_8 : decode cL_reach 8 = .ok (.i2l, 1) := by decide +kernel
theorem dL_reach_9 : decode cL_reach 9 = .ok (.lastore, 1) := by decide +kernel
theorem dL_reach_10 : decode cL_reach 10 = .ok (.goto 15, 3) := by decide +kernel
theorem dL_reach_13 : decode cL_reach 13 = .ok (.astore 4, 2) := by decide +kernel
theorem dL_reach_15 : decode cL_reach 15 = .ok (.iconst 1, 1) := by decide +kernel
theorem dL_reach_16 : decode cL_reach 16 = .ok (.ireturn, 1) := by decide +kernel
theorem dL_reach_17 : decode cL_reach 17 = .ok (.astore 4, 2) := by decide +kernel
theorem dL_reach_19 : decode cL_reach 19 = .ok (.iconst 2, 1) := by decide +kernel
theorem dL_reach_20 : decode cL_reach 20 = .ok (.ireturn, 1) := by decide +kernel
theorem dL_reach_21 : decode cL_reach 21 = .ok (.astore 4, 2) := by decide +kernel
theorem dL_reach_23 : decode cL_reach 23 = .ok (.iconst 3, 1) := by decide +kernel
theorem dL_reach_24 : decode cL_reach 24 = .ok (.ireturn, 1) := by decide +kernel
theorem dL_reach_25 : decode cL_reach 25 = .ok (.iconst 0, 1) := by decide +kernel
theorem dL_reach_26 : decode cL_reach 26 = .ok (.ireturn, 1) := by decide +kernel
set_option maxRecDepth 20000 in
theorem ggL_rest_X2_rest : GoodIn wsL_rest wsX2_rest := goodIn_ca (goodIn_ca (goodIn_r _ [7, 8, 9, 10, 11, 12, 6, 13, 14, 15, 16, 17, 18, 19, 20, 21, 22, 23, 24, 25, 26, 27, 28, 29, 30, 31, 32, 33, 34] (by decide +kernel) (by decide +kernel)) (goodIn_sub (fun _ h => List.mem_cons_of_mem _ (List.mem_append_left _ (List.mem_append_right _ h))) (by decide +kernel))) (goodIn_sub (fun _ h => List.mem_cons_of_mem _ (List.mem_append_right _ h)) (by decide +kernel))
set_option maxRecDepth 20000 in
theorem gL_rest_X2_rest : GoodIn wsL_rest (wsV RL 50 RX2 yX2_rest wsX2_rest) := goodIn_app (goodIn_of _ (by decide +kernel)) ggL_rest_X2_rest
theorem dL_rest_0 : decode cL_rest 0 = .ok (.aload_n 3, 1) := by decide +kernel
theorem dL_rest_1 : decode cL_rest 1 = .ok (.iconst 0, 1) := by decide +kernel
theorem dL_rest_2 : decode cL_rest 2 = .ok (.aload_n 0, 1) := by decide +kernel
theorem dL_rest_3 : decode cL_rest 3 = .ok (.iload_n 1, 1) := by decide +kernel
theorem dL_rest_4 : decode cL_rest 4 = .ok (.iload_n 2, 1) := by decide +kernel
theorem dL_rest_5 : decode cL_rest 5 = .ok (.invokevirtual 50, 3) := by decide +kernel
theorem dL_rest_8 : decode cL_rest 8 = .ok (.ifCond .eq 7, 3) := by decide +kernel
theorem dL_rest_11 : decode cL_rest 11 = .ok (.lconst 1, 1) := by decide +kernel
theorem dL_rest_12 : decode cL_rest 12 = .ok (.goto 4, 3) := by decide +kernel
theorem dL_rest_15 : decode cL_rest 15 = .ok (.lconst 0, 1) := by decide +kernel
theorem dL_rest_16 : decode cL_rest 16 = .ok (.lastore, 1) := by decide +kernel
theorem dL_rest_17 : decode cL_rest 17 = .ok (.goto 11, 3) := by decide +kernel
theorem dL_rest_20 : decode cL_rest 20 = .ok (.astore 4, 2) := by decide +kernel
theorem dL_rest_22 : decode cL_rest 22 = .ok (.iconst 1, 1) := by decide +kernel
theorem dL_rest_23 : decode cL_rest 23 = .ok (.ireturn, 1) := by decide +kernel
theorem dL_rest_24 : decode cL_rest 24 = .ok (.astore 4, 2) := by decide +kernel
theorem dL_rest_26 : decode cL_rest 26 = .ok (.iconst 2, 1) := by decide +kernel
theorem dL_rest_27 : decode cL_rest 27 = .ok (.ireturn, 1) := by decide +kernel
theorem dL_rest_28 : decode cL_rest 28 = .ok (.iconst 0, 1) := by decide +kernel
theorem dL_rest_29 : decode cL_rest 29 = .ok (.ireturn, 1) := by decide +kernel
set_option maxRecDepth 20000 in
theorem ggL_setGravity_X2_setGravity : GoodIn wsL_setGravity wsX2_setGravity := goodIn_ca (goodIn_ca (goodIn_ca (goodIn_r _ [8, 9, 10, 11, 12, 13, 7, 14, 15, 16, 17, 18, 19, 20, 21, 22, 23, 24, 25, 26, 27, 28, 29, 30, 31, 32, 33, 34, 35, 36, 37, 38, 39, 40, 41, 42, 43] (by decide +kernel) (by decide +kernel)) (goodIn_sub (fun _ h => List.mem_cons_of_mem _ (List.mem_append_left _ (List.mem_append_left _ (List.mem_append_right _ h)))) (by decide +kernel))) (goodIn_sub (fun _ h => List.mem_cons_of_mem _ (List.mem_append_left _ (List.mem_append_right _ h))) (by decide +kernel))) (goodIn_sub (fun _ h => List.mem_cons_of_mem _ (List.mem_append_right _ h)) (by decide +kernel))
set_option maxRecDepth 20000 in
theorem gL_setGravity_X2_setGravity : GoodIn wsL_setGravity (wsV RL 54 RX2 yX2_setGravity wsX2_setGravity) := goodIn_app (goodIn_of _ (by decide +kernel)) ggL_setGravity_X2_setGravity
theorem dL_setGravity_0 : decode cL_setGravity 0 = .ok (.aload_n 3, 1) := by decide +kernel
theorem dL_setGravity_1 : decode cL_setGravity 1 = .ok (.iconst 0, 1) := by decide +kernel
theorem dL_setGravity_2 : decode cL_setGravity 2 = .ok (.aload_n 0, 1) := by decide +kernel
theorem dL_setGravity_3 : decode cL_setGravity 3 = .ok (.iload_n 1, 1) := by decide +kernel
theorem dL_setGravity_4 : decode cL_setGravity 4 = .ok (.iload_n 2, 1) := by decide +kernel
theorem dL_setGravity_5 : decode cL_setGravity 5 = .ok (.invokevirtual 54, 3) := by decide +kernel
theorem dL_setGravity_8 : decode cL_setGravity 8 = .ok (.i2l, 1) := by decide +kernel
theorem dL_setGravity_9 : decode cL_setGravity 9 = .ok (.lastore, 1) := by decide +kernel
theorem dL_setGravity_10 : decode cL_setGravity 10 = .ok (.goto 15, 3) := by decide +kernel
theorem dL_setGravity_13 : decode cL_setGravity 13 = .ok (.astore 4, 2) := by decide +kernel
theorem dL_setGravity_15 : decode cL_setGravity 15 = .ok (.iconst 1, 1) := by decide +kernel
theorem dL_setGravity_16 : decode cL_setGravity 16 = .ok (.ireturn, 1) := by decide +kernel
theorem dL_setGravity_17 : decode cL_setGravity 17 = .ok (.astore 4, 2) := by decide +kernel
theorem dL_setGravity_19 : decode cL_setGravity 19 = .ok (.iconst 2, 1) := by decide +kernel
theorem dL_setGravity_20 : decode cL_setGravity 20 = .ok (.ireturn, 1) := by decide +kernel
theorem dL_setGravity_21 : decode cL_setGravity 21 = .ok (.astore 4, 2) := by decide +kernel
theorem dL_setGravity_23 : decode cL_setGravity 23 = .ok (.iconst 3, 1) := by decide +kernel
theorem dL_setGravity_24 : decode cL_setGravity 24 = .ok (.ireturn, 1) := by decide +kernel
theorem dL_setGravity_25 : decode cL_setGravity 25 = .ok (.iconst 0, 1) := by decide +kernel
theorem dL_setGravity_26 : decode cL_setGravity 26 = .ok (.ireturn, 1) := by decide +kernel
set_option maxRecDepth 20000 in
theorem ggL_join_X2_join : GoodIn wsL_join wsX2_join := goodIn_ca (goodIn_ca (goodIn_ca (goodIn_r _ [8, 9, 10, 11, 12, 13, 14, 7, 15, 16, 17, 18, 19, 20, 21, 22, 23, 24, 25, 26, 27, 28, 29, 30, 31, 32, 33, 34, 35, 36, 37, 38, 39, 40, 41, 42, 43, 44, 45, 46, 47, 48, 49, 50, 51, 52] (by decide +kernel) (by decide +kernel)) (goodIn_sub (fun _ h => List.mem_cons_of_mem _ (List.mem_append_left _ (List.mem_append_left _ (List.mem_append_right _ h)))) (by decide +kernel))) (goodIn_sub (fun _ h => List.mem_cons_of_mem _ (List.mem_append_left _ (List.mem_append_right _ h))) (by decide +kernel))) (goodIn_sub (fun _ h => List.mem_cons_of_mem _ (List.mem_append_right _ h)) (by decide +kernel))
set_option maxRecDepth 20000 in
theorem gL_join_X2_join : GoodIn wsL_join (wsV RL 57 RX2 yX2_join wsX2_join) := goodIn_app (goodIn_of _ (by decide +kernel)) ggL_join_X2_join
theorem dL_join_0 : decode cL_join 0 = .ok (.aload_n 3, 1) := by decide +kernel
theorem dL_join_1 : decode cL_join 1 = .ok (.iconst 0, 1) := by decide +kernel
theorem dL_join_2 : decode cL_join 2 = .ok (.aload_n 0, 1) := by decide +kernel
theorem dL_join_3 : decode cL_join 3 = .ok (.iload_n 1, 1) := by decide +kernel
theorem dL_join_4 : decode cL_join 4 = .ok (.iload_n 2, 1) := by decide +kernel
theorem dL_join_5 : decode cL_join 5 = .ok (.invokevirtual 57, 3) := by decide +kernel
theorem dL_join_8 : decode cL_join 8 = .ok (.i2l, 1) := by decide +kernel
theorem dL_join_9 : decode cL_join 9 = .ok (.lastore, 1) := by decide +kernel
theorem dL_join_10 : decode cL_join 10 = .ok (.goto 15, 3) := by decide +kernel
theorem dL_join_13 : decode cL_join 13 = .ok (.astore 4, 2) := by decide +kernel
theorem dL_join_15 : decode cL_join 15 = .ok (.iconst 1, 1) := by decide +kernel
theorem dL_join_16 : decode cL_join 16 = .ok (.ireturn, 1) := by decide +kernel
theorem dL_join_17 : decode cL_join 17 = .ok (.astore 4, 2) := by decide +kernel
theorem dL_join_19 : decode cL_join 19 = .ok (.iconst 2, 1) := by decide +kernel
theorem dL_join_20 : decode cL_join 20 = .ok (.ireturn, 1) := by decide +kernel
theorem dL_join_21 : decode cL_join 21 = .ok (.astore 4, 2) := by decide +kernel
theorem dL_join_23 : decode cL_join 23 = .ok (.iconst 3, 1) := by decide +kernel
theorem dL_join_24 : decode cL_join 24 = .ok (.ireturn, 1) := by decide +kernel
theorem dL_join_25 : decode cL_join 25 = .ok (.iconst 0, 1) := by decide +kernel
theorem dL_join_26 : decode cL_join 26 = .ok (.ireturn, 1) := by decide +kernel
set_option maxRecDepth 20000 in
theorem ggL_openAnew_X2_openAnew : GoodIn wsL_openAnew wsX2_openAnew := goodIn_ca (goodIn_ca (goodIn_r _ [7, 8, 9, 10, 11, 12, 13, 14, 15, 16, 17, 18, 6, 19, 20, 21, 22, 23, 24, 25, 26, 27, 28, 29, 30, 31, 32, 33, 34, 35, 36, 37, 38, 39, 40] (by decide +kernel) (by decide +kernel)) (goodIn_sub (fun _ h => List.mem_cons_of_mem _ (List.mem_append_left _ (List.mem_append_right _ h))) (by decide +kernel))) (goodIn_sub (fun _ h => List.mem_cons_of_mem _ (List.mem_append_right _ h)) (by decide +kernel))
set_option maxRecDepth 20000 in
theorem gL_openAnew_X2_openAnew : GoodIn wsL_openAnew (wsV RL 60 RX2 yX2_openAnew wsX2_openAnew) := goodIn_app (goodIn_of _ (by decide +kernel)) ggL_openAnew_X2_openAnew
theorem dL_openAnew_0 : decode cL_openAnew 0 = .ok (.aload_n 2, 1) := by decide +kernel
theorem dL_openAnew_1 : decode cL_openAnew 1 = .ok (.iconst 0, 1) := by decide +kernel
theorem dL_openAnew_2 : decode cL_openAnew 2 = .ok (.aload_n 0, 1) := by decide +kernel
theorem dL_openAnew_3 : decode cL_openAnew 3 = .ok (.iload_n 1, 1) := by decide +kernel
theorem dL_openAnew_4 : decode cL_openAnew 4 = .ok (.invokevirtual 60, 3) := by decide +kernel
theorem dL_openAnew_7 : decode cL_openAnew 7 = .ok (.i2l, 1) := by decide +kernel
theorem dL_openAnew_8 : decode cL_openAnew 8 = .ok (.lastore, 1) := by decide +kernel
theorem dL_openAnew_9 : decode cL_openAnew 9 = .ok (.goto 9, 3) := by decide +kernel
theorem dL_openAnew_12 : decode cL_openAnew 12 = .ok (.astore_n 3, 1) := by decide +kernel
theorem dL_openAnew_13 : decode cL_openAnew 13 = .ok (.iconst 1, 1) := by decide +kernel
theorem dL_openAnew_14 : decode cL_openAnew 14 = .ok (.ireturn, 1) := by decide +kernel
theorem dL_openAnew_15 : decode cL_openAnew 15 = .ok (.astore_n 3, 1) := by decide +kernel
theorem dL_openAnew_16 : decode cL_openAnew 16 = .ok (.iconst 2, 1) := by decide +kernel
theorem dL_openAnew_17 : decode cL_openAnew 17 = .ok (.ireturn, 1) := by decide +kernel
theorem dL_openAnew_18 : decode cL_openAnew 18 = .ok (.iconst 0, 1) := by decide +kernel
theorem dL_openAnew_19 : decode cL_openAnew 19 = .ok (.ireturn, 1) := by decide +kernel
set_option maxRecDepth 20000 in
theorem ggL_stateOf_X2_stateOf : GoodIn wsL_stateOf wsX2_stateOf := goodIn_ca (goodIn_r _ [6, 7, 8, 9, 10, 5, 11, 12, 13, 14, 15, 16, 17, 18, 19, 20, 21, 22, 23, 24, 25, 26, 27] (by decide +kernel) (by decide +kernel)) (goodIn_sub (fun _ h => List.mem_cons_of_mem _ (List.mem_append_right _ h)) (by decide +kernel))
set_option maxRecDepth 20000 in
theorem gL_stateOf_X2_stateOf : GoodIn wsL_stateOf (wsV RL 63 RX2 yX2_stateOf wsX2_stateOf) := goodIn_app (goodIn_of _ (by decide +kernel)) ggL_stateOf_X2_stateOf
theorem dL_stateOf_0 : decode cL_stateOf 0 = .ok (.aload_n 2, 1) := by decide +kernel
theorem dL_stateOf_1 : decode cL_stateOf 1 = .ok (.iconst 0, 1) := by decide +kernel
theorem dL_stateOf_2 : decode cL_stateOf 2 = .ok (.aload_n 0, 1) := by decide +kernel
theorem dL_stateOf_3 : decode cL_stateOf 3 = .ok (.iload_n 1, 1) := by decide +kernel
theorem dL_stateOf_4 : decode cL_stateOf 4 = .ok (.invokevirtual 63, 3) := by decide +kernel
theorem dL_stateOf_7 : decode cL_stateOf 7 = .ok (.i2l, 1) := by decide +kernel
theorem dL_stateOf_8 : decode cL_stateOf 8 = .ok (.lastore, 1) := by decide +kernel
theorem dL_stateOf_9 : decode cL_stateOf 9 = .ok (.goto 6, 3) := by decide +kernel
theorem dL_stateOf_12 : decode cL_stateOf 12 = .ok (.astore_n 3, 1) := by decide +kernel
theorem dL_stateOf_13 : decode cL_stateOf 13 = .ok (.iconst 1, 1) := by decide +kernel
theorem dL_stateOf_14 : decode cL_stateOf 14 = .ok (.ireturn, 1) := by decide +kernel
theorem dL_stateOf_15 : decode cL_stateOf 15 = .ok (.iconst 0, 1) := by decide +kernel
theorem dL_stateOf_16 : decode cL_stateOf 16 = .ok (.ireturn, 1) := by decide +kernel
set_option maxRecDepth 20000 in
theorem ggL_clock_X2_clock : GoodIn wsL_clock wsX2_clock := goodIn_ca (goodIn_ca (goodIn_r _ [7, 8, 9, 10, 11, 6, 12, 13, 14, 15, 16, 17, 18, 19, 20, 21, 22, 23, 24, 25, 26, 27, 28, 29, 30, 31, 32, 33, 34, 35, 36] (by decide +kernel) (by decide +kernel)) (goodIn_sub (fun _ h => List.mem_cons_of_mem _ (List.mem_append_left _ (List.mem_append_right _ h))) (by decide +kernel))) (goodIn_sub (fun _ h => List.mem_cons_of_mem _ (List.mem_append_right _ h)) (by decide +kernel))
set_option maxRecDepth 20000 in
theorem gL_clock_X2_clock : GoodIn wsL_clock (wsV RL 66 RX2 yX2_clock wsX2_clock) := goodIn_app (goodIn_of _ (by decide +kernel)) ggL_clock_X2_clock
theorem dL_clock_0 : decode cL_clock 0 = .ok (.aload_n 3, 1) := by decide +kernel
theorem dL_clock_1 : decode cL_clock 1 = .ok (.iconst 0, 1) := by decide +kernel
theorem dL_clock_2 : decode cL_clock 2 = .ok (.aload_n 0, 1) := by decide +kernel
theorem dL_clock_3 : decode cL_clock 3 = .ok (.iload_n 1, 1) := by decide +kernel
theorem dL_clock_4 : decode cL_clock 4 = .ok (.iload_n 2, 1) := by decide +kernel
theorem dL_clock_5 : decode cL_clock 5 = .ok (.invokevirtual 66, 3) := by decide +kernel
theorem dL_clock_8 : decode cL_clock 8 = .ok (.i2l, 1) := by decide +kernel
theorem dL_clock_9 : decode cL_clock 9 = .ok (.lastore, 1) := by decide +kernel
theorem dL_clock_10 : decode cL_clock 10 = .ok (.goto 11, 3) := by decide +kernel
theorem dL_clock_13 : decode cL_clock 13 = .ok (.astore 4, 2) := by decide +kernel
theorem dL_clock_15 : decode cL_clock 15 = .ok (.iconst 1, 1) := by decide +kernel
theorem dL_clock_16 : decode cL_clock 16 = .ok (.ireturn, 1) := by decide +kernel
theorem dL_clock_17 : decode cL_clock 17 = .ok (.astore 4, 2) := by decide +kernel
theorem dL_clock_19 : decode cL_clock 19 = .ok (.iconst 2, 1) := by decide +kernel
theorem dL_clock_20 : decode cL_clock 20 = .ok (.ireturn, 1) := by decide +kernel
theorem dL_clock_21 : decode cL_clock 21 = .ok (.iconst 0, 1) := by decide +kernel
theorem dL_clock_22 : decode cL_clock 22 = .ok (.ireturn, 1) := by decide +kernel
set_option maxRecDepth 20000 in
theorem ggL_isMissed_X2_isMissed : GoodIn wsL_isMissed wsX2_isMissed := goodIn_ca (goodIn_ca (goodIn_r _ [7, 8, 9, 10, 6, 11, 12, 13, 14, 15, 16, 17, 18, 19, 20, 21, 22, 23, 24, 25, 26, 27, 28, 29, 30, 31, 32, 33, 34, 35, 36, 37, 38, 39, 40, 41, 42, 43, 44, 45, 46] (by decide +kernel) (by decide +kernel)) (goodIn_sub (fun _ h => List.mem_cons_of_mem _ (List.mem_append_left _ (List.mem_append_right _ h))) (by decide +kernel))) (goodIn_sub (fun _ h => List.mem_cons_of_mem _ (List.mem_append_right _ h)) (by decide +kernel))
set_option maxRecDepth 20000 in
theorem gL_isMissed_X2_isMissed : GoodIn wsL_isMissed (wsV RL 69 RX2 yX2_isMissed wsX2_isMissed) := goodIn_app (goodIn_of _ (by decide +kernel)) ggL_isMissed_X2_isMissed
theorem dL_isMissed_0 : decode cL_isMissed 0 = .ok (.aload_n 3, 1) := by decide +kernel
theorem dL_isMissed_1 : decode cL_isMissed 1 = .ok (.iconst 0, 1) := by decide +kernel
theorem dL_isMissed_2 : decode cL_isMissed 2 = .ok (.aload_n 0, 1) := by decide +kernel
theorem dL_isMissed_3 : decode cL_isMissed 3 = .ok (.iload_n 1, 1) := by decide +kernel
theorem dL_isMissed_4 : decode cL_isMissed 4 = .ok (.iload_n 2, 1) := by decide +kernel
theorem dL_isMissed_5 : decode cL_isMissed 5 = .ok (.invokevirtual 69, 3) := by decide +kernel
theorem dL_isMissed_8 : decode cL_isMissed 8 = .ok (.ifCond .eq 7, 3) := by decide +kernel
theorem dL_isMissed_11 : decode cL_isMissed 11 = .ok (.lconst 1, 1) := by decide +kernel
theorem dL_isMissed_12 : decode cL_isMissed 12 = .ok (.goto 4, 3) := by decide +kernel
theorem dL_isMissed_15 : decode cL_isMissed 15 = .ok (.lconst 0, 1) := by decide +kernel
theorem dL_isMissed_16 : decode cL_isMissed 16 = .ok (.lastore, 1) := by decide +kernel
theorem dL_isMissed_17 : decode cL_isMissed 17 = .ok (.goto 11, 3) := by decide +kernel
theorem dL_isMissed_20 : decode cL_isMissed 20 = .ok (.astore 4, 2) := by decide +kernel
theorem dL_isMissed_22 : decode cL_isMissed 22 = .ok (.iconst 1, 1) := by decide +kernel
theorem dL_isMissed_23 : decode cL_isMissed 23 = .ok (.ireturn, 1) := by decide +kernel
theorem dL_isMissed_24 : decode cL_isMissed 24 = .ok (.astore 4, 2) := by decide +kernel
theorem dL_isMissed_26 : decode cL_isMissed 26 = .ok (.iconst 2, 1) := by decide +kernel
theorem dL_isMissed_27 : decode cL_isMissed 27 = .ok (.ireturn, 1) := by decide +kernel
theorem dL_isMissed_28 : decode cL_isMissed 28 = .ok (.iconst 0, 1) := by decide +kernel
theorem dL_isMissed_29 : decode cL_isMissed 29 = .ok (.ireturn, 1) := by decide +kernel
set_option maxRecDepth 20000 in
theorem ggL_step_X2_step : GoodIn wsL_step wsX2_step := goodIn_ca (goodIn_r _ [6, 7, 8, 9, 5, 10, 11, 12, 13, 14, 15, 16, 17, 18, 19, 20, 21, 22, 23, 24, 25, 26, 27, 28, 29, 30, 31, 32, 33, 34, 35, 36, 37, 38, 39, 40, 41, 42, 43, 44, 45, 46, 47, 48, 49, 50, 51] (by decide +kernel) (by decide +kernel)) (goodIn_sub (fun _ h => List.mem_cons_of_mem _ (List.mem_append_right _ h)) (by decide +kernel))
set_option maxRecDepth 20000 in
theorem gL_step_X2_step : GoodIn wsL_step (wsV RL 73 RX2 yX2_step wsX2_step) := goodIn_app (goodIn_of _ (by decide +kernel)) ggL_step_X2_step
theorem dL_step_0 : decode cL_step 0 = .ok (.aload_n 2, 1) := by decide +kernel
theorem dL_step_1 : decode cL_step 1 = .ok (.iconst 0, 1) := by decide +kernel
theorem dL_step_2 : decode cL_step 2 = .ok (.aload_n 0, 1) := by decide +kernel
theorem dL_step_3 : decode cL_step 3 = .ok (.iload_n 1, 1) := by decide +kernel
theorem dL_step_4 : decode cL_step 4 = .ok (.invokevirtual 73, 3) := by decide +kernel
theorem dL_step_7 : decode cL_step 7 = .ok (.i2l, 1) := by decide +kernel
theorem dL_step_8 : decode cL_step 8 = .ok (.lastore, 1) := by decide +kernel
theorem dL_step_9 : decode cL_step 9 = .ok (.goto 6, 3) := by decide +kernel
theorem dL_step_12 : decode cL_step 12 = .ok (.astore_n 3, 1) := by decide +kernel
theorem dL_step_13 : decode cL_step 13 = .ok (.iconst 1, 1) := by decide +kernel
theorem dL_step_14 : decode cL_step 14 = .ok (.ireturn, 1) := by decide +kernel
theorem dL_step_15 : decode cL_step 15 = .ok (.iconst 0, 1) := by decide +kernel
theorem dL_step_16 : decode cL_step 16 = .ok (.ireturn, 1) := by decide +kernel
set_option maxRecDepth 20000 in
theorem ggL_buy_X2_buy : GoodIn wsL_buy wsX2_buy := goodIn_ca (goodIn_ca (goodIn_r _ [7, 8, 9, 10, 11, 12, 6, 13, 14, 15, 16, 17, 18, 19, 20, 21, 22, 23, 24, 25, 26, 27, 28, 29, 30, 31, 32, 33, 34, 35, 36, 37, 38] (by decide +kernel) (by decide +kernel)) (goodIn_sub (fun _ h => List.mem_cons_of_mem _ (List.mem_append_left _ (List.mem_append_right _ h))) (by decide +kernel))) (goodIn_sub (fun _ h => List.mem_cons_of_mem _ (List.mem_append_right _ h)) (by decide +kernel))
set_option maxRecDepth 20000 in
theorem gL_buy_X2_buy : GoodIn wsL_buy (wsV RL 76 RX2 yX2_buy wsX2_buy) := goodIn_app (goodIn_of _ (by decide +kernel)) ggL_buy_X2_buy
theorem dL_buy_0 : decode cL_buy 0 = .ok (.aload_n 3, 1) := by decide +kernel
theorem dL_buy_1 : decode cL_buy 1 = .ok (.iconst 0, 1) := by decide +kernel
theorem dL_buy_2 : decode cL_buy 2 = .ok (.aload_n 0, 1) := by decide +kernel
theorem dL_buy_3 : decode cL_buy 3 = .ok (.iload_n 1, 1) := by decide +kernel
theorem dL_buy_4 : decode cL_buy 4 = .ok (.iload_n 2, 1) := by decide +kernel
theorem dL_buy_5 : decode cL_buy 5 = .ok (.invokevirtual 76, 3) := by decide +kernel
theorem dL_buy_8 : decode cL_buy 8 = .ok (.i2l, 1) := by decide +kernel
theorem dL_buy_9 : decode cL_buy 9 = .ok (.lastore, 1) := by decide +kernel
theorem dL_buy_10 : decode cL_buy 10 = .ok (.goto 11, 3) := by decide +kernel
theorem dL_buy_13 : decode cL_buy 13 = .ok (.astore 4, 2) := by decide +kernel
theorem dL_buy_15 : decode cL_buy 15 = .ok (.iconst 1, 1) := by decide +kernel
theorem dL_buy_16 : decode cL_buy 16 = .ok (.ireturn, 1) := by decide +kernel
theorem dL_buy_17 : decode cL_buy 17 = .ok (.astore 4, 2) := by decide +kernel
theorem dL_buy_19 : decode cL_buy 19 = .ok (.iconst 2, 1) := by decide +kernel
theorem dL_buy_20 : decode cL_buy 20 = .ok (.ireturn, 1) := by decide +kernel
theorem dL_buy_21 : decode cL_buy 21 = .ok (.iconst 0, 1) := by decide +kernel
theorem dL_buy_22 : decode cL_buy 22 = .ok (.ireturn, 1) := by decide +kernel
set_option maxRecDepth 20000 in
theorem ggL_work_X2_work : GoodIn wsL_work wsX2_work := goodIn_ca (goodIn_ca (goodIn_ca (goodIn_r _ [8, 9, 10, 11, 12, 13, 14, 15, 16, 17, 18, 19, 7, 20, 21, 22, 23, 24, 25, 26, 27, 28, 29, 30, 31, 32, 33, 34, 35, 36, 37, 38, 39, 40, 41, 42, 43, 44, 45, 46, 47, 48, 49, 50, 51, 52, 53, 54, 55, 56, 57, 58, 59, 60, 61, 62, 63, 64, 65, 66, 67, 68, 69, 70, 71, 72, 73] (by decide +kernel) (by decide +kernel)) (goodIn_sub (fun _ h => List.mem_cons_of_mem _ (List.mem_append_left _ (List.mem_append_left _ (List.mem_append_right _ h)))) (by decide +kernel))) (goodIn_sub (fun _ h => List.mem_cons_of_mem _ (List.mem_append_left _ (List.mem_append_right _ h))) (by decide +kernel))) (goodIn_sub (fun _ h => List.mem_cons_of_mem _ (List.mem_append_right _ h)) (by decide +kernel))
set_option maxRecDepth 20000 in
theorem gL_work_X2_work : GoodIn wsL_work (wsV RL 79 RX2 yX2_work wsX2_work) := goodIn_app (goodIn_of _ (by decide +kernel)) ggL_work_X2_work
theorem dL_work_0 : decode cL_work 0 = .ok (.aload_n 3, 1) := by decide +kernel
theorem dL_work_1 : decode cL_work 1 = .ok (.iconst 0, 1) := by decide +kernel
theorem dL_work_2 : decode cL_work 2 = .ok (.aload_n 0, 1) := by decide +kernel
theorem dL_work_3 : decode cL_work 3 = .ok (.iload_n 1, 1) := by decide +kernel
theorem dL_work_4 : decode cL_work 4 = .ok (.iload_n 2, 1) := by decide +kernel
theorem dL_work_5 : decode cL_work 5 = .ok (.invokevirtual 79, 3) := by decide +kernel
theorem dL_work_8 : decode cL_work 8 = .ok (.i2l, 1) := by decide +kernel
theorem dL_work_9 : decode cL_work 9 = .ok (.lastore, 1) := by decide +kernel
theorem dL_work_10 : decode cL_work 10 = .ok (.goto 15, 3) := by decide +kernel
theorem dL_work_13 : decode cL_work 13 = .ok (.astore 4, 2) := by decide +kernel
theorem dL_work_15 : decode cL_work 15 = .ok (.iconst 1, 1) := by decide +kernel
theorem dL_work_16 : decode cL_work 16 = .ok (.ireturn, 1) := by decide +kernel
theorem dL_work_17 : decode cL_work 17 = .ok (.astore 4, 2) := by decide +kernel
theorem dL_work_19 : decode cL_work 19 = .ok (.iconst 2, 1) := by decide +kernel
theorem dL_work_20 : decode cL_work 20 = .ok (.ireturn, 1) := by decide +kernel
theorem dL_work_21 : decode cL_work 21 = .ok (.astore 4, 2) := by decide +kernel
theorem dL_work_23 : decode cL_work 23 = .ok (.iconst 3, 1) := by decide +kernel
theorem dL_work_24 : decode cL_work 24 = .ok (.ireturn, 1) := by decide +kernel
theorem dL_work_25 : decode cL_work 25 = .ok (.iconst 0, 1) := by decide +kernel
theorem dL_work_26 : decode cL_work 26 = .ok (.ireturn, 1) := by decide +kernel
set_option maxRecDepth 20000 in
theorem ggL_ahead_X2_ahead : GoodIn wsL_ahead wsX2_ahead := goodIn_ca (goodIn_r _ [6, 7, 8, 9, 10, 5, 11, 12, 13, 14, 15, 16, 17, 18, 19, 20, 21, 22, 23, 24, 25, 26, 27, 28] (by decide +kernel) (by decide +kernel)) (goodIn_sub (fun _ h => List.mem_cons_of_mem _ (List.mem_append_right _ h)) (by decide +kernel))
set_option maxRecDepth 20000 in
theorem gL_ahead_X2_ahead : GoodIn wsL_ahead (wsV RL 82 RX2 yX2_ahead wsX2_ahead) := goodIn_app (goodIn_of _ (by decide +kernel)) ggL_ahead_X2_ahead
theorem dL_ahead_0 : decode cL_ahead 0 = .ok (.aload_n 2, 1) := by decide +kernel
theorem dL_ahead_1 : decode cL_ahead 1 = .ok (.iconst 0, 1) := by decide +kernel
theorem dL_ahead_2 : decode cL_ahead 2 = .ok (.aload_n 0, 1) := by decide +kernel
theorem dL_ahead_3 : decode cL_ahead 3 = .ok (.iload_n 1, 1) := by decide +kernel
theorem dL_ahead_4 : decode cL_ahead 4 = .ok (.invokevirtual 82, 3) := by decide +kernel
theorem dL_ahead_7 : decode cL_ahead 7 = .ok (.i2l, 1) := by decide +kernel
theorem dL_ahead_8 : decode cL_ahead 8 = .ok (.lastore, 1) := by decide +kernel
theorem dL_ahead_9 : decode cL_ahead 9 = .ok (.goto 6, 3) := by decide +kernel
theorem dL_ahead_12 : decode cL_ahead 12 = .ok (.astore_n 3, 1) := by decide +kernel
theorem dL_ahead_13 : decode cL_ahead 13 = .ok (.iconst 1, 1) := by decide +kernel
theorem dL_ahead_14 : decode cL_ahead 14 = .ok (.ireturn, 1) := by decide +kernel
theorem dL_ahead_15 : decode cL_ahead 15 = .ok (.iconst 0, 1) := by decide +kernel
theorem dL_ahead_16 : decode cL_ahead 16 = .ok (.ireturn, 1) := by decide +kernel
set_option maxRecDepth 20000 in
theorem ggL_owes_X2_owes : GoodIn wsL_owes wsX2_owes := goodIn_ca (goodIn_r _ [6, 7, 8, 9, 10, 5, 11, 12, 13, 14, 15, 16, 17, 18, 19, 20, 21, 22, 23, 24, 25, 26, 27, 28] (by decide +kernel) (by decide +kernel)) (goodIn_sub (fun _ h => List.mem_cons_of_mem _ (List.mem_append_right _ h)) (by decide +kernel))
set_option maxRecDepth 20000 in
theorem gL_owes_X2_owes : GoodIn wsL_owes (wsV RL 85 RX2 yX2_owes wsX2_owes) := goodIn_app (goodIn_of _ (by decide +kernel)) ggL_owes_X2_owes
theorem dL_owes_0 : decode cL_owes 0 = .ok (.aload_n 2, 1) := by decide +kernel
theorem dL_owes_1 : decode cL_owes 1 = .ok (.iconst 0, 1) := by decide +kernel
theorem dL_owes_2 : decode cL_owes 2 = .ok (.aload_n 0, 1) := by decide +kernel
theorem dL_owes_3 : decode cL_owes 3 = .ok (.iload_n 1, 1) := by decide +kernel
theorem dL_owes_4 : decode cL_owes 4 = .ok (.invokevirtual 85, 3) := by decide +kernel
theorem dL_owes_7 : decode cL_owes 7 = .ok (.i2l, 1) := by decide +kernel
theorem dL_owes_8 : decode cL_owes 8 = .ok (.lastore, 1) := by decide +kernel
theorem dL_owes_9 : decode cL_owes 9 = .ok (.goto 6, 3) := by decide +kernel
theorem dL_owes_12 : decode cL_owes 12 = .ok (.astore_n 3, 1) := by decide +kernel
theorem dL_owes_13 : decode cL_owes 13 = .ok (.iconst 1, 1) := by decide +kernel
theorem dL_owes_14 : decode cL_owes 14 = .ok (.ireturn, 1) := by decide +kernel
theorem dL_owes_15 : decode cL_owes 15 = .ok (.iconst 0, 1) := by decide +kernel
theorem dL_owes_16 : decode cL_owes 16 = .ok (.ireturn, 1) := by decide +kernel
set_option maxRecDepth 20000 in
theorem ggL_law_X2_init : GoodIn wsL_law wsX2_init := goodIn_r _ [9, 10, 11, 12, 13, 14, 15, 16, 17, 18, 19, 20, 21, 22, 23, 24, 25, 26, 27, 28, 29, 30, 31, 32, 33, 34, 529, 530, 531, 532, 533, 555, 556, 557, 558, 559, 560, 561, 562, 563] (by decide +kernel) (by decide +kernel)
set_option maxRecDepth 20000 in
theorem gL_law_X2_init : GoodIn wsL_law (wsX2_init) := ggL_law_X2_init
set_option maxRecDepth 20000 in
theorem ggL_law_X3_init : GoodIn wsL_law wsX3_init := goodIn_r _ [37, 38, 11, 12, 15, 39, 40, 41, 42, 43, 44, 45, 46, 47, 48, 49, 50, 51, 52, 53, 54, 55, 56, 57, 534, 535, 536, 537, 538, 539, 540, 541, 542, 543, 544, 545, 546, 547, 548, 549, 550, 551, 552, 553, 554] (by decide +kernel) (by decide +kernel)
set_option maxRecDepth 20000 in
theorem gL_law_X3_init : GoodIn wsL_law (wsX3_init) := ggL_law_X3_init
set_option maxRecDepth 20000 in
theorem ggL_law_L_setCalendar : GoodIn wsL_law wsL_setCalendar := goodIn_ca (goodIn_ca (goodIn_r _ [61, 62, 63, 64, 65, 66, 2, 67, 68, 69, 70, 71, 72, 73, 74, 75, 76, 14, 77, 78, 79, 80, 81, 82, 83, 84, 555, 556, 557, 558, 559, 560, 561, 562, 563, 529, 530, 531, 532, 533] (by decide +kernel) (by decide +kernel)) (goodIn_sub (fun _ h => List.mem_append_left _ (List.mem_append_left _ (List.mem_append_right _ h))) (by decide +kernel))) (goodIn_sub (fun _ h => List.mem_append_left _ (List.mem_append_right _ h)) (by decide +kernel))
set_option maxRecDepth 20000 in
theorem gL_law_L_setCalendar : GoodIn wsL_law (va_wsS RL 92 yL_setCalendar wsL_setCalendar) := goodIn_app (goodIn_of _ (by decide +kernel)) ggL_law_L_setCalendar
set_option maxRecDepth 20000 in
theorem ggL_law_X3_setCalendar : GoodIn wsL_law wsX3_setCalendar := goodIn_r _ [88, 39, 40, 41, 89, 90, 5, 91, 92, 93, 94, 95, 96, 97, 98, 99, 534, 535, 536, 537, 538, 539, 540, 541, 542, 543, 544, 545, 546, 547, 548, 549, 550, 551, 552, 553, 554] (by decide +kernel) (by decide +kernel)
set_option maxRecDepth 20000 in
theorem gL_law_X3_setCalendar : GoodIn wsL_law (wsV RL 97 RX3 yX3_setCalendar wsX3_setCalendar) := goodIn_app (goodIn_of _ (by decide +kernel)) ggL_law_X3_setCalendar
set_option maxRecDepth 20000 in
theorem ggL_law_X3_thrown : GoodIn wsL_law wsX3_thrown := goodIn_r _ [103, 99, 534, 535, 536, 537, 538, 539, 540, 541, 542, 543, 544, 545, 546, 547, 548, 549, 550, 551, 552, 553, 554] (by decide +kernel) (by decide +kernel)
set_option maxRecDepth 20000 in
theorem gL_law_X3_thrown : GoodIn wsL_law (wsV RL 98 RX3 yX3_thrown wsX3_thrown) := goodIn_app (goodIn_of _ (by decide +kernel)) ggL_law_X3_thrown
set_option maxRecDepth 20000 in
theorem ggL_law_L_addContract : GoodIn wsL_law wsL_addContract := goodIn_ca (goodIn_ca (goodIn_ca (goodIn_r _ [106, 62, 63, 107, 108, 109, 110, 2, 111, 112, 71, 72, 73, 74, 75, 76, 14, 77, 78, 79, 80, 81, 82, 83, 84, 113, 114, 115, 22, 116, 32, 29, 30, 31, 117, 118, 119, 120, 121, 555, 556, 557, 558, 559, 560, 561, 562, 563, 529, 530, 531, 532, 533] (by decide +kernel) (by decide +kernel)) (goodIn_sub (fun _ h => List.mem_append_left _ (List.mem_append_left _ (List.mem_append_right _ h))) (by decide +kernel))) (goodIn_sub (fun _ h => List.mem_append_left _ (List.mem_append_right _ h)) (by decide +kernel))) (goodIn_sub (fun _ h => List.mem_append_right _ h) (by decide +kernel))
set_option maxRecDepth 20000 in
theorem gL_law_L_addContract : GoodIn wsL_law (va_wsS RL 102 yL_addContract wsL_addContract) := goodIn_app (goodIn_of _ (by decide +kernel)) ggL_law_L_addContract
set_option maxRecDepth 20000 in
theorem ggL_law_X3_addContract : GoodIn wsL_law wsX3_addContract := goodIn_r _ [125, 45, 42, 43, 44, 89, 90, 5, 91, 92, 93, 94, 126, 127, 128, 129, 99, 534, 535, 536, 537, 538, 539, 540, 541, 542, 543, 544, 545, 546, 547, 548, 549, 550, 551, 552, 553, 554] (by decide +kernel) (by decide +kernel)
set_option maxRecDepth 20000 in
theorem gL_law_X3_addContract : GoodIn wsL_law (wsV RL 104 RX3 yX3_addContract wsX3_addContract) := goodIn_app (goodIn_of _ (by decide +kernel)) ggL_law_X3_addContract
set_option maxRecDepth 20000 in
theorem ggL_law_L_setPromise : GoodIn wsL_law wsL_setPromise := goodIn_ca (goodIn_r _ [132, 63, 133, 134, 135, 2, 136, 16, 77, 78, 79, 80, 81, 82, 83, 84, 529, 530, 531, 532, 533] (by decide +kernel) (by decide +kernel)) (goodIn_sub (fun _ h => List.mem_append_left _ (List.mem_append_right _ h)) (by decide +kernel))
set_option maxRecDepth 20000 in
theorem gL_law_L_setPromise : GoodIn wsL_law (va_wsS RL 105 yL_setPromise wsL_setPromise) := goodIn_app (goodIn_of _ (by decide +kernel)) ggL_law_L_setPromise
set_option maxRecDepth 20000 in
theorem ggL_law_X3_setPromise : GoodIn wsL_law wsX3_setPromise := goodIn_r _ [140, 46, 92, 93, 5, 94, 141, 142, 143, 144, 99, 534, 535, 536, 537, 538, 539, 540, 541, 542, 543, 544, 545, 546, 547, 548, 549, 550, 551, 552, 553, 554] (by decide +kernel) (by decide +kernel)
set_option maxRecDepth 20000 in
theorem gL_law_X3_setPromise : GoodIn wsL_law (wsV RL 108 RX3 yX3_setPromise wsX3_setPromise) := goodIn_app (goodIn_of _ (by decide +kernel)) ggL_law_X3_setPromise
set_option maxRecDepth 20000 in
theorem ggL_law_L_isCovered : GoodIn wsL_law wsL_isCovered := goodIn_ca (goodIn_ca (goodIn_r _ [147, 62, 63, 148, 149, 150, 2, 151, 71, 72, 73, 74, 75, 76, 14, 152, 153, 154, 77, 78, 79, 80, 81, 82, 83, 84, 155, 156, 157, 22, 158, 32, 29, 30, 31, 529, 530, 531, 532, 533, 555, 556, 557, 558, 559, 560, 561, 562, 563] (by decide +kernel) (by decide +kernel)) (goodIn_sub (fun _ h => List.mem_append_left _ (List.mem_append_left _ (List.mem_append_right _ h))) (by decide +kernel))) (goodIn_sub (fun _ h => List.mem_append_left _ (List.mem_append_right _ h)) (by decide +kernel))
set_option maxRecDepth 20000 in
theorem gL_law_L_isCovered : GoodIn wsL_law (va_wsS RL 109 yL_isCovered wsL_isCovered) := goodIn_app (goodIn_of _ (by decide +kernel)) ggL_law_L_isCovered
set_option maxRecDepth 20000 in
theorem ggL_law_X3_isCovered : GoodIn wsL_law wsX3_isCovered := goodIn_r _ [162, 89, 90, 5, 91, 92, 93, 94, 163, 164, 165, 95, 96, 97, 98, 99, 166, 167, 168, 169, 45, 42, 43, 44, 534, 535, 536, 537, 538, 539, 540, 541, 542, 543, 544, 545, 546, 547, 548, 549, 550, 551, 552, 553, 554] (by decide +kernel) (by decide +kernel)
set_option maxRecDepth 20000 in
theorem gL_law_X3_isCovered : GoodIn wsL_law (wsV RL 111 RX3 yX3_isCovered wsX3_isCovered) := goodIn_app (goodIn_of _ (by decide +kernel)) ggL_law_X3_isCovered
set_option maxRecDepth 20000 in
theorem ggL_law_L_nextGap : GoodIn wsL_law wsL_nextGap := goodIn_ca (goodIn_ca (goodIn_r _ [172, 62, 63, 173, 174, 175, 2, 176, 71, 72, 73, 74, 75, 76, 14, 152, 153, 154, 77, 78, 79, 80, 81, 82, 83, 84, 155, 156, 157, 22, 158, 32, 29, 30, 31, 529, 530, 531, 532, 533, 555, 556, 557, 558, 559, 560, 561, 562, 563] (by decide +kernel) (by decide +kernel)) (goodIn_sub (fun _ h => List.mem_append_left _ (List.mem_append_left _ (List.mem_append_right _ h))) (by decide +kernel))) (goodIn_sub (fun _ h => List.mem_append_left _ (List.mem_append_right _ h)) (by decide +kernel))
set_option maxRecDepth 20000 in
theorem gL_law_L_nextGap : GoodIn wsL_law (va_wsS RL 112 yL_nextGap wsL_nextGap) := goodIn_app (goodIn_of _ (by decide +kernel)) ggL_law_L_nextGap
set_option maxRecDepth 20000 in
theorem ggL_law_X3_nextGap : GoodIn wsL_law wsX3_nextGap := goodIn_r _ [180, 89, 90, 5, 91, 92, 93, 94, 163, 164, 165, 95, 96, 97, 98, 99, 166, 167, 168, 169, 45, 42, 43, 44, 534, 535, 536, 537, 538, 539, 540, 541, 542, 543, 544, 545, 546, 547, 548, 549, 550, 551, 552, 553, 554] (by decide +kernel) (by decide +kernel)
set_option maxRecDepth 20000 in
theorem gL_law_X3_nextGap : GoodIn wsL_law (wsV RL 114 RX3 yX3_nextGap wsX3_nextGap) := goodIn_app (goodIn_of _ (by decide +kernel)) ggL_law_X3_nextGap
set_option maxRecDepth 20000 in
theorem ggL_law_L_pass : GoodIn wsL_law wsL_pass := goodIn_ca (goodIn_ca (goodIn_r _ [183, 63, 107, 184, 185, 186, 2, 187, 20, 18, 77, 78, 79, 80, 81, 82, 83, 84, 117, 118, 119, 120, 121, 188, 189, 190, 191, 192, 193, 194, 195, 196, 197, 198, 199, 200, 201, 202, 203, 22, 204, 205, 206, 207, 208, 26, 28, 27, 209, 210, 211, 212, 213, 214, 215, 216, 217, 218, 219, 220, 221, 222, 223, 224, 225, 226, 227, 228, 229, 230, 231, 529, 530, 531, 532, 533, 564, 565, 566, 567, 568, 569, 570, 571, 555, 556, 557, 558, 559, 560, 561, 562, 563] (by decide +kernel) (by decide +kernel)) (goodIn_sub (fun _ h => List.mem_append_left _ (List.mem_append_right _ h)) (by decide +kernel))) (goodIn_sub (fun _ h => List.mem_append_right _ h) (by decide +kernel))
set_option maxRecDepth 20000 in
theorem gL_law_L_pass : GoodIn wsL_law (va_wsS RL 115 yL_pass wsL_pass) := goodIn_app (goodIn_of _ (by decide +kernel)) ggL_law_L_pass
set_option maxRecDepth 20000 in
theorem ggL_law_X3_pass : GoodIn wsL_law wsX3_pass := goodIn_r _ [235, 236, 237, 50, 53, 47, 54, 55, 92, 93, 5, 94, 95, 96, 97, 98, 99, 238, 239, 240, 241, 39, 40, 41, 534, 535, 536, 537, 538, 539, 540, 541, 542, 543, 544, 545, 546, 547, 548, 549, 550, 551, 552, 553, 554] (by decide +kernel) (by decide +kernel)
set_option maxRecDepth 20000 in
theorem gL_law_X3_pass : GoodIn wsL_law (wsV RL 118 RX3 yX3_pass wsX3_pass) := goodIn_app (goodIn_of _ (by decide +kernel)) ggL_law_X3_pass
set_option maxRecDepth 20000 in
theorem ggL_law_X2_time : GoodIn wsL_law wsX2_time := goodIn_r _ [245, 20, 529, 530, 531, 532, 533] (by decide +kernel) (by decide +kernel)
set_option maxRecDepth 20000 in
theorem gL_law_X2_time : GoodIn wsL_law (wsV RL 119 RX2 yX2_time wsX2_time) := goodIn_app (goodIn_of _ (by decide +kernel)) ggL_law_X2_time
set_option maxRecDepth 20000 in
theorem ggL_law_X3_time : GoodIn wsL_law wsX3_time := goodIn_r _ [249, 236, 250, 251, 252, 5, 253, 99, 534, 535, 536, 537, 538, 539, 540, 541, 542, 543, 544, 545, 546, 547, 548, 549, 550, 551, 552, 553, 554] (by decide +kernel) (by decide +kernel)
set_option maxRecDepth 20000 in
theorem gL_law_X3_time : GoodIn wsL_law (wsV RL 122 RX3 yX3_time wsX3_time) := goodIn_app (goodIn_of _ (by decide +kernel)) ggL_law_X3_time
set_option maxRecDepth 20000 in
theorem ggL_law_L_hours : GoodIn wsL_law wsL_hours := goodIn_ca (goodIn_ca (goodIn_r _ [256, 62, 63, 257, 258, 259, 2, 260, 71, 72, 73, 74, 75, 76, 14, 77, 78, 79, 80, 81, 82, 83, 84, 261, 202, 203, 22, 204, 205, 206, 207, 208, 26, 28, 27, 209, 210, 211, 212, 213, 214, 215, 216, 217, 218, 219, 220, 221, 222, 223, 224, 225, 226, 529, 530, 531, 532, 533, 555, 556, 557, 558, 559, 560, 561, 562, 563] (by decide +kernel) (by decide +kernel)) (goodIn_sub (fun _ h => List.mem_append_left _ (List.mem_append_left _ (List.mem_append_right _ h))) (by decide +kernel))) (goodIn_sub (fun _ h => List.mem_append_left _ (List.mem_append_right _ h)) (by decide +kernel))
set_option maxRecDepth 20000 in
theorem gL_law_L_hours : GoodIn wsL_law (va_wsS RL 123 yL_hours wsL_hours) := goodIn_app (goodIn_of _ (by decide +kernel)) ggL_law_L_hours
set_option maxRecDepth 20000 in
theorem ggL_law_X3_hours : GoodIn wsL_law wsX3_hours := goodIn_r _ [265, 89, 90, 5, 91, 92, 93, 94, 95, 96, 97, 98, 99, 238, 239, 240, 241, 39, 40, 41, 534, 535, 536, 537, 538, 539, 540, 541, 542, 543, 544, 545, 546, 547, 548, 549, 550, 551, 552, 553, 554] (by decide +kernel) (by decide +kernel)
set_option maxRecDepth 20000 in
theorem gL_law_X3_hours : GoodIn wsL_law (wsV RL 125 RX3 yX3_hours wsX3_hours) := goodIn_app (goodIn_of _ (by decide +kernel)) ggL_law_X3_hours
set_option maxRecDepth 20000 in
theorem ggL_law_L_hoursOneByOne : GoodIn wsL_law wsL_hoursOneByOne := goodIn_ca (goodIn_ca (goodIn_r _ [268, 62, 63, 269, 270, 271, 2, 272, 71, 72, 73, 74, 75, 76, 14, 77, 78, 79, 80, 81, 82, 83, 84, 273, 274, 275, 22, 276, 27, 28, 223, 224, 225, 226, 26, 529, 530, 531, 532, 533, 555, 556, 557, 558, 559, 560, 561, 562, 563] (by decide +kernel) (by decide +kernel)) (goodIn_sub (fun _ h => List.mem_append_left _ (List.mem_append_left _ (List.mem_append_right _ h))) (by decide +kernel))) (goodIn_sub (fun _ h => List.mem_append_left _ (List.mem_append_right _ h)) (by decide +kernel))
set_option maxRecDepth 20000 in
theorem gL_law_L_hoursOneByOne : GoodIn wsL_law (va_wsS RL 126 yL_hoursOneByOne wsL_hoursOneByOne) := goodIn_app (goodIn_of _ (by decide +kernel)) ggL_law_L_hoursOneByOne
set_option maxRecDepth 20000 in
theorem ggL_law_X3_hoursOneByOne : GoodIn wsL_law wsX3_hoursOneByOne := goodIn_r _ [280, 281, 263, 264, 5, 265, 89, 90, 91, 92, 93, 94, 95, 96, 97, 98, 99, 238, 239, 240, 241, 39, 40, 41, 534, 535, 536, 537, 538, 539, 540, 541, 542, 543, 544, 545, 546, 547, 548, 549, 550, 551, 552, 553, 554] (by decide +kernel) (by decide +kernel)
set_option maxRecDepth 20000 in
theorem gL_law_X3_hoursOneByOne : GoodIn wsL_law (wsV RL 128 RX3 yX3_hoursOneByOne wsX3_hoursOneByOne) := goodIn_app (goodIn_of _ (by decide +kernel)) ggL_law_X3_hoursOneByOne
set_option maxRecDepth 20000 in
theorem ggL_law_L_open : GoodIn wsL_law wsL_open := goodIn_ca (goodIn_ca (goodIn_ca (goodIn_r _ [284, 62, 63, 107, 285, 286, 287, 2, 288, 19, 18, 17, 289, 191, 71, 72, 73, 74, 75, 76, 14, 152, 153, 154, 77, 78, 79, 80, 81, 82, 83, 84, 117, 118, 119, 120, 121, 290, 291, 292, 293, 11, 12, 199, 200, 294, 231, 15, 194, 193, 295, 296, 529, 530, 531, 532, 533, 564, 565, 566, 567, 568, 569, 570, 571] (by decide +kernel) (by decide +kernel)) (goodIn_sub (fun _ h => List.mem_append_left _ (List.mem_append_left _ (List.mem_append_right _ h))) (by decide +kernel))) (goodIn_sub (fun _ h => List.mem_append_left _ (List.mem_append_right _ h)) (by decide +kernel))) (goodIn_sub (fun _ h => List.mem_append_right _ h) (by decide +kernel))
set_option maxRecDepth 20000 in
theorem gL_law_L_open : GoodIn wsL_law (va_wsS RL 129 yL_open wsL_open) := goodIn_app (goodIn_of _ (by decide +kernel)) ggL_law_L_open
set_option maxRecDepth 20000 in
theorem ggL_law_X3_open : GoodIn wsL_law wsX3_open := goodIn_r _ [300, 237, 47, 48, 49, 50, 51, 89, 90, 5, 91, 92, 93, 94, 163, 164, 165, 126, 127, 128, 129, 99, 534, 535, 536, 537, 538, 539, 540, 541, 542, 543, 544, 545, 546, 547, 548, 549, 550, 551, 552, 553, 554] (by decide +kernel) (by decide +kernel)
set_option maxRecDepth 20000 in
theorem gL_law_X3_open : GoodIn wsL_law (wsV RL 131 RX3 yX3_open wsX3_open) := goodIn_app (goodIn_of _ (by decide +kernel)) ggL_law_X3_open
set_option maxRecDepth 20000 in
theorem ggL_law_L_reach : GoodIn wsL_law wsL_reach := goodIn_ca (goodIn_ca (goodIn_ca (goodIn_r _ [303, 62, 63, 107, 304, 305, 306, 2, 307, 308, 309, 310, 311, 312, 313, 75, 76, 18, 77, 78, 79, 80, 81, 82, 83, 84, 314, 228, 229, 191, 230, 231, 117, 118, 119, 120, 121, 315, 316, 317, 318, 319, 320, 321, 322, 323, 324, 325, 326, 327, 16, 328, 329, 330, 331, 332, 333, 334, 335, 336, 337, 338, 199, 294, 339, 340, 341, 342, 343, 20, 155, 156, 157, 22, 158, 32, 29, 30, 31, 564, 565, 566, 567, 568, 569, 570, 571, 529, 530, 531, 532, 533, 555, 556, 557, 558, 559, 560, 561, 562, 563] (by decide +kernel) (by decide +kernel)) (goodIn_sub (fun _ h => List.mem_append_left _ (List.mem_append_left _ (List.mem_append_right _ h))) (by decide +kernel))) (goodIn_sub (fun _ h => List.mem_append_left _ (List.mem_append_right _ h)) (by decide +kernel))) (goodIn_sub (fun _ h => List.mem_append_right _ h) (by decide +kernel))
set_option maxRecDepth 20000 in
theorem gL_law_L_reach : GoodIn wsL_law (va_wsS RL 132 yL_reach wsL_reach) := goodIn_app (goodIn_of _ (by decide +kernel)) ggL_law_L_reach
set_option maxRecDepth 20000 in
theorem ggL_law_X3_reach : GoodIn wsL_law wsX3_reach := goodIn_r _ [347, 50, 55, 237, 51, 47, 48, 236, 57, 348, 349, 350, 5, 351, 92, 93, 94, 126, 127, 128, 129, 99, 352, 353, 354, 355, 356, 357, 358, 359, 54, 46, 49, 166, 167, 168, 169, 45, 42, 43, 44, 534, 535, 536, 537, 538, 539, 540, 541, 542, 543, 544, 545, 546, 547, 548, 549, 550, 551, 552, 553, 554] (by decide +kernel) (by decide +kernel)
set_option maxRecDepth 20000 in
theorem gL_law_X3_reach : GoodIn wsL_law (wsV RL 135 RX3 yX3_reach wsX3_reach) := goodIn_app (goodIn_of _ (by decide +kernel)) ggL_law_X3_reach
set_option maxRecDepth 20000 in
theorem ggL_law_L_rest : GoodIn wsL_law wsL_rest := goodIn_ca (goodIn_ca (goodIn_r _ [362, 62, 107, 363, 364, 365, 2, 366, 308, 367, 310, 311, 312, 313, 75, 76, 18, 117, 118, 119, 120, 121, 564, 565, 566, 567, 568, 569, 570, 571, 529, 530, 531, 532, 533] (by decide +kernel) (by decide +kernel)) (goodIn_sub (fun _ h => List.mem_append_left _ (List.mem_append_left _ (List.mem_append_right _ h))) (by decide +kernel))) (goodIn_sub (fun _ h => List.mem_append_right _ h) (by decide +kernel))
set_option maxRecDepth 20000 in
theorem gL_law_L_rest : GoodIn wsL_law (va_wsS RL 136 yL_rest wsL_rest) := goodIn_app (goodIn_of _ (by decide +kernel)) ggL_law_L_rest
set_option maxRecDepth 20000 in
theorem ggL_law_X3_rest : GoodIn wsL_law wsX3_rest := goodIn_r _ [371, 50, 53, 348, 349, 350, 5, 351, 237, 92, 93, 94, 95, 96, 97, 98, 99, 534, 535, 536, 537, 538, 539, 540, 541, 542, 543, 544, 545, 546, 547, 548, 549, 550, 551, 552, 553, 554] (by decide +kernel) (by decide +kernel)
set_option maxRecDepth 20000 in
theorem gL_law_X3_rest : GoodIn wsL_law (wsV RL 139 RX3 yX3_rest wsX3_rest) := goodIn_app (goodIn_of _ (by decide +kernel)) ggL_law_X3_rest
set_option maxRecDepth 20000 in
theorem ggL_law_L_setGravity : GoodIn wsL_law wsL_setGravity := goodIn_ca (goodIn_ca (goodIn_ca (goodIn_r _ [374, 62, 63, 107, 375, 376, 377, 2, 378, 308, 328, 310, 311, 312, 313, 75, 76, 18, 77, 78, 79, 80, 81, 82, 83, 84, 117, 118, 119, 120, 121, 564, 565, 566, 567, 568, 569, 570, 571, 529, 530, 531, 532, 533] (by decide +kernel) (by decide +kernel)) (goodIn_sub (fun _ h => List.mem_append_left _ (List.mem_append_left _ (List.mem_append_right _ h))) (by decide +kernel))) (goodIn_sub (fun _ h => List.mem_append_left _ (List.mem_append_right _ h)) (by decide +kernel))) (goodIn_sub (fun _ h => List.mem_append_right _ h) (by decide +kernel))
set_option maxRecDepth 20000 in
theorem gL_law_L_setGravity : GoodIn wsL_law (va_wsS RL 140 yL_setGravity wsL_setGravity) := goodIn_app (goodIn_of _ (by decide +kernel)) ggL_law_L_setGravity
set_option maxRecDepth 20000 in
theorem ggL_law_X3_setGravity : GoodIn wsL_law wsX3_setGravity := goodIn_r _ [382, 50, 49, 348, 349, 350, 5, 351, 237, 92, 93, 94, 126, 127, 128, 129, 99, 534, 535, 536, 537, 538, 539, 540, 541, 542, 543, 544, 545, 546, 547, 548, 549, 550, 551, 552, 553, 554] (by decide +kernel) (by decide +kernel)
set_option maxRecDepth 20000 in
theorem gL_law_X3_setGravity : GoodIn wsL_law (wsV RL 142 RX3 yX3_setGravity wsX3_setGravity) := goodIn_app (goodIn_of _ (by decide +kernel)) ggL_law_X3_setGravity
set_option maxRecDepth 20000 in
theorem ggL_law_L_join : GoodIn wsL_law wsL_join := goodIn_ca (goodIn_ca (goodIn_ca (goodIn_r _ [385, 62, 63, 107, 386, 387, 388, 2, 389, 333, 308, 390, 310, 311, 312, 313, 75, 76, 18, 80, 81, 82, 83, 84, 391, 392, 393, 394, 335, 336, 337, 191, 338, 199, 294, 117, 118, 119, 120, 121, 564, 565, 566, 567, 568, 569, 570, 571, 529, 530, 531, 532, 533] (by decide +kernel) (by decide +kernel)) (goodIn_sub (fun _ h => List.mem_append_left _ (List.mem_append_left _ (List.mem_append_right _ h))) (by decide +kernel))) (goodIn_sub (fun _ h => List.mem_append_left _ (List.mem_append_right _ h)) (by decide +kernel))) (goodIn_sub (fun _ h => List.mem_append_right _ h) (by decide +kernel))
set_option maxRecDepth 20000 in
theorem gL_law_L_join : GoodIn wsL_law (va_wsS RL 143 yL_join wsL_join) := goodIn_app (goodIn_of _ (by decide +kernel)) ggL_law_L_join
set_option maxRecDepth 20000 in
theorem ggL_law_X3_join : GoodIn wsL_law wsX3_join := goodIn_r _ [398, 47, 50, 51, 348, 349, 350, 5, 351, 237, 92, 93, 94, 399, 400, 401, 402, 126, 127, 128, 129, 99, 534, 535, 536, 537, 538, 539, 540, 541, 542, 543, 544, 545, 546, 547, 548, 549, 550, 551, 552, 553, 554] (by decide +kernel) (by decide +kernel)
set_option maxRecDepth 20000 in
theorem gL_law_X3_join : GoodIn wsL_law (wsV RL 145 RX3 yX3_join wsX3_join) := goodIn_app (goodIn_of _ (by decide +kernel)) ggL_law_X3_join
set_option maxRecDepth 20000 in
theorem ggL_law_L_openAnew : GoodIn wsL_law wsL_openAnew := goodIn_ca (goodIn_ca (goodIn_r _ [405, 62, 107, 406, 407, 408, 2, 409, 308, 367, 309, 410, 214, 211, 215, 323, 310, 311, 312, 313, 75, 76, 18, 117, 118, 119, 120, 121, 564, 565, 566, 567, 568, 569, 570, 571, 529, 530, 531, 532, 533] (by decide +kernel) (by decide +kernel)) (goodIn_sub (fun _ h => List.mem_append_left _ (List.mem_append_left _ (List.mem_append_right _ h))) (by decide +kernel))) (goodIn_sub (fun _ h => List.mem_append_right _ h) (by decide +kernel))
set_option maxRecDepth 20000 in
theorem gL_law_L_openAnew : GoodIn wsL_law (va_wsS RL 146 yL_openAnew wsL_openAnew) := goodIn_app (goodIn_of _ (by decide +kernel)) ggL_law_L_openAnew
set_option maxRecDepth 20000 in
theorem ggL_law_X3_openAnew : GoodIn wsL_law wsX3_openAnew := goodIn_r _ [414, 50, 53, 55, 54, 348, 349, 350, 5, 351, 237, 92, 93, 94, 95, 96, 97, 98, 99, 534, 535, 536, 537, 538, 539, 540, 541, 542, 543, 544, 545, 546, 547, 548, 549, 550, 551, 552, 553, 554] (by decide +kernel) (by decide +kernel)
set_option maxRecDepth 20000 in
theorem gL_law_X3_openAnew : GoodIn wsL_law (wsV RL 148 RX3 yX3_openAnew wsX3_openAnew) := goodIn_app (goodIn_of _ (by decide +kernel)) ggL_law_X3_openAnew
set_option maxRecDepth 20000 in
theorem ggL_law_L_stateOf : GoodIn wsL_law wsL_stateOf := goodIn_ca (goodIn_r _ [417, 62, 418, 419, 420, 2, 421, 308, 310, 311, 312, 313, 75, 76, 18, 564, 565, 566, 567, 568, 569, 570, 571, 529, 530, 531, 532, 533] (by decide +kernel) (by decide +kernel)) (goodIn_sub (fun _ h => List.mem_append_left _ (List.mem_append_left _ (List.mem_append_right _ h))) (by decide +kernel))
set_option maxRecDepth 20000 in
theorem gL_law_L_stateOf : GoodIn wsL_law (va_wsS RL 149 yL_stateOf wsL_stateOf) := goodIn_app (goodIn_of _ (by decide +kernel)) ggL_law_L_stateOf
set_option maxRecDepth 20000 in
theorem ggL_law_X3_stateOf : GoodIn wsL_law wsX3_stateOf := goodIn_r _ [425, 50, 348, 349, 350, 5, 351, 237, 92, 93, 94, 141, 142, 143, 144, 99, 534, 535, 536, 537, 538, 539, 540, 541, 542, 543, 544, 545, 546, 547, 548, 549, 550, 551, 552, 553, 554] (by decide +kernel) (by decide +kernel)
set_option maxRecDepth 20000 in
theorem gL_law_X3_stateOf : GoodIn wsL_law (wsV RL 151 RX3 yX3_stateOf wsX3_stateOf) := goodIn_app (goodIn_of _ (by decide +kernel)) ggL_law_X3_stateOf
set_option maxRecDepth 20000 in
theorem ggL_law_L_clock : GoodIn wsL_law wsL_clock := goodIn_ca (goodIn_ca (goodIn_r _ [428, 62, 63, 429, 430, 431, 2, 432, 323, 310, 311, 312, 313, 75, 76, 18, 77, 78, 79, 80, 81, 82, 83, 84, 564, 565, 566, 567, 568, 569, 570, 571, 529, 530, 531, 532, 533] (by decide +kernel) (by decide +kernel)) (goodIn_sub (fun _ h => List.mem_append_left _ (List.mem_append_left _ (List.mem_append_right _ h))) (by decide +kernel))) (goodIn_sub (fun _ h => List.mem_append_left _ (List.mem_append_right _ h)) (by decide +kernel))
set_option maxRecDepth 20000 in
theorem gL_law_L_clock : GoodIn wsL_law (va_wsS RL 152 yL_clock wsL_clock) := goodIn_app (goodIn_of _ (by decide +kernel)) ggL_law_L_clock
set_option maxRecDepth 20000 in
theorem ggL_law_X3_clock : GoodIn wsL_law wsX3_clock := goodIn_r _ [436, 54, 348, 349, 350, 5, 351, 237, 92, 93, 94, 437, 438, 439, 95, 96, 97, 98, 99, 534, 535, 536, 537, 538, 539, 540, 541, 542, 543, 544, 545, 546, 547, 548, 549, 550, 551, 552, 553, 554] (by decide +kernel) (by decide +kernel)
set_option maxRecDepth 20000 in
theorem gL_law_X3_clock : GoodIn wsL_law (wsV RL 154 RX3 yX3_clock wsX3_clock) := goodIn_app (goodIn_of _ (by decide +kernel)) ggL_law_X3_clock
set_option maxRecDepth 20000 in
theorem ggL_law_L_isMissed : GoodIn wsL_law wsL_isMissed := goodIn_ca (goodIn_ca (goodIn_r _ [442, 62, 63, 443, 444, 445, 2, 446, 310, 311, 312, 313, 75, 76, 18, 77, 78, 79, 80, 81, 82, 83, 84, 319, 320, 321, 322, 323, 324, 325, 326, 327, 16, 328, 529, 530, 531, 532, 533, 564, 565, 566, 567, 568, 569, 570, 571] (by decide +kernel) (by decide +kernel)) (goodIn_sub (fun _ h => List.mem_append_left _ (List.mem_append_left _ (List.mem_append_right _ h))) (by decide +kernel))) (goodIn_sub (fun _ h => List.mem_append_left _ (List.mem_append_right _ h)) (by decide +kernel))
set_option maxRecDepth 20000 in
theorem gL_law_L_isMissed : GoodIn wsL_law (va_wsS RL 155 yL_isMissed wsL_isMissed) := goodIn_app (goodIn_of _ (by decide +kernel)) ggL_law_L_isMissed
set_option maxRecDepth 20000 in
theorem ggL_law_X3_isMissed : GoodIn wsL_law wsX3_isMissed := goodIn_r _ [450, 348, 349, 350, 5, 351, 237, 92, 93, 94, 437, 438, 439, 95, 96, 97, 98, 99, 356, 357, 358, 359, 54, 46, 49, 534, 535, 536, 537, 538, 539, 540, 541, 542, 543, 544, 545, 546, 547, 548, 549, 550, 551, 552, 553, 554] (by decide +kernel) (by decide +kernel)
set_option maxRecDepth 20000 in
theorem gL_law_X3_isMissed : GoodIn wsL_law (wsV RL 157 RX3 yX3_isMissed wsX3_isMissed) := goodIn_app (goodIn_of _ (by decide +kernel)) ggL_law_X3_isMissed
set_option maxRecDepth 20000 in
theorem ggL_law_L_step : GoodIn wsL_law wsL_step := goodIn_ca (goodIn_r _ [453, 62, 454, 455, 456, 2, 457, 310, 311, 312, 313, 75, 76, 18, 458, 459, 460, 461, 462, 210, 211, 212, 463, 464, 465, 466, 323, 314, 228, 229, 191, 230, 231, 324, 325, 326, 327, 16, 328, 529, 530, 531, 532, 533, 564, 565, 566, 567, 568, 569, 570, 571] (by decide +kernel) (by decide +kernel)) (goodIn_sub (fun _ h => List.mem_append_left _ (List.mem_append_left _ (List.mem_append_right _ h))) (by decide +kernel))
set_option maxRecDepth 20000 in
theorem gL_law_L_step : GoodIn wsL_law (va_wsS RL 158 yL_step wsL_step) := goodIn_app (goodIn_of _ (by decide +kernel)) ggL_law_L_step
set_option maxRecDepth 20000 in
theorem ggL_law_X3_step : GoodIn wsL_law wsX3_step := goodIn_r _ [470, 348, 349, 350, 5, 351, 237, 92, 93, 94, 141, 142, 143, 144, 99, 471, 472, 473, 474, 54, 46, 49, 55, 534, 535, 536, 537, 538, 539, 540, 541, 542, 543, 544, 545, 546, 547, 548, 549, 550, 551, 552, 553, 554] (by decide +kernel) (by decide +kernel)
set_option maxRecDepth 20000 in
theorem gL_law_X3_step : GoodIn wsL_law (wsV RL 160 RX3 yX3_step wsX3_step) := goodIn_app (goodIn_of _ (by decide +kernel)) ggL_law_X3_step
set_option maxRecDepth 20000 in
theorem ggL_law_X2_mostUrgent : GoodIn wsL_law wsX2_mostUrgent := goodIn_r _ [478, 19, 18, 328, 479, 196, 197, 191, 198, 199, 200, 458, 459, 460, 2, 461, 462, 210, 211, 212, 463, 464, 465, 466, 323, 314, 228, 229, 230, 231, 324, 325, 326, 327, 16, 529, 530, 531, 532, 533, 564, 565, 566, 567, 568, 569, 570, 571] (by decide +kernel) (by decide +kernel)
set_option maxRecDepth 20000 in
theorem gL_law_X2_mostUrgent : GoodIn wsL_law (wsV RL 161 RX2 yX2_mostUrgent wsX2_mostUrgent) := goodIn_app (goodIn_of _ (by decide +kernel)) ggL_law_X2_mostUrgent
set_option maxRecDepth 20000 in
theorem ggL_law_X3_mostUrgent : GoodIn wsL_law wsX3_mostUrgent := goodIn_r _ [483, 237, 50, 53, 49, 471, 472, 473, 5, 474, 54, 46, 55, 250, 251, 252, 253, 99, 534, 535, 536, 537, 538, 539, 540, 541, 542, 543, 544, 545, 546, 547, 548, 549, 550, 551, 552, 553, 554] (by decide +kernel) (by decide +kernel)
set_option maxRecDepth 20000 in
theorem gL_law_X3_mostUrgent : GoodIn wsL_law (wsV RL 164 RX3 yX3_mostUrgent wsX3_mostUrgent) := goodIn_app (goodIn_of _ (by decide +kernel)) ggL_law_X3_mostUrgent
set_option maxRecDepth 20000 in
theorem ggL_law_L_buy : GoodIn wsL_law wsL_buy := goodIn_ca (goodIn_ca (goodIn_r _ [486, 62, 63, 487, 488, 489, 2, 490, 491, 334, 71, 72, 73, 74, 75, 76, 14, 77, 78, 79, 80, 81, 82, 83, 84, 555, 556, 557, 558, 559, 560, 561, 562, 563, 529, 530, 531, 532, 533] (by decide +kernel) (by decide +kernel)) (goodIn_sub (fun _ h => List.mem_append_left _ (List.mem_append_left _ (List.mem_append_right _ h))) (by decide +kernel))) (goodIn_sub (fun _ h => List.mem_append_left _ (List.mem_append_right _ h)) (by decide +kernel))
set_option maxRecDepth 20000 in
theorem gL_law_L_buy : GoodIn wsL_law (va_wsS RL 165 yL_buy wsL_buy) := goodIn_app (goodIn_of _ (by decide +kernel)) ggL_law_L_buy
set_option maxRecDepth 20000 in
theorem ggL_law_X3_buy : GoodIn wsL_law wsX3_buy := goodIn_r _ [495, 56, 57, 89, 90, 5, 91, 92, 93, 94, 95, 96, 97, 98, 99, 534, 535, 536, 537, 538, 539, 540, 541, 542, 543, 544, 545, 546, 547, 548, 549, 550, 551, 552, 553, 554] (by decide +kernel) (by decide +kernel)
set_option maxRecDepth 20000 in
theorem gL_law_X3_buy : GoodIn wsL_law (wsV RL 167 RX3 yX3_buy wsX3_buy) := goodIn_app (goodIn_of _ (by decide +kernel)) ggL_law_X3_buy
set_option maxRecDepth 20000 in
theorem ggL_law_L_work : GoodIn wsL_law wsL_work := goodIn_ca (goodIn_ca (goodIn_ca (goodIn_r _ [498, 62, 63, 107, 499, 500, 501, 2, 502, 308, 333, 491, 410, 214, 211, 215, 334, 310, 311, 312, 313, 75, 76, 18, 77, 78, 79, 80, 81, 82, 83, 84, 117, 118, 119, 120, 121, 339, 340, 341, 342, 343, 20, 155, 156, 157, 22, 158, 32, 29, 30, 31, 564, 565, 566, 567, 568, 569, 570, 571, 555, 556, 557, 558, 559, 560, 561, 562, 563, 529, 530, 531, 532, 533] (by decide +kernel) (by decide +kernel)) (goodIn_sub (fun _ h => List.mem_append_left _ (List.mem_append_left _ (List.mem_append_right _ h))) (by decide +kernel))) (goodIn_sub (fun _ h => List.mem_append_left _ (List.mem_append_right _ h)) (by decide +kernel))) (goodIn_sub (fun _ h => List.mem_append_right _ h) (by decide +kernel))
set_option maxRecDepth 20000 in
theorem gL_law_L_work : GoodIn wsL_law (va_wsS RL 168 yL_work wsL_work) := goodIn_app (goodIn_of _ (by decide +kernel)) ggL_law_L_work
set_option maxRecDepth 20000 in
theorem ggL_law_X3_work : GoodIn wsL_law wsX3_work := goodIn_r _ [506, 50, 47, 48, 236, 56, 57, 348, 349, 350, 5, 351, 237, 92, 93, 94, 126, 127, 128, 129, 99, 166, 167, 168, 169, 45, 42, 43, 44, 534, 535, 536, 537, 538, 539, 540, 541, 542, 543, 544, 545, 546, 547, 548, 549, 550, 551, 552, 553, 554] (by decide +kernel) (by decide +kernel)
set_option maxRecDepth 20000 in
theorem gL_law_X3_work : GoodIn wsL_law (wsV RL 170 RX3 yX3_work wsX3_work) := goodIn_app (goodIn_of _ (by decide +kernel)) ggL_law_X3_work
set_option maxRecDepth 20000 in
theorem ggL_law_L_ahead : GoodIn wsL_law wsL_ahead := goodIn_ca (goodIn_r _ [509, 62, 510, 511, 512, 2, 513, 491, 71, 72, 73, 74, 75, 76, 14, 555, 556, 557, 558, 559, 560, 561, 562, 563, 529, 530, 531, 532, 533] (by decide +kernel) (by decide +kernel)) (goodIn_sub (fun _ h => List.mem_append_left _ (List.mem_append_left _ (List.mem_append_right _ h))) (by decide +kernel))
set_option maxRecDepth 20000 in
theorem gL_law_L_ahead : GoodIn wsL_law (va_wsS RL 171 yL_ahead wsL_ahead) := goodIn_app (goodIn_of _ (by decide +kernel)) ggL_law_L_ahead
set_option maxRecDepth 20000 in
theorem ggL_law_X3_ahead : GoodIn wsL_law wsX3_ahead := goodIn_r _ [517, 56, 89, 90, 5, 91, 92, 93, 94, 141, 142, 143, 144, 99, 534, 535, 536, 537, 538, 539, 540, 541, 542, 543, 544, 545, 546, 547, 548, 549, 550, 551, 552, 553, 554] (by decide +kernel) (by decide +kernel)
set_option maxRecDepth 20000 in
theorem gL_law_X3_ahead : GoodIn wsL_law (wsV RL 173 RX3 yX3_ahead wsX3_ahead) := goodIn_app (goodIn_of _ (by decide +kernel)) ggL_law_X3_ahead
set_option maxRecDepth 20000 in
theorem ggL_law_L_owes : GoodIn wsL_law wsL_owes := goodIn_ca (goodIn_r _ [520, 62, 521, 522, 523, 2, 524, 334, 71, 72, 73, 74, 75, 76, 14, 555, 556, 557, 558, 559, 560, 561, 562, 563, 529, 530, 531, 532, 533] (by decide +kernel) (by decide +kernel)) (goodIn_sub (fun _ h => List.mem_append_left _ (List.mem_append_left _ (List.mem_append_right _ h))) (by decide +kernel))
set_option maxRecDepth 20000 in
theorem gL_law_L_owes : GoodIn wsL_law (va_wsS RL 174 yL_owes wsL_owes) := goodIn_app (goodIn_of _ (by decide +kernel)) ggL_law_L_owes
set_option maxRecDepth 20000 in
theorem ggL_law_X3_owes : GoodIn wsL_law wsX3_owes := goodIn_r _ [528, 57, 89, 90, 5, 91, 92, 93, 94, 141, 142, 143, 144, 99, 534, 535, 536, 537, 538, 539, 540, 541, 542, 543, 544, 545, 546, 547, 548, 549, 550, 551, 552, 553, 554] (by decide +kernel) (by decide +kernel)
set_option maxRecDepth 20000 in
theorem gL_law_X3_owes : GoodIn wsL_law (wsV RL 176 RX3 yX3_owes wsX3_owes) := goodIn_app (goodIn_of _ (by decide +kernel)) ggL_law_X3_owes
theorem dL_law_0 : decode cL_law 0 = .ok (.new 8, 3) := by decide +kernel
theorem dL_law_3 : decode cL_law 3 = .ok (.dup, 1) := by decide +kernel
theorem dL_law_4 : decode cL_law 4 = .ok (.invokespecial 88, 3) := by decide +kernel
theorem dL_law_7 : decode cL_law 7 = .ok (.astore_n 1, 1) := by decide +kernel
theorem dL_law_8 : decode cL_law 8 = .ok (.new 89, 3) := by decide +kernel
theorem dL_law_11 : decode cL_law 11 = .ok (.dup, 1) := by decide +kernel
theorem dL_law_12 : decode cL_law 12 = .ok (.invokespecial 91, 3) := by decide +kernel
theorem dL_law_15 : decode cL_law 15 = .ok (.astore_n 2, 1) := by decide +kernel
theorem dL_law_16 : decode cL_law 16 = .ok (.iconst 1, 1) := by decide +kernel
theorem dL_law_17 : decode cL_law 17 = .ok (.newarray .long, 2) := by decide +kernel
theorem dL_law_19 : decode cL_law 19 = .ok (.astore_n 3, 1) := by decide +kernel
theorem dL_law_20 : decode cL_law 20 = .ok (.iconst 0, 1) := by decide +kernel
theorem dL_law_21 : decode cL_law 21 = .ok (.istore 4, 2) := by decide +kernel
theorem dL_law_23 : decode cL_law 23 = .ok (.iload 4, 2) := by decide +kernel
theorem dL_law_25 : decode cL_law 25 = .ok (.aload_n 0, 1) := by decide +kernel
theorem dL_law_26 : decode cL_law 26 = .ok (.arraylength, 1) := by decide +kernel
theorem dL_law_27 : decode cL_law 27 = .ok (.iconst 5, 1) := by decide +kernel
theorem dL_law_28 : decode cL_law 28 = .ok (.isub, 1) := by decide +kernel
theorem dL_law_29 : decode cL_law 29 = .ok (.if_icmp .gt 1732, 3) := by decide +kernel
theorem dL_law_32 : decode cL_law 32 = .ok (.aload_n 0, 1) := by decide +kernel
theorem dL_law_33 : decode cL_law 33 = .ok (.iload 4, 2) := by decide +kernel
theorem dL_law_35 : decode cL_law 35 = .ok (.iaload, 1) := by decide +kernel
theorem dL_law_36 : decode cL_law 36 = .ok (.bipush 31, 2) := by decide +kernel
theorem dL_law_38 : decode cL_law 38 = .ok (.iand, 1) := by decide +kernel
theorem dL_law_39 : decode cL_law 39 = .ok (.tableswitch 1716 0 23 #[109, 201, 293, 373, 460, 540, 596, 609, 689, 769, 849, 917, 1008, 1076, 1144, 1200, 1256, 1324, 1399, 1455, 1468, 1536, 1604, 1660], 109) := by decide +kernel
theorem dL_law_148 : decode cL_law 148 = .ok (.aload_n 1, 1) := by decide +kernel
theorem dL_law_149 : decode cL_law 149 = .ok (.aload_n 0, 1) := by decide +kernel
theorem dL_law_150 : decode cL_law 150 = .ok (.iload 4, 2) := by decide +kernel
theorem dL_law_152 : decode cL_law 152 = .ok (.iconst 1, 1) := by decide +kernel
theorem dL_law_153 : decode cL_law 153 = .ok (.iadd, 1) := by decide +kernel
theorem dL_law_154 : decode cL_law 154 = .ok (.iaload, 1) := by decide +kernel
theorem dL_law_155 : decode cL_law 155 = .ok (.aload_n 0, 1) := by decide +kernel
theorem dL_law_156 : decode cL_law 156 = .ok (.iload 4, 2) := by decide +kernel
theorem dL_law_158 : decode cL_law 158 = .ok (.iconst 2, 1) := by decide +kernel
theorem dL_law_159 : decode cL_law 159 = .ok (.iadd, 1) := by decide +kernel
theorem dL_law_160 : decode cL_law 160 = .ok (.iaload, 1) := by decide +kernel
theorem dL_law_161 : decode cL_law 161 = .ok (.aload_n 0, 1) := by decide +kernel
theorem dL_law_162 : decode cL_law 162 = .ok (.iload 4, 2) := by decide +kernel
theorem dL_law_164 : decode cL_law 164 = .ok (.iconst 3, 1) := by decide +kernel
theorem dL_law_165 : decode cL_law 165 = .ok (.iadd, 1) := by decide +kernel
theorem dL_law_166 : decode cL_law 166 = .ok (.iaload, 1) := by decide +kernel
theorem dL_law_167 : decode cL_law 167 = .ok (.aload_n 0, 1) := by decide +kernel
theorem dL_law_168 : decode cL_law 168 = .ok (.iload 4, 2) := by decide +kernel
theorem dL_law_170 : decode cL_law 170 = .ok (.iconst 4, 1) := by decide +kernel
theorem dL_law_171 : decode cL_law 171 = .ok (.iadd, 1) := by decide +kernel
theorem dL_law_172 : decode cL_law 172 = .ok (.iaload, 1) := by decide +kernel
theorem dL_law_173 : decode cL_law 173 = .ok (.aload_n 3, 1) := by decide +kernel
theorem dL_law_174 : decode cL_law 174 = .ok (.invokestatic 92, 3) := by decide +kernel
theorem dL_law_177 : decode cL_law 177 = .ok (.istore 5, 2) := by decide +kernel
theorem dL_law_179 : decode cL_law 179 = .ok (.aload_n 2, 1) := by decide +kernel
theorem dL_law_180 : decode cL_law 180 = .ok (.aload_n 0, 1) := by decide +kernel
theorem dL_law_181 : decode cL_law 181 = .ok (.iload 4, 2) := by decide +kernel
theorem dL_law_183 : decode cL_law 183 = .ok (.iconst 1, 1) := by decide +kernel
theorem dL_law_184 : decode cL_law 184 = .ok (.iadd, 1) := by decide +kernel
theorem dL_law_185 : decode cL_law 185 = .ok (.iaload, 1) := by decide +kernel
theorem dL_law_186 : decode cL_law 186 = .ok (.aload_n 0, 1) := by decide +kernel
theorem dL_law_187 : decode cL_law 187 = .ok (.iload 4, 2) := by decide +kernel
theorem dL_law_189 : decode cL_law 189 = .ok (.iconst 2, 1) := by decide +kernel
theorem dL_law_190 : decode cL_law 190 = .ok (.iadd, 1) := by decide +kernel
theorem dL_law_191 : decode cL_law 191 = .ok (.iaload, 1) := by decide +kernel
theorem dL_law_192 : decode cL_law 192 = .ok (.aload_n 0, 1) := by decide +kernel
theorem dL_law_193 : decode cL_law 193 = .ok (.iload 4, 2) := by decide +kernel
theorem dL_law_195 : decode cL_law 195 = .ok (.iconst 3, 1) := by decide +kernel
theorem dL_law_196 : decode cL_law 196 = .ok (.iadd, 1) := by decide +kernel
theorem dL_law_197 : decode cL_law 197 = .ok (.iaload, 1) := by decide +kernel
theorem dL_law_198 : decode cL_law 198 = .ok (.aload_n 0, 1) := by decide +kernel
theorem dL_law_199 : decode cL_law 199 = .ok (.iload 4, 2) := by decide +kernel
theorem dL_law_201 : decode cL_law 201 = .ok (.iconst 4, 1) := by decide +kernel
theorem dL_law_202 : decode cL_law 202 = .ok (.iadd, 1) := by decide +kernel
theorem dL_law_203 : decode cL_law 203 = .ok (.iaload, 1) := by decide +kernel
theorem dL_law_204 : decode cL_law 204 = .ok (.invokevirtual 97, 3) := by decide +kernel
theorem dL_law_207 : decode cL_law 207 = .ok (.istore 6, 2) := by decide +kernel
theorem dL_law_209 : decode cL_law 209 = .ok (.aload_n 2, 1) := by decide +kernel
theorem dL_law_210 : decode cL_law 210 = .ok (.invokevirtual 98, 3) := by decide +kernel
theorem dL_law_213 : decode cL_law 213 = .ok (.iload 5, 2) := by decide +kernel
theorem dL_law_215 : decode cL_law 215 = .ok (.if_icmp .eq 5, 3) := by decide +kernel
theorem dL_law_218 : decode cL_law 218 = .ok (.iconst 0, 1) := by decide +kernel
theorem dL_law_219 : decode cL_law 219 = .ok (.ireturn, 1) := by decide +kernel
theorem dL_law_220 : decode cL_law 220 = .ok (.iload 5, 2) := by decide +kernel
theorem dL_law_222 : decode cL_law 222 = .ok (.ifCond .ne 15, 3) := by decide +kernel
theorem dL_law_225 : decode cL_law 225 = .ok (.aload_n 3, 1) := by decide +kernel
theorem dL_law_226 : decode cL_law 226 = .ok (.iconst 0, 1) := by decide +kernel
theorem dL_law_227 : decode cL_law 227 = .ok (.laload, 1) := by decide +kernel
theorem dL_law_228 : decode cL_law 228 = .ok (.iload 6, 2) := by decide +kernel
theorem dL_law_230 : decode cL_law 230 = .ok (.i2l, 1) := by decide +kernel
theorem dL_law_231 : decode cL_law 231 = .ok (.lcmp, 1) := by decide +kernel
theorem dL_law_232 : decode cL_law 232 = .ok (.ifCond .eq 5, 3) := by decide +kernel
theorem dL_law_235 : decode cL_law 235 = .ok (.iconst 0, 1) := by decide +kernel
theorem dL_law_236 : decode cL_law 236 = .ok (.ireturn, 1) := by decide +kernel
theorem dL_law_237 : decode cL_law 237 = .ok (.goto 1518, 3) := by decide +kernel
theorem dL_law_240 : decode cL_law 240 = .ok (.aload_n 1, 1) := by decide +kernel
theorem dL_law_241 : decode cL_law 241 = .ok (.aload_n 0, 1) := by decide +kernel
theorem dL_law_242 : decode cL_law 242 = .ok (.iload 4, 2) := by decide +kernel
theorem dL_law_244 : decode cL_law 244 = .ok (.iconst 1, 1) := by decide +kernel
theorem dL_law_245 : decode cL_law 245 = .ok (.iadd, 1) := by decide +kernel
theorem dL_law_246 : decode cL_law 246 = .ok (.iaload, 1) := by decide +kernel
theorem dL_law_247 : decode cL_law 247 = .ok (.aload_n 0, 1) := by decide +kernel
theorem dL_law_248 : decode cL_law 248 = .ok (.iload 4, 2) := by decide +kernel
theorem dL_law_250 : decode cL_law 250 = .ok (.iconst 2, 1) := by decide +kernel
theorem dL_law_251 : decode cL_law 251 = .ok (.iadd, 1) := by decide +kernel
theorem dL_law_252 : decode cL_law 252 = .ok (.iaload, 1) := by decide +kernel
theorem dL_law_253 : decode cL_law 253 = .ok (.aload_n 0, 1) := by decide +kernel
theorem dL_law_254 : decode cL_law 254 = .ok (.iload 4, 2) := by decide +kernel
theorem dL_law_256 : decode cL_law 256 = .ok (.iconst 3, 1) := by decide +kernel
theorem dL_law_257 : decode cL_law 257 = .ok (.iadd, 1) := by decide +kernel
theorem dL_law_258 : decode cL_law 258 = .ok (.iaload, 1) := by decide +kernel
theorem dL_law_259 : decode cL_law 259 = .ok (.aload_n 0, 1) := by decide +kernel
theorem dL_law_260 : decode cL_law 260 = .ok (.iload 4, 2) := by decide +kernel
theorem dL_law_262 : decode cL_law 262 = .ok (.iconst 4, 1) := by decide +kernel
theorem dL_law_263 : decode cL_law 263 = .ok (.iadd, 1) := by decide +kernel
theorem dL_law_264 : decode cL_law 264 = .ok (.iaload, 1) := by decide +kernel
theorem dL_law_265 : decode cL_law 265 = .ok (.aload_n 3, 1) := by decide +kernel
theorem dL_law_266 : decode cL_law 266 = .ok (.invokestatic 102, 3) := by decide +kernel
theorem dL_law_269 : decode cL_law 269 = .ok (.istore 5, 2) := by decide +kernel
theorem dL_law_271 : decode cL_law 271 = .ok (.aload_n 2, 1) := by decide +kernel
theorem dL_law_272 : decode cL_law 272 = .ok (.aload_n 0, 1) := by decide +kernel
theorem dL_law_273 : decode cL_law 273 = .ok (.iload 4, 2) := by decide +kernel
theorem dL_law_275 : decode cL_law 275 = .ok (.iconst 1, 1) := by decide +kernel
theorem dL_law_276 : decode cL_law 276 = .ok (.iadd, 1) := by decide +kernel
theorem dL_law_277 : decode cL_law 277 = .ok (.iaload, 1) := by decide +kernel
theorem dL_law_278 : decode cL_law 278 = .ok (.aload_n 0, 1) := by decide +kernel
theorem dL_law_279 : decode cL_law 279 = .ok (.iload 4, 2) := by decide +kernel
theorem dL_law_281 : decode cL_law 281 = .ok (.iconst 2, 1) := by decide +kernel
theorem dL_law_282 : decode cL_law 282 = .ok (.iadd, 1) := by decide +kernel
theorem dL_law_283 : decode cL_law 283 = .ok (.iaload, 1) := by decide +kernel
theorem dL_law_284 : decode cL_law 284 = .ok (.aload_n 0, 1) := by decide +kernel
theorem dL_law_285 : decode cL_law 285 = .ok (.iload 4, 2) := by decide +kernel
theorem dL_law_287 : decode cL_law 287 = .ok (.iconst 3, 1) := by decide +kernel
theorem dL_law_288 : decode cL_law 288 = .ok (.iadd, 1) := by decide +kernel
theorem dL_law_289 : decode cL_law 289 = .ok (.iaload, 1) := by decide +kernel
theorem dL_law_290 : decode cL_law 290 = .ok (.aload_n 0, 1) := by decide +kernel
theorem dL_law_291 : decode cL_law 291 = .ok (.iload 4, 2) := by decide +kernel
theorem dL_law_293 : decode cL_law 293 = .ok (.iconst 4, 1) := by decide +kernel
theorem dL_law_294 : decode cL_law 294 = .ok (.iadd, 1) := by decide +kernel
theorem dL_law_295 : decode cL_law 295 = .ok (.iaload, 1) := by decide +kernel
theorem dL_law_296 : decode cL_law 296 = .ok (.invokevirtual 104, 3) := by decide +kernel
theorem dL_law_299 : decode cL_law 299 = .ok (.istore 6, 2) := by decide +kernel
theorem dL_law_301 : decode cL_law 301 = .ok (.aload_n 2, 1) := by decide +kernel
theorem dL_law_302 : decode cL_law 302 = .ok (.invokevirtual 98, 3) := by decide +kernel
theorem dL_law_305 : decode cL_law 305 = .ok (.iload 5, 2) := by decide +kernel
theorem dL_law_307 : decode cL_law 307 = .ok (.if_icmp .eq 5, 3) := by decide +kernel
theorem dL_law_310 : decode cL_law 310 = .ok (.iconst 0, 1) := by decide +kernel
theorem dL_law_311 : decode cL_law 311 = .ok (.ireturn, 1) := by decide +kernel
theorem dL_law_312 : decode cL_law 312 = .ok (.iload 5, 2) := by decide +kernel
theorem dL_law_314 : decode cL_law 314 = .ok (.ifCond .ne 15, 3) := by decide +kernel
theorem dL_law_317 : decode cL_law 317 = .ok (.aload_n 3, 1) := by decide +kernel
theorem dL_law_318 : decode cL_law 318 = .ok (.iconst 0, 1) := by decide +kernel
theorem dL_law_319 : decode cL_law 319 = .ok (.laload, 1) := by decide +kernel
theorem dL_law_320 : decode cL_law 320 = .ok (.iload 6, 2) := by decide +kernel
theorem dL_law_322 : decode cL_law 322 = .ok (.i2l, 1) := by decide +kernel
theorem dL_law_323 : decode cL_law 323 = .ok (.lcmp, 1) := by decide +kernel
theorem dL_law_324 : decode cL_law 324 = .ok (.ifCond .eq 5, 3) := by decide +kernel
theorem dL_law_327 : decode cL_law 327 = .ok (.iconst 0, 1) := by decide +kernel
theorem dL_law_328 : decode cL_law 328 = .ok (.ireturn, 1) := by decide +kernel
theorem dL_law_329 : decode cL_law 329 = .ok (.goto 1426, 3) := by decide +kernel
theorem dL_law_332 : decode cL_law 332 = .ok (.aload_n 1, 1) := by decide +kernel
theorem dL_law_333 : decode cL_law 333 = .ok (.aload_n 0, 1) := by decide +kernel
theorem dL_law_334 : decode cL_law 334 = .ok (.iload 4, 2) := by decide +kernel
theorem dL_law_336 : decode cL_law 336 = .ok (.iconst 1, 1) := by decide +kernel
theorem dL_law_337 : decode cL_law 337 = .ok (.iadd, 1) := by decide +kernel
theorem dL_law_338 : decode cL_law 338 = .ok (.iaload, 1) := by decide +kernel
theorem dL_law_339 : decode cL_law 339 = .ok (.aload_n 0, 1) := by decide +kernel
theorem dL_law_340 : decode cL_law 340 = .ok (.iload 4, 2) := by decide +kernel
theorem dL_law_342 : decode cL_law 342 = .ok (.iconst 2, 1) := by decide +kernel
theorem dL_law_343 : decode cL_law 343 = .ok (.iadd, 1) := by decide +kernel
theorem dL_law_344 : decode cL_law 344 = .ok (.iaload, 1) := by decide +kernel
theorem dL_law_345 : decode cL_law 345 = .ok (.aload_n 0, 1) := by decide +kernel
theorem dL_law_346 : decode cL_law 346 = .ok (.iload 4, 2) := by decide +kernel
theorem dL_law_348 : decode cL_law 348 = .ok (.iconst 3, 1) := by decide +kernel
theorem dL_law_349 : decode cL_law 349 = .ok (.iadd, 1) := by decide +kernel
theorem dL_law_350 : decode cL_law 350 = .ok (.iaload, 1) := by decide +kernel
theorem dL_law_351 : decode cL_law 351 = .ok (.aload_n 3, 1) := by decide +kernel
theorem dL_law_352 : decode cL_law 352 = .ok (.invokestatic 105, 3) := by decide +kernel
theorem dL_law_355 : decode cL_law 355 = .ok (.istore 5, 2) := by decide +kernel
theorem dL_law_357 : decode cL_law 357 = .ok (.aload_n 2, 1) := by decide +kernel
theorem dL_law_358 : decode cL_law 358 = .ok (.aload_n 0, 1) := by decide +kernel
theorem dL_law_359 : decode cL_law 359 = .ok (.iload 4, 2) := by decide +kernel
theorem dL_law_361 : decode cL_law 361 = .ok (.iconst 1, 1) := by decide +kernel
theorem dL_law_362 : decode cL_law 362 = .ok (.iadd, 1) := by decide +kernel
theorem dL_law_363 : decode cL_law 363 = .ok (.iaload, 1) := by decide +kernel
theorem dL_law_364 : decode cL_law 364 = .ok (.aload_n 0, 1) := by decide +kernel
theorem dL_law_365 : decode cL_law 365 = .ok (.iload 4, 2) := by decide +kernel
theorem dL_law_367 : decode cL_law 367 = .ok (.iconst 2, 1) := by decide +kernel
theorem dL_law_368 : decode cL_law 368 = .ok (.iadd, 1) := by decide +kernel
theorem dL_law_369 : decode cL_law 369 = .ok (.iaload, 1) := by decide +kernel
theorem dL_law_370 : decode cL_law 370 = .ok (.aload_n 0, 1) := by decide +kernel
theorem dL_law_371 : decode cL_law 371 = .ok (.iload 4, 2) := by decide +kernel
theorem dL_law_373 : decode cL_law 373 = .ok (.iconst 3, 1) := by decide +kernel
theorem dL_law_374 : decode cL_law 374 = .ok (.iadd, 1) := by decide +kernel
theorem dL_law_375 : decode cL_law 375 = .ok (.iaload, 1) := by decide +kernel
theorem dL_law_376 : decode cL_law 376 = .ok (.invokevirtual 108, 3) := by decide +kernel
theorem dL_law_379 : decode cL_law 379 = .ok (.istore 6, 2) := by decide +kernel
theorem dL_law_381 : decode cL_law 381 = .ok (.aload_n 2, 1) := by decide +kernel
theorem dL_law_382 : decode cL_law 382 = .ok (.invokevirtual 98, 3) := by decide +kernel
theorem dL_law_385 : decode cL_law 385 = .ok (.iload 5, 2) := by decide +kernel
theorem dL_law_387 : decode cL_law 387 = .ok (.if_icmp .eq 5, 3) := by decide +kernel
theorem dL_law_390 : decode cL_law 390 = .ok (.iconst 0, 1) := by decide +kernel
theorem dL_law_391 : decode cL_law 391 = .ok (.ireturn, 1) := by decide +kernel
theorem dL_law_392 : decode cL_law 392 = .ok (.iload 5, 2) := by decide +kernel
theorem dL_law_394 : decode cL_law 394 = .ok (.ifCond .ne 15, 3) := by decide +kernel
theorem dL_law_397 : decode cL_law 397 = .ok (.aload_n 3, 1) := by decide +kernel
theorem dL_law_398 : decode cL_law 398 = .ok (.iconst 0, 1) := by decide +kernel
theorem dL_law_399 : decode cL_law 399 = .ok (.laload, 1) := by decide +kernel
theorem dL_law_400 : decode cL_law 400 = .ok (.iload 6, 2) := by decide +kernel
theorem dL_law_402 : decode cL_law 402 = .ok (.i2l, 1) := by decide +kernel
theorem dL_law_403 : decode cL_law 403 = .ok (.lcmp, 1) := by decide +kernel
theorem dL_law_404 : decode cL_law 404 = .ok (.ifCond .eq 5, 3) := by decide +kernel
theorem dL_law_407 : decode cL_law 407 = .ok (.iconst 0, 1) := by decide +kernel
theorem dL_law_408 : decode cL_law 408 = .ok (.ireturn, 1) := by decide +kernel
theorem dL_law_409 : decode cL_law 409 = .ok (.goto 1346, 3) := by decide +kernel
theorem dL_law_412 : decode cL_law 412 = .ok (.aload_n 1, 1) := by decide +kernel
theorem dL_law_413 : decode cL_law 413 = .ok (.aload_n 0, 1) := by decide +kernel
theorem dL_law_414 : decode cL_law 414 = .ok (.iload 4, 2) := by decide +kernel
theorem dL_law_416 : decode cL_law 416 = .ok (.iconst 1, 1) := by decide +kernel
theorem dL_law_417 : decode cL_law 417 = .ok (.iadd, 1) := by decide +kernel
theorem dL_law_418 : decode cL_law 418 = .ok (.iaload, 1) := by decide +kernel
theorem dL_law_419 : decode cL_law 419 = .ok (.aload_n 0, 1) := by decide +kernel
theorem dL_law_420 : decode cL_law 420 = .ok (.iload 4, 2) := by decide +kernel
theorem dL_law_422 : decode cL_law 422 = .ok (.iconst 2, 1) := by decide +kernel
theorem dL_law_423 : decode cL_law 423 = .ok (.iadd, 1) := by decide +kernel
theorem dL_law_424 : decode cL_law 424 = .ok (.iaload, 1) := by decide +kernel
theorem dL_law_425 : decode cL_law 425 = .ok (.aload_n 0, 1) := by decide +kernel
theorem dL_law_426 : decode cL_law 426 = .ok (.iload 4, 2) := by decide +kernel
theorem dL_law_428 : decode cL_law 428 = .ok (.iconst 3, 1) := by decide +kernel
theorem dL_law_429 : decode cL_law 429 = .ok (.iadd, 1) := by decide +kernel
theorem dL_law_430 : decode cL_law 430 = .ok (.iaload, 1) := by decide +kernel
theorem dL_law_431 : decode cL_law 431 = .ok (.aload_n 3, 1) := by decide +kernel
theorem dL_law_432 : decode cL_law 432 = .ok (.invokestatic 109, 3) := by decide +kernel
theorem dL_law_435 : decode cL_law 435 = .ok (.istore 5, 2) := by decide +kernel
theorem dL_law_437 : decode cL_law 437 = .ok (.aload_n 2, 1) := by decide +kernel
theorem dL_law_438 : decode cL_law 438 = .ok (.aload_n 0, 1) := by decide +kernel
theorem dL_law_439 : decode cL_law 439 = .ok (.iload 4, 2) := by decide +kernel
theorem dL_law_441 : decode cL_law 441 = .ok (.iconst 1, 1) := by decide +kernel
theorem dL_law_442 : decode cL_law 442 = .ok (.iadd, 1) := by decide +kernel
theorem dL_law_443 : decode cL_law 443 = .ok (.iaload, 1) := by decide +kernel
theorem dL_law_444 : decode cL_law 444 = .ok (.aload_n 0, 1) := by decide +kernel
theorem dL_law_445 : decode cL_law 445 = .ok (.iload 4, 2) := by decide +kernel
theorem dL_law_447 : decode cL_law 447 = .ok (.iconst 2, 1) := by decide +kernel
theorem dL_law_448 : decode cL_law 448 = .ok (.iadd, 1) := by decide +kernel
theorem dL_law_449 : decode cL_law 449 = .ok (.iaload, 1) := by decide +kernel
theorem dL_law_450 : decode cL_law 450 = .ok (.aload_n 0, 1) := by decide +kernel
theorem dL_law_451 : decode cL_law 451 = .ok (.iload 4, 2) := by decide +kernel
theorem dL_law_453 : decode cL_law 453 = .ok (.iconst 3, 1) := by decide +kernel
theorem dL_law_454 : decode cL_law 454 = .ok (.iadd, 1) := by decide +kernel
theorem dL_law_455 : decode cL_law 455 = .ok (.iaload, 1) := by decide +kernel
theorem dL_law_456 : decode cL_law 456 = .ok (.invokevirtual 111, 3) := by decide +kernel
theorem dL_law_459 : decode cL_law 459 = .ok (.istore 6, 2) := by decide +kernel
theorem dL_law_461 : decode cL_law 461 = .ok (.aload_n 2, 1) := by decide +kernel
theorem dL_law_462 : decode cL_law 462 = .ok (.invokevirtual 98, 3) := by decide +kernel
theorem dL_law_465 : decode cL_law 465 = .ok (.iload 5, 2) := by decide +kernel
theorem dL_law_467 : decode cL_law 467 = .ok (.if_icmp .eq 5, 3) := by decide +kernel
theorem dL_law_470 : decode cL_law 470 = .ok (.iconst 0, 1) := by decide +kernel
theorem dL_law_471 : decode cL_law 471 = .ok (.ireturn, 1) := by decide +kernel
theorem dL_law_472 : decode cL_law 472 = .ok (.iload 5, 2) := by decide +kernel
theorem dL_law_474 : decode cL_law 474 = .ok (.ifCond .ne 22, 3) := by decide +kernel
theorem dL_law_477 : decode cL_law 477 = .ok (.aload_n 3, 1) := by decide +kernel
theorem dL_law_478 : decode cL_law 478 = .ok (.iconst 0, 1) := by decide +kernel
theorem dL_law_479 : decode cL_law 479 = .ok (.laload, 1) := by decide +kernel
theorem dL_law_480 : decode cL_law 480 = .ok (.iload 6, 2) := by decide +kernel
theorem dL_law_482 : decode cL_law 482 = .ok (.ifCond .eq 7, 3) := by decide +kernel
theorem dL_law_485 : decode cL_law 485 = .ok (.lconst 1, 1) := by decide +kernel
theorem dL_law_486 : decode cL_law 486 = .ok (.goto 4, 3) := by decide +kernel
theorem dL_law_489 : decode cL_law 489 = .ok (.lconst 0, 1) := by decide +kernel
theorem dL_law_490 : decode cL_law 490 = .ok (.lcmp, 1) := by decide +kernel
theorem dL_law_491 : decode cL_law 491 = .ok (.ifCond .eq 5, 3) := by decide +kernel
theorem dL_law_494 : decode cL_law 494 = .ok (.iconst 0, 1) := by decide +kernel
theorem dL_law_495 : decode cL_law 495 = .ok (.ireturn, 1) := by decide +kernel
theorem dL_law_496 : decode cL_law 496 = .ok (.goto 1259, 3) := by decide +kernel
theorem dL_law_499 : decode cL_law 499 = .ok (.aload_n 1, 1) := by decide +kernel
theorem dL_law_500 : decode cL_law 500 = .ok (.aload_n 0, 1) := by decide +kernel
theorem dL_law_501 : decode cL_law 501 = .ok (.iload 4, 2) := by decide +kernel
theorem dL_law_503 : decode cL_law 503 = .ok (.iconst 1, 1) := by decide +kernel
theorem dL_law_504 : decode cL_law 504 = .ok (.iadd, 1) := by decide +kernel
theorem dL_law_505 : decode cL_law 505 = .ok (.iaload, 1) := by decide +kernel
theorem dL_law_506 : decode cL_law 506 = .ok (.aload_n 0, 1) := by decide +kernel
theorem dL_law_507 : decode cL_law 507 = .ok (.iload 4, 2) := by decide +kernel
theorem dL_law_509 : decode cL_law 509 = .ok (.iconst 2, 1) := by decide +kernel
theorem dL_law_510 : decode cL_law 510 = .ok (.iadd, 1) := by decide +kernel
theorem dL_law_511 : decode cL_law 511 = .ok (.iaload, 1) := by decide +kernel
theorem dL_law_512 : decode cL_law 512 = .ok (.aload_n 0, 1) := by decide +kernel
theorem dL_law_513 : decode cL_law 513 = .ok (.iload 4, 2) := by decide +kernel
theorem dL_law_515 : decode cL_law 515 = .ok (.iconst 3, 1) := by decide +kernel
theorem dL_law_516 : decode cL_law 516 = .ok (.iadd, 1) := by decide +kernel
theorem dL_law_517 : decode cL_law 517 = .ok (.iaload, 1) := by decide +kernel
theorem dL_law_518 : decode cL_law 518 = .ok (.aload_n 3, 1) := by decide +kernel
theorem dL_law_519 : decode cL_law 519 = .ok (.invokestatic 112, 3) := by decide +kernel
theorem dL_law_522 : decode cL_law 522 = .ok (.istore 5, 2) := by decide +kernel
theorem dL_law_524 : decode cL_law 524 = .ok (.aload_n 2, 1) := by decide +kernel
theorem dL_law_525 : decode cL_law 525 = .ok (.aload_n 0, 1) := by decide +kernel
theorem dL_law_526 : decode cL_law 526 = .ok (.iload 4, 2) := by decide +kernel
theorem dL_law_528 : decode cL_law 528 = .ok (.iconst 1, 1) := by decide +kernel
theorem dL_law_529 : decode cL_law 529 = .ok (.iadd, 1) := by decide +kernel
theorem dL_law_530 : decode cL_law 530 = .ok (.iaload, 1) := by decide +kernel
theorem dL_law_531 : decode cL_law 531 = .ok (.aload_n 0, 1) := by decide +kernel
theorem dL_law_532 : decode cL_law 532 = .ok (.iload 4, 2) := by decide +kernel
theorem dL_law_534 : decode cL_law 534 = .ok (.iconst 2, 1) := by decide +kernel
theorem dL_law_535 : decode cL_law 535 = .ok (.iadd, 1) := by decide +kernel
theorem dL_law_536 : decode cL_law 536 = .ok (.iaload, 1) := by decide +kernel
theorem dL_law_537 : decode cL_law 537 = .ok (.aload_n 0, 1) := by decide +kernel
theorem dL_law_538 : decode cL_law 538 = .ok (.iload 4, 2) := by decide +kernel
theorem dL_law_540 : decode cL_law 540 = .ok (.iconst 3, 1) := by decide +kernel
theorem dL_law_541 : decode cL_law 541 = .ok (.iadd, 1) := by decide +kernel
theorem dL_law_542 : decode cL_law 542 = .ok (.iaload, 1) := by decide +kernel
theorem dL_law_543 : decode cL_law 543 = .ok (.invokevirtual 114, 3) := by decide +kernel
theorem dL_law_546 : decode cL_law 546 = .ok (.istore 6, 2) := by decide +kernel
theorem dL_law_548 : decode cL_law 548 = .ok (.aload_n 2, 1) := by decide +kernel
theorem dL_law_549 : decode cL_law 549 = .ok (.invokevirtual 98, 3) := by decide +kernel
theorem dL_law_552 : decode cL_law 552 = .ok (.iload 5, 2) := by decide +kernel
theorem dL_law_554 : decode cL_law 554 = .ok (.if_icmp .eq 5, 3) := by decide +kernel
theorem dL_law_557 : decode cL_law 557 = .ok (.iconst 0, 1) := by decide +kernel
theorem dL_law_558 : decode cL_law 558 = .ok (.ireturn, 1) := by decide +kernel
theorem dL_law_559 : decode cL_law 559 = .ok (.iload 5, 2) := by decide +kernel
theorem dL_law_561 : decode cL_law 561 = .ok (.ifCond .ne 15, 3) := by decide +kernel
theorem dL_law_564 : decode cL_law 564 = .ok (.aload_n 3, 1) := by decide +kernel
theorem dL_law_565 : decode cL_law 565 = .ok (.iconst 0, 1) := by decide +kernel
theorem dL_law_566 : decode cL_law 566 = .ok (.laload, 1) := by decide +kernel
theorem dL_law_567 : decode cL_law 567 = .ok (.iload 6, 2) := by decide +kernel
theorem dL_law_569 : decode cL_law 569 = .ok (.i2l, 1) := by decide +kernel
theorem dL_law_570 : decode cL_law 570 = .ok (.lcmp, 1) := by decide +kernel
theorem dL_law_571 : decode cL_law 571 = .ok (.ifCond .eq 5, 3) := by decide +kernel
theorem dL_law_574 : decode cL_law 574 = .ok (.iconst 0, 1) := by decide +kernel
theorem dL_law_575 : decode cL_law 575 = .ok (.ireturn, 1) := by decide +kernel
theorem dL_law_576 : decode cL_law 576 = .ok (.goto 1179, 3) := by decide +kernel
theorem dL_law_579 : decode cL_law 579 = .ok (.aload_n 1, 1) := by decide +kernel
theorem dL_law_580 : decode cL_law 580 = .ok (.aload_n 0, 1) := by decide +kernel
theorem dL_law_581 : decode cL_law 581 = .ok (.iload 4, 2) := by decide +kernel
theorem dL_law_583 : decode cL_law 583 = .ok (.iconst 1, 1) := by decide +kernel
theorem dL_law_584 : decode cL_law 584 = .ok (.iadd, 1) := by decide +kernel
theorem dL_law_585 : decode cL_law 585 = .ok (.iaload, 1) := by decide +kernel
theorem dL_law_586 : decode cL_law 586 = .ok (.aload_n 3, 1) := by decide +kernel
theorem dL_law_587 : decode cL_law 587 = .ok (.invokestatic 115, 3) := by decide +kernel
theorem dL_law_590 : decode cL_law 590 = .ok (.istore 5, 2) := by decide +kernel
theorem dL_law_592 : decode cL_law 592 = .ok (.aload_n 2, 1) := by decide +kernel
theorem dL_law_593 : decode cL_law 593 = .ok (.aload_n 0, 1) := by decide +kernel
theorem dL_law_594 : decode cL_law 594 = .ok (.iload 4, 2) := by decide +kernel
theorem dL_law_596 : decode cL_law 596 = .ok (.iconst 1, 1) := by decide +kernel
theorem dL_law_597 : decode cL_law 597 = .ok (.iadd, 1) := by decide +kernel
theorem dL_law_598 : decode cL_law 598 = .ok (.iaload, 1) := by decide +kernel
theorem dL_law_599 : decode cL_law 599 = .ok (.invokevirtual 118, 3) := by decide +kernel
theorem dL_law_602 : decode cL_law 602 = .ok (.istore 6, 2) := by decide +kernel
theorem dL_law_604 : decode cL_law 604 = .ok (.aload_n 2, 1) := by decide +kernel
theorem dL_law_605 : decode cL_law 605 = .ok (.invokevirtual 98, 3) := by decide +kernel
theorem dL_law_608 : decode cL_law 608 = .ok (.iload 5, 2) := by decide +kernel
theorem dL_law_610 : decode cL_law 610 = .ok (.if_icmp .eq 5, 3) := by decide +kernel
theorem dL_law_613 : decode cL_law 613 = .ok (.iconst 0, 1) := by decide +kernel
theorem dL_law_614 : decode cL_law 614 = .ok (.ireturn, 1) := by decide +kernel
theorem dL_law_615 : decode cL_law 615 = .ok (.iload 5, 2) := by decide +kernel
theorem dL_law_617 : decode cL_law 617 = .ok (.ifCond .ne 15, 3) := by decide +kernel
theorem dL_law_620 : decode cL_law 620 = .ok (.aload_n 3, 1) := by decide +kernel
theorem dL_law_621 : decode cL_law 621 = .ok (.iconst 0, 1) := by decide +kernel
theorem dL_law_622 : decode cL_law 622 = .ok (.laload, 1) := by decide +kernel
theorem dL_law_623 : decode cL_law 623 = .ok (.iload 6, 2) := by decide +kernel
theorem dL_law_625 : decode cL_law 625 = .ok (.i2l, 1) := by decide +kernel
theorem dL_law_626 : decode cL_law 626 = .ok (.lcmp, 1) := by decide +kernel
theorem dL_law_627 : decode cL_law 627 = .ok (.ifCond .eq 5, 3) := by decide +kernel
theorem dL_law_630 : decode cL_law 630 = .ok (.iconst 0, 1) := by decide +kernel
theorem dL_law_631 : decode cL_law 631 = .ok (.ireturn, 1) := by decide +kernel
theorem dL_law_632 : decode cL_law 632 = .ok (.goto 1123, 3) := by decide +kernel
theorem dL_law_635 : decode cL_law 635 = .ok (.aload_n 1, 1) := by decide +kernel
theorem dL_law_636 : decode cL_law 636 = .ok (.invokevirtual 119, 3) := by decide +kernel
theorem dL_law_639 : decode cL_law 639 = .ok (.aload_n 2, 1) := by decide +kernel
theorem dL_law_640 : decode cL_law 640 = .ok (.invokevirtual 122, 3) := by decide +kernel
theorem dL_law_643 : decode cL_law 643 = .ok (.if_icmp .eq 1112, 3) := by decide +kernel
theorem dL_law_646 : decode cL_law 646 = .ok (.iconst 0, 1) := by decide +kernel
theorem dL_law_647 : decode cL_law 647 = .ok (.ireturn, 1) := by decide +kernel
theorem dL_law_648 : decode cL_law 648 = .ok (.aload_n 1, 1) := by decide +kernel
theorem dL_law_649 : decode cL_law 649 = .ok (.aload_n 0, 1) := by decide +kernel
theorem dL_law_650 : decode cL_law 650 = .ok (.iload 4, 2) := by decide +kernel
theorem dL_law_652 : decode cL_law 652 = .ok (.iconst 1, 1) := by decide +kernel
theorem dL_law_653 : decode cL_law 653 = .ok (.iadd, 1) := by decide +kernel
theorem dL_law_654 : decode cL_law 654 = .ok (.iaload, 1) := by decide +kernel
theorem dL_law_655 : decode cL_law 655 = .ok (.aload_n 0, 1) := by decide +kernel
theorem dL_law_656 : decode cL_law 656 = .ok (.iload 4, 2) := by decide +kernel
theorem dL_law_658 : decode cL_law 658 = .ok (.iconst 2, 1) := by decide +kernel
theorem dL_law_659 : decode cL_law 659 = .ok (.iadd, 1) := by decide +kernel
theorem dL_law_660 : decode cL_law 660 = .ok (.iaload, 1) := by decide +kernel
theorem dL_law_661 : decode cL_law 661 = .ok (.aload_n 0, 1) := by decide +kernel
theorem dL_law_662 : decode cL_law 662 = .ok (.iload 4, 2) := by decide +kernel
theorem dL_law_664 : decode cL_law 664 = .ok (.iconst 3, 1) := by decide +kernel
theorem dL_law_665 : decode cL_law 665 = .ok (.iadd, 1) := by decide +kernel
theorem dL_law_666 : decode cL_law 666 = .ok (.iaload, 1) := by decide +kernel
theorem dL_law_667 : decode cL_law 667 = .ok (.aload_n 3, 1) := by decide +kernel
theorem dL_law_668 : decode cL_law 668 = .ok (.invokestatic 123, 3) := by decide +kernel
theorem dL_law_671 : decode cL_law 671 = .ok (.istore 5, 2) := by decide +kernel
theorem dL_law_673 : decode cL_law 673 = .ok (.aload_n 2, 1) := by decide +kernel
theorem dL_law_674 : decode cL_law 674 = .ok (.aload_n 0, 1) := by decide +kernel
theorem dL_law_675 : decode cL_law 675 = .ok (.iload 4, 2) := by decide +kernel
theorem dL_law_677 : decode cL_law 677 = .ok (.iconst 1, 1) := by decide +kernel
theorem dL_law_678 : decode cL_law 678 = .ok (.iadd, 1) := by decide +kernel
theorem dL_law_679 : decode cL_law 679 = .ok (.iaload, 1) := by decide +kernel
theorem dL_law_680 : decode cL_law 680 = .ok (.aload_n 0, 1) := by decide +kernel
theorem dL_law_681 : decode cL_law 681 = .ok (.iload 4, 2) := by decide +kernel
theorem dL_law_683 : decode cL_law 683 = .ok (.iconst 2, 1) := by decide +kernel
theorem dL_law_684 : decode cL_law 684 = .ok (.iadd, 1) := by decide +kernel
theorem dL_law_685 : decode cL_law 685 = .ok (.iaload, 1) := by decide +kernel
theorem dL_law_686 : decode cL_law 686 = .ok (.aload_n 0, 1) := by decide +kernel
theorem dL_law_687 : decode cL_law 687 = .ok (.iload 4, 2) := by decide +kernel
theorem dL_law_689 : decode cL_law 689 = .ok (.iconst 3, 1) := by decide +kernel
theorem dL_law_690 : decode cL_law 690 = .ok (.iadd, 1) := by decide +kernel
theorem dL_law_691 : decode cL_law 691 = .ok (.iaload, 1) := by decide +kernel
theorem dL_law_692 : decode cL_law 692 = .ok (.invokevirtual 125, 3) := by decide +kernel
theorem dL_law_695 : decode cL_law 695 = .ok (.istore 6, 2) := by decide +kernel
theorem dL_law_697 : decode cL_law 697 = .ok (.aload_n 2, 1) := by decide +kernel
theorem dL_law_698 : decode cL_law 698 = .ok (.invokevirtual 98, 3) := by decide +kernel
theorem dL_law_701 : decode cL_law 701 = .ok (.iload 5, 2) := by decide +kernel
theorem dL_law_703 : decode cL_law 703 = .ok (.if_icmp .eq 5, 3) := by decide +kernel
theorem dL_law_706 : decode cL_law 706 = .ok (.iconst 0, 1) := by decide +kernel
theorem dL_law_707 : decode cL_law 707 = .ok (.ireturn, 1) := by decide +kernel
theorem dL_law_708 : decode cL_law 708 = .ok (.iload 5, 2) := by decide +kernel
theorem dL_law_710 : decode cL_law 710 = .ok (.ifCond .ne 15, 3) := by decide +kernel
theorem dL_law_713 : decode cL_law 713 = .ok (.aload_n 3, 1) := by decide +kernel
theorem dL_law_714 : decode cL_law 714 = .ok (.iconst 0, 1) := by decide +kernel
theorem dL_law_715 : decode cL_law 715 = .ok (.laload, 1) := by decide +kernel
theorem dL_law_716 : decode cL_law 716 = .ok (.iload 6, 2) := by decide +kernel
theorem dL_law_718 : decode cL_law 718 = .ok (.i2l, 1) := by decide +kernel
theorem dL_law_719 : decode cL_law 719 = .ok (.lcmp, 1) := by decide +kernel
theorem dL_law_720 : decode cL_law 720 = .ok (.ifCond .eq 5, 3) := by decide +kernel
theorem dL_law_723 : decode cL_law 723 = .ok (.iconst 0, 1) := by decide +kernel
theorem dL_law_724 : decode cL_law 724 = .ok (.ireturn, 1) := by decide +kernel
theorem dL_law_725 : decode cL_law 725 = .ok (.goto 1030, 3) := by decide +kernel
theorem dL_law_728 : decode cL_law 728 = .ok (.aload_n 1, 1) := by decide +kernel
theorem dL_law_729 : decode cL_law 729 = .ok (.aload_n 0, 1) := by decide +kernel
theorem dL_law_730 : decode cL_law 730 = .ok (.iload 4, 2) := by decide +kernel
theorem dL_law_732 : decode cL_law 732 = .ok (.iconst 1, 1) := by decide +kernel
theorem dL_law_733 : decode cL_law 733 = .ok (.iadd, 1) := by decide +kernel
theorem dL_law_734 : decode cL_law 734 = .ok (.iaload, 1) := by decide +kernel
theorem dL_law_735 : decode cL_law 735 = .ok (.aload_n 0, 1) := by decide +kernel
theorem dL_law_736 : decode cL_law 736 = .ok (.iload 4, 2) := by decide +kernel
theorem dL_law_738 : decode cL_law 738 = .ok (.iconst 2, 1) := by decide +kernel
theorem dL_law_739 : decode cL_law 739 = .ok (.iadd, 1) := by decide +kernel
theorem dL_law_740 : decode cL_law 740 = .ok (.iaload, 1) := by decide +kernel
theorem dL_law_741 : decode cL_law 741 = .ok (.aload_n 0, 1) := by decide +kernel
theorem dL_law_742 : decode cL_law 742 = .ok (.iload 4, 2) := by decide +kernel
theorem dL_law_744 : decode cL_law 744 = .ok (.iconst 3, 1) := by decide +kernel
theorem dL_law_745 : decode cL_law 745 = .ok (.iadd, 1) := by decide +kernel
theorem dL_law_746 : decode cL_law 746 = .ok (.iaload, 1) := by decide +kernel
theorem dL_law_747 : decode cL_law 747 = .ok (.aload_n 3, 1) := by decide +kernel
theorem dL_law_748 : decode cL_law 748 = .ok (.invokestatic 126, 3) := by decide +kernel
theorem dL_law_751 : decode cL_law 751 = .ok (.istore 5, 2) := by decide +kernel
theorem dL_law_753 : decode cL_law 753 = .ok (.aload_n 2, 1) := by decide +kernel
theorem dL_law_754 : decode cL_law 754 = .ok (.aload_n 0, 1) := by decide +kernel
theorem dL_law_755 : decode cL_law 755 = .ok (.iload 4, 2) := by decide +kernel
theorem dL_law_757 : decode cL_law 757 = .ok (.iconst 1, 1) := by decide +kernel
theorem dL_law_758 : decode cL_law 758 = .ok (.iadd, 1) := by decide +kernel
theorem dL_law_759 : decode cL_law 759 = .ok (.iaload, 1) := by decide +kernel
theorem dL_law_760 : decode cL_law 760 = .ok (.aload_n 0, 1) := by decide +kernel
theorem dL_law_761 : decode cL_law 761 = .ok (.iload 4, 2) := by decide +kernel
theorem dL_law_763 : decode cL_law 763 = .ok (.iconst 2, 1) := by decide +kernel
theorem dL_law_764 : decode cL_law 764 = .ok (.iadd, 1) := by decide +kernel
theorem dL_law_765 : decode cL_law 765 = .ok (.iaload, 1) := by decide +kernel
theorem dL_law_766 : decode cL_law 766 = .ok (.aload_n 0, 1) := by decide +kernel
theorem dL_law_767 : decode cL_law 767 = .ok (.iload 4, 2) := by decide +kernel
theorem dL_law_769 : decode cL_law 769 = .ok (.iconst 3, 1) := by decide +kernel
theorem dL_law_770 : decode cL_law 770 = .ok (.iadd, 1) := by decide +kernel
theorem dL_law_771 : decode cL_law 771 = .ok (.iaload, 1) := by decide +kernel
theorem dL_law_772 : decode cL_law 772 = .ok (.invokevirtual 128, 3) := by decide +kernel
theorem dL_law_775 : decode cL_law 775 = .ok (.istore 6, 2) := by decide +kernel
theorem dL_law_777 : decode cL_law 777 = .ok (.aload_n 2, 1) := by decide +kernel
theorem dL_law_778 : decode cL_law 778 = .ok (.invokevirtual 98, 3) := by decide +kernel
theorem dL_law_781 : decode cL_law 781 = .ok (.iload 5, 2) := by decide +kernel
theorem dL_law_783 : decode cL_law 783 = .ok (.if_icmp .eq 5, 3) := by decide +kernel
theorem dL_law_786 : decode cL_law 786 = .ok (.iconst 0, 1) := by decide +kernel
theorem dL_law_787 : decode cL_law 787 = .ok (.ireturn, 1) := by decide +kernel
theorem dL_law_788 : decode cL_law 788 = .ok (.iload 5, 2) := by decide +kernel
theorem dL_law_790 : decode cL_law 790 = .ok (.ifCond .ne 15, 3) := by decide +kernel
theorem dL_law_793 : decode cL_law 793 = .ok (.aload_n 3, 1) := by decide +kernel
theorem dL_law_794 : decode cL_law 794 = .ok (.iconst 0, 1) := by decide +kernel
theorem dL_law_795 : decode cL_law 795 = .ok (.laload, 1) := by decide +kernel
theorem dL_law_796 : decode cL_law 796 = .ok (.iload 6, 2) := by decide +kernel
theorem dL_law_798 : decode cL_law 798 = .ok (.i2l, 1) := by decide +kernel
theorem dL_law_799 : decode cL_law 799 = .ok (.lcmp, 1) := by decide +kernel
theorem dL_law_800 : decode cL_law 800 = .ok (.ifCond .eq 5, 3) := by decide +kernel
theorem dL_law_803 : decode cL_law 803 = .ok (.iconst 0, 1) := by decide +kernel
theorem dL_law_804 : decode cL_law 804 = .ok (.ireturn, 1) := by decide +kernel
theorem dL_law_805 : decode cL_law 805 = .ok (.goto 950, 3) := by decide +kernel
theorem dL_law_808 : decode cL_law 808 = .ok (.aload_n 1, 1) := by decide +kernel
theorem dL_law_809 : decode cL_law 809 = .ok (.aload_n 0, 1) := by decide +kernel
theorem dL_law_810 : decode cL_law 810 = .ok (.iload 4, 2) := by decide +kernel
theorem dL_law_812 : decode cL_law 812 = .ok (.iconst 1, 1) := by decide +kernel
theorem dL_law_813 : decode cL_law 813 = .ok (.iadd, 1) := by decide +kernel
theorem dL_law_814 : decode cL_law 814 = .ok (.iaload, 1) := by decide +kernel
theorem dL_law_815 : decode cL_law 815 = .ok (.aload_n 0, 1) := by decide +kernel
theorem dL_law_816 : decode cL_law 816 = .ok (.iload 4, 2) := by decide +kernel
theorem dL_law_818 : decode cL_law 818 = .ok (.iconst 2, 1) := by decide +kernel
theorem dL_law_819 : decode cL_law 819 = .ok (.iadd, 1) := by decide +kernel
theorem dL_law_820 : decode cL_law 820 = .ok (.iaload, 1) := by decide +kernel
theorem dL_law_821 : decode cL_law 821 = .ok (.aload_n 0, 1) := by decide +kernel
theorem dL_law_822 : decode cL_law 822 = .ok (.iload 4, 2) := by decide +kernel
theorem dL_law_824 : decode cL_law 824 = .ok (.iconst 3, 1) := by decide +kernel
theorem dL_law_825 : decode cL_law 825 = .ok (.iadd, 1) := by decide +kernel
theorem dL_law_826 : decode cL_law 826 = .ok (.iaload, 1) := by decide +kernel
theorem dL_law_827 : decode cL_law 827 = .ok (.aload_n 3, 1) := by decide +kernel
theorem dL_law_828 : decode cL_law 828 = .ok (.invokestatic 129, 3) := by decide +kernel
theorem dL_law_831 : decode cL_law 831 = .ok (.istore 5, 2) := by decide +kernel
theorem dL_law_833 : decode cL_law 833 = .ok (.aload_n 2, 1) := by decide +kernel
theorem dL_law_834 : decode cL_law 834 = .ok (.aload_n 0, 1) := by decide +kernel
theorem dL_law_835 : decode cL_law 835 = .ok (.iload 4, 2) := by decide +kernel
theorem dL_law_837 : decode cL_law 837 = .ok (.iconst 1, 1) := by decide +kernel
theorem dL_law_838 : decode cL_law 838 = .ok (.iadd, 1) := by decide +kernel
theorem dL_law_839 : decode cL_law 839 = .ok (.iaload, 1) := by decide +kernel
theorem dL_law_840 : decode cL_law 840 = .ok (.aload_n 0, 1) := by decide +kernel
theorem dL_law_841 : decode cL_law 841 = .ok (.iload 4, 2) := by decide +kernel
theorem dL_law_843 : decode cL_law 843 = .ok (.iconst 2, 1) := by decide +kernel
theorem dL_law_844 : decode cL_law 844 = .ok (.iadd, 1) := by decide +kernel
theorem dL_law_845 : decode cL_law 845 = .ok (.iaload, 1) := by decide +kernel
theorem dL_law_846 : decode cL_law 846 = .ok (.aload_n 0, 1) := by decide +kernel
theorem dL_law_847 : decode cL_law 847 = .ok (.iload 4, 2) := by decide +kernel
theorem dL_law_849 : decode cL_law 849 = .ok (.iconst 3, 1) := by decide +kernel
theorem dL_law_850 : decode cL_law 850 = .ok (.iadd, 1) := by decide +kernel
theorem dL_law_851 : decode cL_law 851 = .ok (.iaload, 1) := by decide +kernel
theorem dL_law_852 : decode cL_law 852 = .ok (.invokevirtual 131, 3) := by decide +kernel
theorem dL_law_855 : decode cL_law 855 = .ok (.istore 6, 2) := by decide +kernel
theorem dL_law_857 : decode cL_law 857 = .ok (.aload_n 2, 1) := by decide +kernel
theorem dL_law_858 : decode cL_law 858 = .ok (.invokevirtual 98, 3) := by decide +kernel
theorem dL_law_861 : decode cL_law 861 = .ok (.iload 5, 2) := by decide +kernel
theorem dL_law_863 : decode cL_law 863 = .ok (.if_icmp .eq 5, 3) := by decide +kernel
theorem dL_law_866 : decode cL_law 866 = .ok (.iconst 0, 1) := by decide +kernel
theorem dL_law_867 : decode cL_law 867 = .ok (.ireturn, 1) := by decide +kernel
theorem dL_law_868 : decode cL_law 868 = .ok (.iload 5, 2) := by decide +kernel
theorem dL_law_870 : decode cL_law 870 = .ok (.ifCond .ne 15, 3) := by decide +kernel
theorem dL_law_873 : decode cL_law 873 = .ok (.aload_n 3, 1) := by decide +kernel
theorem dL_law_874 : decode cL_law 874 = .ok (.iconst 0, 1) := by decide +kernel
theorem dL_law_875 : decode cL_law 875 = .ok (.laload, 1) := by decide +kernel
theorem dL_law_876 : decode cL_law 876 = .ok (.iload 6, 2) := by decide +kernel
theorem dL_law_878 : decode cL_law 878 = .ok (.i2l, 1) := by decide +kernel
theorem dL_law_879 : decode cL_law 879 = .ok (.lcmp, 1) := by decide +kernel
theorem dL_law_880 : decode cL_law 880 = .ok (.ifCond .eq 5, 3) := by decide +kernel
theorem dL_law_883 : decode cL_law 883 = .ok (.iconst 0, 1) := by decide +kernel
theorem dL_law_884 : decode cL_law 884 = .ok (.ireturn, 1) := by decide +kernel
theorem dL_law_885 : decode cL_law 885 = .ok (.goto 870, 3) := by decide +kernel
theorem dL_law_888 : decode cL_law 888 = .ok (.aload_n 1, 1) := by decide +kernel
theorem dL_law_889 : decode cL_law 889 = .ok (.aload_n 0, 1) := by decide +kernel
theorem dL_law_890 : decode cL_law 890 = .ok (.iload 4, 2) := by decide +kernel
theorem dL_law_892 : decode cL_law 892 = .ok (.iconst 1, 1) := by decide +kernel
theorem dL_law_893 : decode cL_law 893 = .ok (.iadd, 1) := by decide +kernel
theorem dL_law_894 : decode cL_law 894 = .ok (.iaload, 1) := by decide +kernel
theorem dL_law_895 : decode cL_law 895 = .ok (.aload_n 0, 1) := by decide +kernel
theorem dL_law_896 : decode cL_law 896 = .ok (.iload 4, 2) := by decide +kernel
theorem dL_law_898 : decode cL_law 898 = .ok (.iconst 2, 1) := by decide +kernel
theorem dL_law_899 : decode cL_law 899 = .ok (.iadd, 1) := by decide +kernel
theorem dL_law_900 : decode cL_law 900 = .ok (.iaload, 1) := by decide +kernel
theorem dL_law_901 : decode cL_law 901 = .ok (.aload_n 3, 1) := by decide +kernel
theorem dL_law_902 : decode cL_law 902 = .ok (.invokestatic 132, 3) := by decide +kernel
theorem dL_law_905 : decode cL_law 905 = .ok (.istore 5, 2) := by decide +kernel
theorem dL_law_907 : decode cL_law 907 = .ok (.aload_n 2, 1) := by decide +kernel
theorem dL_law_908 : decode cL_law 908 = .ok (.aload_n 0, 1) := by decide +kernel
theorem dL_law_909 : decode cL_law 909 = .ok (.iload 4, 2) := by decide +kernel
theorem dL_law_911 : decode cL_law 911 = .ok (.iconst 1, 1) := by decide +kernel
theorem dL_law_912 : decode cL_law 912 = .ok (.iadd, 1) := by decide +kernel
theorem dL_law_913 : decode cL_law 913 = .ok (.iaload, 1) := by decide +kernel
theorem dL_law_914 : decode cL_law 914 = .ok (.aload_n 0, 1) := by decide +kernel
theorem dL_law_915 : decode cL_law 915 = .ok (.iload 4, 2) := by decide +kernel
theorem dL_law_917 : decode cL_law 917 = .ok (.iconst 2, 1) := by decide +kernel
theorem dL_law_918 : decode cL_law 918 = .ok (.iadd, 1) := by decide +kernel
theorem dL_law_919 : decode cL_law 919 = .ok (.iaload, 1) := by decide +kernel
theorem dL_law_920 : decode cL_law 920 = .ok (.invokevirtual 135, 3) := by decide +kernel
theorem dL_law_923 : decode cL_law 923 = .ok (.istore 6, 2) := by decide +kernel
theorem dL_law_925 : decode cL_law 925 = .ok (.aload_n 2, 1) := by decide +kernel
theorem dL_law_926 : decode cL_law 926 = .ok (.invokevirtual 98, 3) := by decide +kernel
theorem dL_law_929 : decode cL_law 929 = .ok (.iload 5, 2) := by decide +kernel
theorem dL_law_931 : decode cL_law 931 = .ok (.if_icmp .eq 5, 3) := by decide +kernel
theorem dL_law_934 : decode cL_law 934 = .ok (.iconst 0, 1) := by decide +kernel
theorem dL_law_935 : decode cL_law 935 = .ok (.ireturn, 1) := by decide +kernel
theorem dL_law_936 : decode cL_law 936 = .ok (.iload 5, 2) := by decide +kernel
theorem dL_law_938 : decode cL_law 938 = .ok (.ifCond .ne 15, 3) := by decide +kernel
theorem dL_law_941 : decode cL_law 941 = .ok (.aload_n 3, 1) := by decide +kernel
theorem dL_law_942 : decode cL_law 942 = .ok (.iconst 0, 1) := by decide +kernel
theorem dL_law_943 : decode cL_law 943 = .ok (.laload, 1) := by decide +kernel
theorem dL_law_944 : decode cL_law 944 = .ok (.iload 6, 2) := by decide +kernel
theorem dL_law_946 : decode cL_law 946 = .ok (.i2l, 1) := by decide +kernel
theorem dL_law_947 : decode cL_law 947 = .ok (.lcmp, 1) := by decide +kernel
theorem dL_law_948 : decode cL_law 948 = .ok (.ifCond .eq 5, 3) := by decide +kernel
theorem dL_law_951 : decode cL_law 951 = .ok (.iconst 0, 1) := by decide +kernel
theorem dL_law_952 : decode cL_law 952 = .ok (.ireturn, 1) := by decide +kernel
theorem dL_law_953 : decode cL_law 953 = .ok (.goto 802, 3) := by decide +kernel
theorem dL_law_956 : decode cL_law 956 = .ok (.aload_n 1, 1) := by decide +kernel
theorem dL_law_957 : decode cL_law 957 = .ok (.aload_n 0, 1) := by decide +kernel
theorem dL_law_958 : decode cL_law 958 = .ok (.iload 4, 2) := by decide +kernel
theorem dL_law_960 : decode cL_law 960 = .ok (.iconst 1, 1) := by decide +kernel
theorem dL_law_961 : decode cL_law 961 = .ok (.iadd, 1) := by decide +kernel
theorem dL_law_962 : decode cL_law 962 = .ok (.iaload, 1) := by decide +kernel
theorem dL_law_963 : decode cL_law 963 = .ok (.aload_n 0, 1) := by decide +kernel
theorem dL_law_964 : decode cL_law 964 = .ok (.iload 4, 2) := by decide +kernel
theorem dL_law_966 : decode cL_law 966 = .ok (.iconst 2, 1) := by decide +kernel
theorem dL_law_967 : decode cL_law 967 = .ok (.iadd, 1) := by decide +kernel
theorem dL_law_968 : decode cL_law 968 = .ok (.iaload, 1) := by decide +kernel
theorem dL_law_969 : decode cL_law 969 = .ok (.ifCond .eq 7, 3) := by decide +kernel
theorem dL_law_972 : decode cL_law 972 = .ok (.iconst 1, 1) := by decide +kernel
theorem dL_law_973 : decode cL_law 973 = .ok (.goto 4, 3) := by decide +kernel
theorem dL_law_976 : decode cL_law 976 = .ok (.iconst 0, 1) := by decide +kernel
theorem dL_law_977 : decode cL_law 977 = .ok (.aload_n 3, 1) := by decide +kernel
theorem dL_law_978 : decode cL_law 978 = .ok (.invokestatic 136, 3) := by decide +kernel
theorem dL_law_981 : decode cL_law 981 = .ok (.istore 5, 2) := by decide +kernel
theorem dL_law_983 : decode cL_law 983 = .ok (.aload_n 2, 1) := by decide +kernel
theorem dL_law_984 : decode cL_law 984 = .ok (.aload_n 0, 1) := by decide +kernel
theorem dL_law_985 : decode cL_law 985 = .ok (.iload 4, 2) := by decide +kernel
theorem dL_law_987 : decode cL_law 987 = .ok (.iconst 1, 1) := by decide +kernel
theorem dL_law_988 : decode cL_law 988 = .ok (.iadd, 1) := by decide +kernel
theorem dL_law_989 : decode cL_law 989 = .ok (.iaload, 1) := by decide +kernel
theorem dL_law_990 : decode cL_law 990 = .ok (.aload_n 0, 1) := by decide +kernel
theorem dL_law_991 : decode cL_law 991 = .ok (.iload 4, 2) := by decide +kernel
theorem dL_law_993 : decode cL_law 993 = .ok (.iconst 2, 1) := by decide +kernel
theorem dL_law_994 : decode cL_law 994 = .ok (.iadd, 1) := by decide +kernel
theorem dL_law_995 : decode cL_law 995 = .ok (.iaload, 1) := by decide +kernel
theorem dL_law_996 : decode cL_law 996 = .ok (.ifCond .eq 7, 3) := by decide +kernel
theorem dL_law_999 : decode cL_law 999 = .ok (.iconst 1, 1) := by decide +kernel
theorem dL_law_1000 : decode cL_law 1000 = .ok (.goto 4, 3) := by decide +kernel
theorem dL_law_1003 : decode cL_law 1003 = .ok (.iconst 0, 1) := by decide +kernel
theorem dL_law_1004 : decode cL_law 1004 = .ok (.invokevirtual 139, 3) := by decide +kernel
theorem dL_law_1007 : decode cL_law 1007 = .ok (.istore 6, 2) := by decide +kernel
theorem dL_law_1009 : decode cL_law 1009 = .ok (.aload_n 2, 1) := by decide +kernel
theorem dL_law_1010 : decode cL_law 1010 = .ok (.invokevirtual 98, 3) := by decide +kernel
theorem dL_law_1013 : decode cL_law 1013 = .ok (.iload 5, 2) := by decide +kernel
theorem dL_law_1015 : decode cL_law 1015 = .ok (.if_icmp .eq 5, 3) := by decide +kernel
theorem dL_law_1018 : decode cL_law 1018 = .ok (.iconst 0, 1) := by decide +kernel
theorem dL_law_1019 : decode cL_law 1019 = .ok (.ireturn, 1) := by decide +kernel
theorem dL_law_1020 : decode cL_law 1020 = .ok (.iload 5, 2) := by decide +kernel
theorem dL_law_1022 : decode cL_law 1022 = .ok (.ifCond .ne 22, 3) := by decide +kernel
theorem dL_law_1025 : decode cL_law 1025 = .ok (.aload_n 3, 1) := by decide +kernel
theorem dL_law_1026 : decode cL_law 1026 = .ok (.iconst 0, 1) := by decide +kernel
theorem dL_law_1027 : decode cL_law 1027 = .ok (.laload, 1) := by decide +kernel
theorem dL_law_1028 : decode cL_law 1028 = .ok (.iload 6, 2) := by decide +kernel
theorem dL_law_1030 : decode cL_law 1030 = .ok (.ifCond .eq 7, 3) := by decide +kernel
theorem dL_law_1033 : decode cL_law 1033 = .ok (.lconst 1, 1) := by decide +kernel
theorem dL_law_1034 : decode cL_law 1034 = .ok (.goto 4, 3) := by decide +kernel
theorem dL_law_1037 : decode cL_law 1037 = .ok (.lconst 0, 1) := by decide +kernel
theorem dL_law_1038 : decode cL_law 1038 = .ok (.lcmp, 1) := by decide +kernel
theorem dL_law_1039 : decode cL_law 1039 = .ok (.ifCond .eq 5, 3) := by decide +kernel
theorem dL_law_1042 : decode cL_law 1042 = .ok (.iconst 0, 1) := by decide +kernel
theorem dL_law_1043 : decode cL_law 1043 = .ok (.ireturn, 1) := by decide +kernel
theorem dL_law_1044 : decode cL_law 1044 = .ok (.goto 711, 3) := by decide +kernel
theorem dL_law_1047 : decode cL_law 1047 = .ok (.aload_n 1, 1) := by decide +kernel
theorem dL_law_1048 : decode cL_law 1048 = .ok (.aload_n 0, 1) := by decide +kernel
theorem dL_law_1049 : decode cL_law 1049 = .ok (.iload 4, 2) := by decide +kernel
theorem dL_law_1051 : decode cL_law 1051 = .ok (.iconst 1, 1) := by decide +kernel
theorem dL_law_1052 : decode cL_law 1052 = .ok (.iadd, 1) := by decide +kernel
theorem dL_law_1053 : decode cL_law 1053 = .ok (.iaload, 1) := by decide +kernel
theorem dL_law_1054 : decode cL_law 1054 = .ok (.aload_n 0, 1) := by decide +kernel
theorem dL_law_1055 : decode cL_law 1055 = .ok (.iload 4, 2) := by decide +kernel
theorem dL_law_1057 : decode cL_law 1057 = .ok (.iconst 2, 1) := by decide +kernel
theorem dL_law_1058 : decode cL_law 1058 = .ok (.iadd, 1) := by decide +kernel
theorem dL_law_1059 : decode cL_law 1059 = .ok (.iaload, 1) := by decide +kernel
theorem dL_law_1060 : decode cL_law 1060 = .ok (.aload_n 3, 1) := by decide +kernel
theorem dL_law_1061 : decode cL_law 1061 = .ok (.invokestatic 140, 3) := by decide +kernel
theorem dL_law_1064 : decode cL_law 1064 = .ok (.istore 5, 2) := by decide +kernel
theorem dL_law_1066 : decode cL_law 1066 = .ok (.aload_n 2, 1) := by decide +kernel
theorem dL_law_1067 : decode cL_law 1067 = .ok (.aload_n 0, 1) := by decide +kernel
theorem dL_law_1068 : decode cL_law 1068 = .ok (.iload 4, 2) := by decide +kernel
theorem dL_law_1070 : decode cL_law 1070 = .ok (.iconst 1, 1) := by decide +kernel
theorem dL_law_1071 : decode cL_law 1071 = .ok (.iadd, 1) := by decide +kernel
theorem dL_law_1072 : decode cL_law 1072 = .ok (.iaload, 1) := by decide +kernel
theorem dL_law_1073 : decode cL_law 1073 = .ok (.aload_n 0, 1) := by decide +kernel
theorem dL_law_1074 : decode cL_law 1074 = .ok (.iload 4, 2) := by decide +kernel
theorem dL_law_1076 : decode cL_law 1076 = .ok (.iconst 2, 1) := by decide +kernel
theorem dL_law_1077 : decode cL_law 1077 = .ok (.iadd, 1) := by decide +kernel
theorem dL_law_1078 : decode cL_law 1078 = .ok (.iaload, 1) := by decide +kernel
theorem dL_law_1079 : decode cL_law 1079 = .ok (.invokevirtual 142, 3) := by decide +kernel
theorem dL_law_1082 : decode cL_law 1082 = .ok (.istore 6, 2) := by decide +kernel
theorem dL_law_1084 : decode cL_law 1084 = .ok (.aload_n 2, 1) := by decide +kernel
theorem dL_law_1085 : decode cL_law 1085 = .ok (.invokevirtual 98, 3) := by decide +kernel
theorem dL_law_1088 : decode cL_law 1088 = .ok (.iload 5, 2) := by decide +kernel
theorem dL_law_1090 : decode cL_law 1090 = .ok (.if_icmp .eq 5, 3) := by decide +kernel
theorem dL_law_1093 : decode cL_law 1093 = .ok (.iconst 0, 1) := by decide +kernel
theorem dL_law_1094 : decode cL_law 1094 = .ok (.ireturn, 1) := by decide +kernel
theorem dL_law_1095 : decode cL_law 1095 = .ok (.iload 5, 2) := by decide +kernel
theorem dL_law_1097 : decode cL_law 1097 = .ok (.ifCond .ne 15, 3) := by decide +kernel
theorem dL_law_1100 : decode cL_law 1100 = .ok (.aload_n 3, 1) := by decide +kernel
theorem dL_law_1101 : decode cL_law 1101 = .ok (.iconst 0, 1) := by decide +kernel
theorem dL_law_1102 : decode cL_law 1102 = .ok (.laload, 1) := by decide +kernel
theorem dL_law_1103 : decode cL_law 1103 = .ok (.iload 6, 2) := by decide +kernel
theorem dL_law_1105 : decode cL_law 1105 = .ok (.i2l, 1) := by decide +kernel
theorem dL_law_1106 : decode cL_law 1106 = .ok (.lcmp, 1) := by decide +kernel
theorem dL_law_1107 : decode cL_law 1107 = .ok (.ifCond .eq 5, 3) := by decide +kernel
theorem dL_law_1110 : decode cL_law 1110 = .ok (.iconst 0, 1) := by decide +kernel
theorem dL_law_1111 : decode cL_law 1111 = .ok (.ireturn, 1) := by decide +kernel
theorem dL_law_1112 : decode cL_law 1112 = .ok (.goto 643, 3) := by decide +kernel
theorem dL_law_1115 : decode cL_law 1115 = .ok (.aload_n 1, 1) := by decide +kernel
theorem dL_law_1116 : decode cL_law 1116 = .ok (.aload_n 0, 1) := by decide +kernel
theorem dL_law_1117 : decode cL_law 1117 = .ok (.iload 4, 2) := by decide +kernel
theorem dL_law_1119 : decode cL_law 1119 = .ok (.iconst 1, 1) := by decide +kernel
theorem dL_law_1120 : decode cL_law 1120 = .ok (.iadd, 1) := by decide +kernel
theorem dL_law_1121 : decode cL_law 1121 = .ok (.iaload, 1) := by decide +kernel
theorem dL_law_1122 : decode cL_law 1122 = .ok (.aload_n 0, 1) := by decide +kernel
theorem dL_law_1123 : decode cL_law 1123 = .ok (.iload 4, 2) := by decide +kernel
theorem dL_law_1125 : decode cL_law 1125 = .ok (.iconst 2, 1) := by decide +kernel
theorem dL_law_1126 : decode cL_law 1126 = .ok (.iadd, 1) := by decide +kernel
theorem dL_law_1127 : decode cL_law 1127 = .ok (.iaload, 1) := by decide +kernel
theorem dL_law_1128 : decode cL_law 1128 = .ok (.aload_n 3, 1) := by decide +kernel
theorem dL_law_1129 : decode cL_law 1129 = .ok (.invokestatic 143, 3) := by decide +kernel
theorem dL_law_1132 : decode cL_law 1132 = .ok (.istore 5, 2) := by decide +kernel
theorem dL_law_1134 : decode cL_law 1134 = .ok (.aload_n 2, 1) := by decide +kernel
theorem dL_law_1135 : decode cL_law 1135 = .ok (.aload_n 0, 1) := by decide +kernel
theorem dL_law_1136 : decode cL_law 1136 = .ok (.iload 4, 2) := by decide +kernel
theorem dL_law_1138 : decode cL_law 1138 = .ok (.iconst 1, 1) := by decide +kernel
theorem dL_law_1139 : decode cL_law 1139 = .ok (.iadd, 1) := by decide +kernel
theorem dL_law_1140 : decode cL_law 1140 = .ok (.iaload, 1) := by decide +kernel
theorem dL_law_1141 : decode cL_law 1141 = .ok (.aload_n 0, 1) := by decide +kernel
theorem dL_law_1142 : decode cL_law 1142 = .ok (.iload 4, 2) := by decide +kernel
theorem dL_law_1144 : decode cL_law 1144 = .ok (.iconst 2, 1) := by decide +kernel
theorem dL_law_1145 : decode cL_law 1145 = .ok (.iadd, 1) := by decide +kernel
theorem dL_law_1146 : decode cL_law 1146 = .ok (.iaload, 1) := by decide +kernel
theorem dL_law_1147 : decode cL_law 1147 = .ok (.invokevirtual 145, 3) := by decide +kernel
theorem dL_law_1150 : decode cL_law 1150 = .ok (.istore 6, 2) := by decide +kernel
theorem dL_law_1152 : decode cL_law 1152 = .ok (.aload_n 2, 1) := by decide +kernel
theorem dL_law_1153 : decode cL_law 1153 = .ok (.invokevirtual 98, 3) := by decide +kernel
theorem dL_law_1156 : decode cL_law 1156 = .ok (.iload 5, 2) := by decide +kernel
theorem dL_law_1158 : decode cL_law 1158 = .ok (.if_icmp .eq 5, 3) := by decide +kernel
theorem dL_law_1161 : decode cL_law 1161 = .ok (.iconst 0, 1) := by decide +kernel
theorem dL_law_1162 : decode cL_law 1162 = .ok (.ireturn, 1) := by decide +kernel
theorem dL_law_1163 : decode cL_law 1163 = .ok (.iload 5, 2) := by decide +kernel
theorem dL_law_1165 : decode cL_law 1165 = .ok (.ifCond .ne 15, 3) := by decide +kernel
theorem dL_law_1168 : decode cL_law 1168 = .ok (.aload_n 3, 1) := by decide +kernel
theorem dL_law_1169 : decode cL_law 1169 = .ok (.iconst 0, 1) := by decide +kernel
theorem dL_law_1170 : decode cL_law 1170 = .ok (.laload, 1) := by decide +kernel
theorem dL_law_1171 : decode cL_law 1171 = .ok (.iload 6, 2) := by decide +kernel
theorem dL_law_1173 : decode cL_law 1173 = .ok (.i2l, 1) := by decide +kernel
theorem dL_law_1174 : decode cL_law 1174 = .ok (.lcmp, 1) := by decide +kernel
theorem dL_law_1175 : decode cL_law 1175 = .ok (.ifCond .eq 5, 3) := by decide +kernel
theorem dL_law_1178 : decode cL_law 1178 = .ok (.iconst 0, 1) := by decide +kernel
theorem dL_law_1179 : decode cL_law 1179 = .ok (.ireturn, 1) := by decide +kernel
theorem dL_law_1180 : decode cL_law 1180 = .ok (.goto 575, 3) := by decide +kernel
theorem dL_law_1183 : decode cL_law 1183 = .ok (.aload_n 1, 1) := by decide +kernel
theorem dL_law_1184 : decode cL_law 1184 = .ok (.aload_n 0, 1) := by decide +kernel
theorem dL_law_1185 : decode cL_law 1185 = .ok (.iload 4, 2) := by decide +kernel
theorem dL_law_1187 : decode cL_law 1187 = .ok (.iconst 1, 1) := by decide +kernel
theorem dL_law_1188 : decode cL_law 1188 = .ok (.iadd, 1) := by decide +kernel
theorem dL_law_1189 : decode cL_law 1189 = .ok (.iaload, 1) := by decide +kernel
theorem dL_law_1190 : decode cL_law 1190 = .ok (.aload_n 3, 1) := by decide +kernel
theorem dL_law_1191 : decode cL_law 1191 = .ok (.invokestatic 146, 3) := by decide +kernel
theorem dL_law_1194 : decode cL_law 1194 = .ok (.istore 5, 2) := by decide +kernel
theorem dL_law_1196 : decode cL_law 1196 = .ok (.aload_n 2, 1) := by decide +kernel
theorem dL_law_1197 : decode cL_law 1197 = .ok (.aload_n 0, 1) := by decide +kernel
theorem dL_law_1198 : decode cL_law 1198 = .ok (.iload 4, 2) := by decide +kernel
theorem dL_law_1200 : decode cL_law 1200 = .ok (.iconst 1, 1) := by decide +kernel
theorem dL_law_1201 : decode cL_law 1201 = .ok (.iadd, 1) := by decide +kernel
theorem dL_law_1202 : decode cL_law 1202 = .ok (.iaload, 1) := by decide +kernel
theorem dL_law_1203 : decode cL_law 1203 = .ok (.invokevirtual 148, 3) := by decide +kernel
theorem dL_law_1206 : decode cL_law 1206 = .ok (.istore 6, 2) := by decide +kernel
theorem dL_law_1208 : decode cL_law 1208 = .ok (.aload_n 2, 1) := by decide +kernel
theorem dL_law_1209 : decode cL_law 1209 = .ok (.invokevirtual 98, 3) := by decide +kernel
theorem dL_law_1212 : decode cL_law 1212 = .ok (.iload 5, 2) := by decide +kernel
theorem dL_law_1214 : decode cL_law 1214 = .ok (.if_icmp .eq 5, 3) := by decide +kernel
theorem dL_law_1217 : decode cL_law 1217 = .ok (.iconst 0, 1) := by decide +kernel
theorem dL_law_1218 : decode cL_law 1218 = .ok (.ireturn, 1) := by decide +kernel
theorem dL_law_1219 : decode cL_law 1219 = .ok (.iload 5, 2) := by decide +kernel
theorem dL_law_1221 : decode cL_law 1221 = .ok (.ifCond .ne 15, 3) := by decide +kernel
theorem dL_law_1224 : decode cL_law 1224 = .ok (.aload_n 3, 1) := by decide +kernel
theorem dL_law_1225 : decode cL_law 1225 = .ok (.iconst 0, 1) := by decide +kernel
theorem dL_law_1226 : decode cL_law 1226 = .ok (.laload, 1) := by decide +kernel
theorem dL_law_1227 : decode cL_law 1227 = .ok (.iload 6, 2) := by decide +kernel
theorem dL_law_1229 : decode cL_law 1229 = .ok (.i2l, 1) := by decide +kernel
theorem dL_law_1230 : decode cL_law 1230 = .ok (.lcmp, 1) := by decide +kernel
theorem dL_law_1231 : decode cL_law 1231 = .ok (.ifCond .eq 5, 3) := by decide +kernel
theorem dL_law_1234 : decode cL_law 1234 = .ok (.iconst 0, 1) := by decide +kernel
theorem dL_law_1235 : decode cL_law 1235 = .ok (.ireturn, 1) := by decide +kernel
theorem dL_law_1236 : decode cL_law 1236 = .ok (.goto 519, 3) := by decide +kernel
theorem dL_law_1239 : decode cL_law 1239 = .ok (.aload_n 1, 1) := by decide +kernel
theorem dL_law_1240 : decode cL_law 1240 = .ok (.aload_n 0, 1) := by decide +kernel
theorem dL_law_1241 : decode cL_law 1241 = .ok (.iload 4, 2) := by decide +kernel
theorem dL_law_1243 : decode cL_law 1243 = .ok (.iconst 1, 1) := by decide +kernel
theorem dL_law_1244 : decode cL_law 1244 = .ok (.iadd, 1) := by decide +kernel
theorem dL_law_1245 : decode cL_law 1245 = .ok (.iaload, 1) := by decide +kernel
theorem dL_law_1246 : decode cL_law 1246 = .ok (.aload_n 3, 1) := by decide +kernel
theorem dL_law_1247 : decode cL_law 1247 = .ok (.invokestatic 149, 3) := by decide +kernel
theorem dL_law_1250 : decode cL_law 1250 = .ok (.istore 5, 2) := by decide +kernel
theorem dL_law_1252 : decode cL_law 1252 = .ok (.aload_n 2, 1) := by decide +kernel
theorem dL_law_1253 : decode cL_law 1253 = .ok (.aload_n 0, 1) := by decide +kernel
theorem dL_law_1254 : decode cL_law 1254 = .ok (.iload 4, 2) := by decide +kernel
theorem dL_law_1256 : decode cL_law 1256 = .ok (.iconst 1, 1) := by decide +kernel
theorem dL_law_1257 : decode cL_law 1257 = .ok (.iadd, 1) := by decide +kernel
theorem dL_law_1258 : decode cL_law 1258 = .ok (.iaload, 1) := by decide +kernel
theorem dL_law_1259 : decode cL_law 1259 = .ok (.invokevirtual 151, 3) := by decide +kernel
theorem dL_law_1262 : decode cL_law 1262 = .ok (.istore 6, 2) := by decide +kernel
theorem dL_law_1264 : decode cL_law 1264 = .ok (.aload_n 2, 1) := by decide +kernel
theorem dL_law_1265 : decode cL_law 1265 = .ok (.invokevirtual 98, 3) := by decide +kernel
theorem dL_law_1268 : decode cL_law 1268 = .ok (.iload 5, 2) := by decide +kernel
theorem dL_law_1270 : decode cL_law 1270 = .ok (.if_icmp .eq 5, 3) := by decide +kernel
theorem dL_law_1273 : decode cL_law 1273 = .ok (.iconst 0, 1) := by decide +kernel
theorem dL_law_1274 : decode cL_law 1274 = .ok (.ireturn, 1) := by decide +kernel
theorem dL_law_1275 : decode cL_law 1275 = .ok (.iload 5, 2) := by decide +kernel
theorem dL_law_1277 : decode cL_law 1277 = .ok (.ifCond .ne 15, 3) := by decide +kernel
theorem dL_law_1280 : decode cL_law 1280 = .ok (.aload_n 3, 1) := by decide +kernel
theorem dL_law_1281 : decode cL_law 1281 = .ok (.iconst 0, 1) := by decide +kernel
theorem dL_law_1282 : decode cL_law 1282 = .ok (.laload, 1) := by decide +kernel
theorem dL_law_1283 : decode cL_law 1283 = .ok (.iload 6, 2) := by decide +kernel
theorem dL_law_1285 : decode cL_law 1285 = .ok (.i2l, 1) := by decide +kernel
theorem dL_law_1286 : decode cL_law 1286 = .ok (.lcmp, 1) := by decide +kernel
theorem dL_law_1287 : decode cL_law 1287 = .ok (.ifCond .eq 5, 3) := by decide +kernel
theorem dL_law_1290 : decode cL_law 1290 = .ok (.iconst 0, 1) := by decide +kernel
theorem dL_law_1291 : decode cL_law 1291 = .ok (.ireturn, 1) := by decide +kernel
theorem dL_law_1292 : decode cL_law 1292 = .ok (.goto 463, 3) := by decide +kernel
theorem dL_law_1295 : decode cL_law 1295 = .ok (.aload_n 1, 1) := by decide +kernel
theorem dL_law_1296 : decode cL_law 1296 = .ok (.aload_n 0, 1) := by decide +kernel
theorem dL_law_1297 : decode cL_law 1297 = .ok (.iload 4, 2) := by decide +kernel
theorem dL_law_1299 : decode cL_law 1299 = .ok (.iconst 1, 1) := by decide +kernel
theorem dL_law_1300 : decode cL_law 1300 = .ok (.iadd, 1) := by decide +kernel
theorem dL_law_1301 : decode cL_law 1301 = .ok (.iaload, 1) := by decide +kernel
theorem dL_law_1302 : decode cL_law 1302 = .ok (.aload_n 0, 1) := by decide +kernel
theorem dL_law_1303 : decode cL_law 1303 = .ok (.iload 4, 2) := by decide +kernel
theorem dL_law_1305 : decode cL_law 1305 = .ok (.iconst 2, 1) := by decide +kernel
theorem dL_law_1306 : decode cL_law 1306 = .ok (.iadd, 1) := by decide +kernel
theorem dL_law_1307 : decode cL_law 1307 = .ok (.iaload, 1) := by decide +kernel
theorem dL_law_1308 : decode cL_law 1308 = .ok (.aload_n 3, 1) := by decide +kernel
theorem dL_law_1309 : decode cL_law 1309 = .ok (.invokestatic 152, 3) := by decide +kernel
theorem dL_law_1312 : decode cL_law 1312 = .ok (.istore 5, 2) := by decide +kernel
theorem dL_law_1314 : decode cL_law 1314 = .ok (.aload_n 2, 1) := by decide +kernel
theorem dL_law_1315 : decode cL_law 1315 = .ok (.aload_n 0, 1) := by decide +kernel
theorem dL_law_1316 : decode cL_law 1316 = .ok (.iload 4, 2) := by decide +kernel
theorem dL_law_1318 : decode cL_law 1318 = .ok (.iconst 1, 1) := by decide +kernel
theorem dL_law_1319 : decode cL_law 1319 = .ok (.iadd, 1) := by decide +kernel
theorem dL_law_1320 : decode cL_law 1320 = .ok (.iaload, 1) := by decide +kernel
theorem dL_law_1321 : decode cL_law 1321 = .ok (.aload_n 0, 1) := by decide +kernel
theorem dL_law_1322 : decode cL_law 1322 = .ok (.iload 4, 2) := by decide +kernel
theorem dL_law_1324 : decode cL_law 1324 = .ok (.iconst 2, 1) := by decide +kernel
theorem dL_law_1325 : decode cL_law 1325 = .ok (.iadd, 1) := by decide +kernel
theorem dL_law_1326 : decode cL_law 1326 = .ok (.iaload, 1) := by decide +kernel
theorem dL_law_1327 : decode cL_law 1327 = .ok (.invokevirtual 154, 3) := by decide +kernel
theorem dL_law_1330 : decode cL_law 1330 = .ok (.istore 6, 2) := by decide +kernel
theorem dL_law_1332 : decode cL_law 1332 = .ok (.aload_n 2, 1) := by decide +kernel
theorem dL_law_1333 : decode cL_law 1333 = .ok (.invokevirtual 98, 3) := by decide +kernel
theorem dL_law_1336 : decode cL_law 1336 = .ok (.iload 5, 2) := by decide +kernel
theorem dL_law_1338 : decode cL_law 1338 = .ok (.if_icmp .eq 5, 3) := by decide +kernel
theorem dL_law_1341 : decode cL_law 1341 = .ok (.iconst 0, 1) := by decide +kernel
theorem dL_law_1342 : decode cL_law 1342 = .ok (.ireturn, 1) := by decide +kernel
theorem dL_law_1343 : decode cL_law 1343 = .ok (.iload 5, 2) := by decide +kernel
theorem dL_law_1345 : decode cL_law 1345 = .ok (.ifCond .ne 15, 3) := by decide +kernel
theorem dL_law_1348 : decode cL_law 1348 = .ok (.aload_n 3, 1) := by decide +kernel
theorem dL_law_1349 : decode cL_law 1349 = .ok (.iconst 0, 1) := by decide +kernel
theorem dL_law_1350 : decode cL_law 1350 = .ok (.laload, 1) := by decide +kernel
theorem dL_law_1351 : decode cL_law 1351 = .ok (.iload 6, 2) := by decide +kernel
theorem dL_law_1353 : decode cL_law 1353 = .ok (.i2l, 1) := by decide +kernel
theorem dL_law_1354 : decode cL_law 1354 = .ok (.lcmp, 1) := by decide +kernel
theorem dL_law_1355 : decode cL_law 1355 = .ok (.ifCond .eq 5, 3) := by decide +kernel
theorem dL_law_1358 : decode cL_law 1358 = .ok (.iconst 0, 1) := by decide +kernel
theorem dL_law_1359 : decode cL_law 1359 = .ok (.ireturn, 1) := by decide +kernel
theorem dL_law_1360 : decode cL_law 1360 = .ok (.goto 395, 3) := by decide +kernel
theorem dL_law_1363 : decode cL_law 1363 = .ok (.aload_n 1, 1) := by decide +kernel
theorem dL_law_1364 : decode cL_law 1364 = .ok (.aload_n 0, 1) := by decide +kernel
theorem dL_law_1365 : decode cL_law 1365 = .ok (.iload 4, 2) := by decide +kernel
theorem dL_law_1367 : decode cL_law 1367 = .ok (.iconst 1, 1) := by decide +kernel
theorem dL_law_1368 : decode cL_law 1368 = .ok (.iadd, 1) := by decide +kernel
theorem dL_law_1369 : decode cL_law 1369 = .ok (.iaload, 1) := by decide +kernel
theorem dL_law_1370 : decode cL_law 1370 = .ok (.aload_n 0, 1) := by decide +kernel
theorem dL_law_1371 : decode cL_law 1371 = .ok (.iload 4, 2) := by decide +kernel
theorem dL_law_1373 : decode cL_law 1373 = .ok (.iconst 2, 1) := by decide +kernel
theorem dL_law_1374 : decode cL_law 1374 = .ok (.iadd, 1) := by decide +kernel
theorem dL_law_1375 : decode cL_law 1375 = .ok (.iaload, 1) := by decide +kernel
theorem dL_law_1376 : decode cL_law 1376 = .ok (.aload_n 3, 1) := by decide +kernel
theorem dL_law_1377 : decode cL_law 1377 = .ok (.invokestatic 155, 3) := by decide +kernel
theorem dL_law_1380 : decode cL_law 1380 = .ok (.istore 5, 2) := by decide +kernel
theorem dL_law_1382 : decode cL_law 1382 = .ok (.aload_n 2, 1) := by decide +kernel
theorem dL_law_1383 : decode cL_law 1383 = .ok (.aload_n 0, 1) := by decide +kernel
theorem dL_law_1384 : decode cL_law 1384 = .ok (.iload 4, 2) := by decide +kernel
theorem dL_law_1386 : decode cL_law 1386 = .ok (.iconst 1, 1) := by decide +kernel
theorem dL_law_1387 : decode cL_law 1387 = .ok (.iadd, 1) := by decide +kernel
theorem dL_law_1388 : decode cL_law 1388 = .ok (.iaload, 1) := by decide +kernel
theorem dL_law_1389 : decode cL_law 1389 = .ok (.aload_n 0, 1) := by decide +kernel
theorem dL_law_1390 : decode cL_law 1390 = .ok (.iload 4, 2) := by decide +kernel
theorem dL_law_1392 : decode cL_law 1392 = .ok (.iconst 2, 1) := by decide +kernel
theorem dL_law_1393 : decode cL_law 1393 = .ok (.iadd, 1) := by decide +kernel
theorem dL_law_1394 : decode cL_law 1394 = .ok (.iaload, 1) := by decide +kernel
theorem dL_law_1395 : decode cL_law 1395 = .ok (.invokevirtual 157, 3) := by decide +kernel
theorem dL_law_1398 : decode cL_law 1398 = .ok (.istore 6, 2) := by decide +kernel
theorem dL_law_1400 : decode cL_law 1400 = .ok (.aload_n 2, 1) := by decide +kernel
theorem dL_law_1401 : decode cL_law 1401 = .ok (.invokevirtual 98, 3) := by decide +kernel
theorem dL_law_1404 : decode cL_law 1404 = .ok (.iload 5, 2) := by decide +kernel
theorem dL_law_1406 : decode cL_law 1406 = .ok (.if_icmp .eq 5, 3) := by decide +kernel
theorem dL_law_1409 : decode cL_law 1409 = .ok (.iconst 0, 1) := by decide +kernel
theorem dL_law_1410 : decode cL_law 1410 = .ok (.ireturn, 1) := by decide +kernel
theorem dL_law_1411 : decode cL_law 1411 = .ok (.iload 5, 2) := by decide +kernel
theorem dL_law_1413 : decode cL_law 1413 = .ok (.ifCond .ne 22, 3) := by decide +kernel
theorem dL_law_1416 : decode cL_law 1416 = .ok (.aload_n 3, 1) := by decide +kernel
theorem dL_law_1417 : decode cL_law 1417 = .ok (.iconst 0, 1) := by decide +kernel
theorem dL_law_1418 : decode cL_law 1418 = .ok (.laload, 1) := by decide +kernel
theorem dL_law_1419 : decode cL_law 1419 = .ok (.iload 6, 2) := by decide +kernel
theorem dL_law_1421 : decode cL_law 1421 = .ok (.ifCond .eq 7, 3) := by decide +kernel
theorem dL_law_1424 : decode cL_law 1424 = .ok (.lconst 1, 1) := by decide +kernel
theorem dL_law_1425 : decode cL_law 1425 = .ok (.goto 4, 3) := by decide +kernel
theorem dL_law_1428 : decode cL_law 1428 = .ok (.lconst 0, 1) := by decide +kernel
theorem dL_law_1429 : decode cL_law 1429 = .ok (.lcmp, 1) := by decide +kernel
theorem dL_law_1430 : decode cL_law 1430 = .ok (.ifCond .eq 5, 3) := by decide +kernel
theorem dL_law_1433 : decode cL_law 1433 = .ok (.iconst 0, 1) := by decide +kernel
theorem dL_law_1434 : decode cL_law 1434 = .ok (.ireturn, 1) := by decide +kernel
theorem dL_law_1435 : decode cL_law 1435 = .ok (.goto 320, 3) := by decide +kernel
theorem dL_law_1438 : decode cL_law 1438 = .ok (.aload_n 1, 1) := by decide +kernel
theorem dL_law_1439 : decode cL_law 1439 = .ok (.aload_n 0, 1) := by decide +kernel
theorem dL_law_1440 : decode cL_law 1440 = .ok (.iload 4, 2) := by decide +kernel
theorem dL_law_1442 : decode cL_law 1442 = .ok (.iconst 1, 1) := by decide +kernel
theorem dL_law_1443 : decode cL_law 1443 = .ok (.iadd, 1) := by decide +kernel
theorem dL_law_1444 : decode cL_law 1444 = .ok (.iaload, 1) := by decide +kernel
theorem dL_law_1445 : decode cL_law 1445 = .ok (.aload_n 3, 1) := by decide +kernel
theorem dL_law_1446 : decode cL_law 1446 = .ok (.invokestatic 158, 3) := by decide +kernel
theorem dL_law_1449 : decode cL_law 1449 = .ok (.istore 5, 2) := by decide +kernel
theorem dL_law_1451 : decode cL_law 1451 = .ok (.aload_n 2, 1) := by decide +kernel
theorem dL_law_1452 : decode cL_law 1452 = .ok (.aload_n 0, 1) := by decide +kernel
theorem dL_law_1453 : decode cL_law 1453 = .ok (.iload 4, 2) := by decide +kernel
theorem dL_law_1455 : decode cL_law 1455 = .ok (.iconst 1, 1) := by decide +kernel
theorem dL_law_1456 : decode cL_law 1456 = .ok (.iadd, 1) := by decide +kernel
theorem dL_law_1457 : decode cL_law 1457 = .ok (.iaload, 1) := by decide +kernel
theorem dL_law_1458 : decode cL_law 1458 = .ok (.invokevirtual 160, 3) := by decide +kernel
theorem dL_law_1461 : decode cL_law 1461 = .ok (.istore 6, 2) := by decide +kernel
theorem dL_law_1463 : decode cL_law 1463 = .ok (.aload_n 2, 1) := by decide +kernel
theorem dL_law_1464 : decode cL_law 1464 = .ok (.invokevirtual 98, 3) := by decide +kernel
theorem dL_law_1467 : decode cL_law 1467 = .ok (.iload 5, 2) := by decide +kernel
theorem dL_law_1469 : decode cL_law 1469 = .ok (.if_icmp .eq 5, 3) := by decide +kernel
theorem dL_law_1472 : decode cL_law 1472 = .ok (.iconst 0, 1) := by decide +kernel
theorem dL_law_1473 : decode cL_law 1473 = .ok (.ireturn, 1) := by decide +kernel
theorem dL_law_1474 : decode cL_law 1474 = .ok (.iload 5, 2) := by decide +kernel
theorem dL_law_1476 : decode cL_law 1476 = .ok (.ifCond .ne 15, 3) := by decide +kernel
theorem dL_law_1479 : decode cL_law 1479 = .ok (.aload_n 3, 1) := by decide +kernel
theorem dL_law_1480 : decode cL_law 1480 = .ok (.iconst 0, 1) := by decide +kernel
theorem dL_law_1481 : decode cL_law 1481 = .ok (.laload, 1) := by decide +kernel
theorem dL_law_1482 : decode cL_law 1482 = .ok (.iload 6, 2) := by decide +kernel
theorem dL_law_1484 : decode cL_law 1484 = .ok (.i2l, 1) := by decide +kernel
theorem dL_law_1485 : decode cL_law 1485 = .ok (.lcmp, 1) := by decide +kernel
theorem dL_law_1486 : decode cL_law 1486 = .ok (.ifCond .eq 5, 3) := by decide +kernel
theorem dL_law_1489 : decode cL_law 1489 = .ok (.iconst 0, 1) := by decide +kernel
theorem dL_law_1490 : decode cL_law 1490 = .ok (.ireturn, 1) := by decide +kernel
theorem dL_law_1491 : decode cL_law 1491 = .ok (.goto 264, 3) := by decide +kernel
theorem dL_law_1494 : decode cL_law 1494 = .ok (.aload_n 1, 1) := by decide +kernel
theorem dL_law_1495 : decode cL_law 1495 = .ok (.invokevirtual 161, 3) := by decide +kernel
theorem dL_law_1498 : decode cL_law 1498 = .ok (.aload_n 2, 1) := by decide +kernel
theorem dL_law_1499 : decode cL_law 1499 = .ok (.invokevirtual 164, 3) := by decide +kernel
theorem dL_law_1502 : decode cL_law 1502 = .ok (.if_icmp .eq 253, 3) := by decide +kernel
theorem dL_law_1505 : decode cL_law 1505 = .ok (.iconst 0, 1) := by decide +kernel
theorem dL_law_1506 : decode cL_law 1506 = .ok (.ireturn, 1) := by decide +kernel
theorem dL_law_1507 : decode cL_law 1507 = .ok (.aload_n 1, 1) := by decide +kernel
theorem dL_law_1508 : decode cL_law 1508 = .ok (.aload_n 0, 1) := by decide +kernel
theorem dL_law_1509 : decode cL_law 1509 = .ok (.iload 4, 2) := by decide +kernel
theorem dL_law_1511 : decode cL_law 1511 = .ok (.iconst 1, 1) := by decide +kernel
theorem dL_law_1512 : decode cL_law 1512 = .ok (.iadd, 1) := by decide +kernel
theorem dL_law_1513 : decode cL_law 1513 = .ok (.iaload, 1) := by decide +kernel
theorem dL_law_1514 : decode cL_law 1514 = .ok (.aload_n 0, 1) := by decide +kernel
theorem dL_law_1515 : decode cL_law 1515 = .ok (.iload 4, 2) := by decide +kernel
theorem dL_law_1517 : decode cL_law 1517 = .ok (.iconst 2, 1) := by decide +kernel
theorem dL_law_1518 : decode cL_law 1518 = .ok (.iadd, 1) := by decide +kernel
theorem dL_law_1519 : decode cL_law 1519 = .ok (.iaload, 1) := by decide +kernel
theorem dL_law_1520 : decode cL_law 1520 = .ok (.aload_n 3, 1) := by decide +kernel
theorem dL_law_1521 : decode cL_law 1521 = .ok (.invokestatic 165, 3) := by decide +kernel
theorem dL_law_1524 : decode cL_law 1524 = .ok (.istore 5, 2) := by decide +kernel
theorem dL_law_1526 : decode cL_law 1526 = .ok (.aload_n 2, 1) := by decide +kernel
theorem dL_law_1527 : decode cL_law 1527 = .ok (.aload_n 0, 1) := by decide +kernel
theorem dL_law_1528 : decode cL_law 1528 = .ok (.iload 4, 2) := by decide +kernel
theorem dL_law_1530 : decode cL_law 1530 = .ok (.iconst 1, 1) := by decide +kernel
theorem dL_law_1531 : decode cL_law 1531 = .ok (.iadd, 1) := by decide +kernel
theorem dL_law_1532 : decode cL_law 1532 = .ok (.iaload, 1) := by decide +kernel
theorem dL_law_1533 : decode cL_law 1533 = .ok (.aload_n 0, 1) := by decide +kernel
theorem dL_law_1534 : decode cL_law 1534 = .ok (.iload 4, 2) := by decide +kernel
theorem dL_law_1536 : decode cL_law 1536 = .ok (.iconst 2, 1) := by decide +kernel
theorem dL_law_1537 : decode cL_law 1537 = .ok (.iadd, 1) := by decide +kernel
theorem dL_law_1538 : decode cL_law 1538 = .ok (.iaload, 1) := by decide +kernel
theorem dL_law_1539 : decode cL_law 1539 = .ok (.invokevirtual 167, 3) := by decide +kernel
theorem dL_law_1542 : decode cL_law 1542 = .ok (.istore 6, 2) := by decide +kernel
theorem dL_law_1544 : decode cL_law 1544 = .ok (.aload_n 2, 1) := by decide +kernel
theorem dL_law_1545 : decode cL_law 1545 = .ok (.invokevirtual 98, 3) := by decide +kernel
theorem dL_law_1548 : decode cL_law 1548 = .ok (.iload 5, 2) := by decide +kernel
theorem dL_law_1550 : decode cL_law 1550 = .ok (.if_icmp .eq 5, 3) := by decide +kernel
theorem dL_law_1553 : decode cL_law 1553 = .ok (.iconst 0, 1) := by decide +kernel
theorem dL_law_1554 : decode cL_law 1554 = .ok (.ireturn, 1) := by decide +kernel
theorem dL_law_1555 : decode cL_law 1555 = .ok (.iload 5, 2) := by decide +kernel
theorem dL_law_1557 : decode cL_law 1557 = .ok (.ifCond .ne 15, 3) := by decide +kernel
theorem dL_law_1560 : decode cL_law 1560 = .ok (.aload_n 3, 1) := by decide +kernel
theorem dL_law_1561 : decode cL_law 1561 = .ok (.iconst 0, 1) := by decide +kernel
theorem dL_law_1562 : decode cL_law 1562 = .ok (.laload, 1) := by decide +kernel
theorem dL_law_1563 : decode cL_law 1563 = .ok (.iload 6, 2) := by decide +kernel
theorem dL_law_1565 : decode cL_law 1565 = .ok (.i2l, 1) := by decide +kernel
theorem dL_law_1566 : decode cL_law 1566 = .ok (.lcmp, 1) := by decide +kernel
theorem dL_law_1567 : decode cL_law 1567 = .ok (.ifCond .eq 5, 3) := by decide +kernel
theorem dL_law_1570 : decode cL_law 1570 = .ok (.iconst 0, 1) := by decide +kernel
theorem dL_law_1571 : decode cL_law 1571 = .ok (.ireturn, 1) := by decide +kernel
theorem dL_law_1572 : decode cL_law 1572 = .ok (.goto 183, 3) := by decide +kernel
theorem dL_law_1575 : decode cL_law 1575 = .ok (.aload_n 1, 1) := by decide +kernel
theorem dL_law_1576 : decode cL_law 1576 = .ok (.aload_n 0, 1) := by decide +kernel
theorem dL_law_1577 : decode cL_law 1577 = .ok (.iload 4, 2) := by decide +kernel
theorem dL_law_1579 : decode cL_law 1579 = .ok (.iconst 1, 1) := by decide +kernel
theorem dL_law_1580 : decode cL_law 1580 = .ok (.iadd, 1) := by decide +kernel
theorem dL_law_1581 : decode cL_law 1581 = .ok (.iaload, 1) := by decide +kernel
theorem dL_law_1582 : decode cL_law 1582 = .ok (.aload_n 0, 1) := by decide +kernel
theorem dL_law_1583 : decode cL_law 1583 = .ok (.iload 4, 2) := by decide +kernel
theorem dL_law_1585 : decode cL_law 1585 = .ok (.iconst 2, 1) := by decide +kernel
theorem dL_law_1586 : decode cL_law 1586 = .ok (.iadd, 1) := by decide +kernel
theorem dL_law_1587 : decode cL_law 1587 = .ok (.iaload, 1) := by decide +kernel
theorem dL_law_1588 : decode cL_law 1588 = .ok (.aload_n 3, 1) := by decide +kernel
theorem dL_law_1589 : decode cL_law 1589 = .ok (.invokestatic 168, 3) := by decide +kernel
theorem dL_law_1592 : decode cL_law 1592 = .ok (.istore 5, 2) := by decide +kernel
theorem dL_law_1594 : decode cL_law 1594 = .ok (.aload_n 2, 1) := by decide +kernel
theorem dL_law_1595 : decode cL_law 1595 = .ok (.aload_n 0, 1) := by decide +kernel
theorem dL_law_1596 : decode cL_law 1596 = .ok (.iload 4, 2) := by decide +kernel
theorem dL_law_1598 : decode cL_law 1598 = .ok (.iconst 1, 1) := by decide +kernel
theorem dL_law_1599 : decode cL_law 1599 = .ok (.iadd, 1) := by decide +kernel
theorem dL_law_1600 : decode cL_law 1600 = .ok (.iaload, 1) := by decide +kernel
theorem dL_law_1601 : decode cL_law 1601 = .ok (.aload_n 0, 1) := by decide +kernel
theorem dL_law_1602 : decode cL_law 1602 = .ok (.iload 4, 2) := by decide +kernel
theorem dL_law_1604 : decode cL_law 1604 = .ok (.iconst 2, 1) := by decide +kernel
theorem dL_law_1605 : decode cL_law 1605 = .ok (.iadd, 1) := by decide +kernel
theorem dL_law_1606 : decode cL_law 1606 = .ok (.iaload, 1) := by decide +kernel
theorem dL_law_1607 : decode cL_law 1607 = .ok (.invokevirtual 170, 3) := by decide +kernel
theorem dL_law_1610 : decode cL_law 1610 = .ok (.istore 6, 2) := by decide +kernel
theorem dL_law_1612 : decode cL_law 1612 = .ok (.aload_n 2, 1) := by decide +kernel
theorem dL_law_1613 : decode cL_law 1613 = .ok (.invokevirtual 98, 3) := by decide +kernel
theorem dL_law_1616 : decode cL_law 1616 = .ok (.iload 5, 2) := by decide +kernel
theorem dL_law_1618 : decode cL_law 1618 = .ok (.if_icmp .eq 5, 3) := by decide +kernel
theorem dL_law_1621 : decode cL_law 1621 = .ok (.iconst 0, 1) := by decide +kernel
theorem dL_law_1622 : decode cL_law 1622 = .ok (.ireturn, 1) := by decide +kernel
theorem dL_law_1623 : decode cL_law 1623 = .ok (.iload 5, 2) := by decide +kernel
theorem dL_law_1625 : decode cL_law 1625 = .ok (.ifCond .ne 15, 3) := by decide +kernel
theorem dL_law_1628 : decode cL_law 1628 = .ok (.aload_n 3, 1) := by decide +kernel
theorem dL_law_1629 : decode cL_law 1629 = .ok (.iconst 0, 1) := by decide +kernel
theorem dL_law_1630 : decode cL_law 1630 = .ok (.laload, 1) := by decide +kernel
theorem dL_law_1631 : decode cL_law 1631 = .ok (.iload 6, 2) := by decide +kernel
theorem dL_law_1633 : decode cL_law 1633 = .ok (.i2l, 1) := by decide +kernel
theorem dL_law_1634 : decode cL_law 1634 = .ok (.lcmp, 1) := by decide +kernel
theorem dL_law_1635 : decode cL_law 1635 = .ok (.ifCond .eq 5, 3) := by decide +kernel
theorem dL_law_1638 : decode cL_law 1638 = .ok (.iconst 0, 1) := by decide +kernel
theorem dL_law_1639 : decode cL_law 1639 = .ok (.ireturn, 1) := by decide +kernel
theorem dL_law_1640 : decode cL_law 1640 = .ok (.goto 115, 3) := by decide +kernel
theorem dL_law_1643 : decode cL_law 1643 = .ok (.aload_n 1, 1) := by decide +kernel
theorem dL_law_1644 : decode cL_law 1644 = .ok (.aload_n 0, 1) := by decide +kernel
theorem dL_law_1645 : decode cL_law 1645 = .ok (.iload 4, 2) := by decide +kernel
theorem dL_law_1647 : decode cL_law 1647 = .ok (.iconst 1, 1) := by decide +kernel
theorem dL_law_1648 : decode cL_law 1648 = .ok (.iadd, 1) := by decide +kernel
theorem dL_law_1649 : decode cL_law 1649 = .ok (.iaload, 1) := by decide +kernel
theorem dL_law_1650 : decode cL_law 1650 = .ok (.aload_n 3, 1) := by decide +kernel
theorem dL_law_1651 : decode cL_law 1651 = .ok (.invokestatic 171, 3) := by decide +kernel
theorem dL_law_1654 : decode cL_law 1654 = .ok (.istore 5, 2) := by decide +kernel
theorem dL_law_1656 : decode cL_law 1656 = .ok (.aload_n 2, 1) := by decide +kernel
theorem dL_law_1657 : decode cL_law 1657 = .ok (.aload_n 0, 1) := by decide +kernel
theorem dL_law_1658 : decode cL_law 1658 = .ok (.iload 4, 2) := by decide +kernel
theorem dL_law_1660 : decode cL_law 1660 = .ok (.iconst 1, 1) := by decide +kernel
theorem dL_law_1661 : decode cL_law 1661 = .ok (.iadd, 1) := by decide +kernel
theorem dL_law_1662 : decode cL_law 1662 = .ok (.iaload, 1) := by decide +kernel
theorem dL_law_1663 : decode cL_law 1663 = .ok (.invokevirtual 173, 3) := by decide +kernel
theorem dL_law_1666 : decode cL_law 1666 = .ok (.istore 6, 2) := by decide +kernel
theorem dL_law_1668 : decode cL_law 1668 = .ok (.aload_n 2, 1) := by decide +kernel
theorem dL_law_1669 : decode cL_law 1669 = .ok (.invokevirtual 98, 3) := by decide +kernel
theorem dL_law_1672 : decode cL_law 1672 = .ok (.iload 5, 2) := by decide +kernel
theorem dL_law_1674 : decode cL_law 1674 = .ok (.if_icmp .eq 5, 3) := by decide +kernel
theorem dL_law_1677 : decode cL_law 1677 = .ok (.iconst 0, 1) := by decide +kernel
theorem dL_law_1678 : decode cL_law 1678 = .ok (.ireturn, 1) := by decide +kernel
theorem dL_law_1679 : decode cL_law 1679 = .ok (.iload 5, 2) := by decide +kernel
theorem dL_law_1681 : decode cL_law 1681 = .ok (.ifCond .ne 15, 3) := by decide +kernel
theorem dL_law_1684 : decode cL_law 1684 = .ok (.aload_n 3, 1) := by decide +kernel
theorem dL_law_1685 : decode cL_law 1685 = .ok (.iconst 0, 1) := by decide +kernel
theorem dL_law_1686 : decode cL_law 1686 = .ok (.laload, 1) := by decide +kernel
theorem dL_law_1687 : decode cL_law 1687 = .ok (.iload 6, 2) := by decide +kernel
theorem dL_law_1689 : decode cL_law 1689 = .ok (.i2l, 1) := by decide +kernel
theorem dL_law_1690 : decode cL_law 1690 = .ok (.lcmp, 1) := by decide +kernel
theorem dL_law_1691 : decode cL_law 1691 = .ok (.ifCond .eq 5, 3) := by decide +kernel
theorem dL_law_1694 : decode cL_law 1694 = .ok (.iconst 0, 1) := by decide +kernel
theorem dL_law_1695 : decode cL_law 1695 = .ok (.ireturn, 1) := by decide +kernel
theorem dL_law_1696 : decode cL_law 1696 = .ok (.goto 59, 3) := by decide +kernel
theorem dL_law_1699 : decode cL_law 1699 = .ok (.aload_n 1, 1) := by decide +kernel
theorem dL_law_1700 : decode cL_law 1700 = .ok (.aload_n 0, 1) := by decide +kernel
theorem dL_law_1701 : decode cL_law 1701 = .ok (.iload 4, 2) := by decide +kernel
theorem dL_law_1703 : decode cL_law 1703 = .ok (.iconst 1, 1) := by decide +kernel
theorem dL_law_1704 : decode cL_law 1704 = .ok (.iadd, 1) := by decide +kernel
theorem dL_law_1705 : decode cL_law 1705 = .ok (.iaload, 1) := by decide +kernel
theorem dL_law_1706 : decode cL_law 1706 = .ok (.aload_n 3, 1) := by decide +kernel
theorem dL_law_1707 : decode cL_law 1707 = .ok (.invokestatic 174, 3) := by decide +kernel
theorem dL_law_1710 : decode cL_law 1710 = .ok (.istore 5, 2) := by decide +kernel
theorem dL_law_1712 : decode cL_law 1712 = .ok (.aload_n 2, 1) := by decide +kernel
theorem dL_law_1713 : decode cL_law 1713 = .ok (.aload_n 0, 1) := by decide +kernel
theorem dL_law_1714 : decode cL_law 1714 = .ok (.iload 4, 2) := by decide +kernel
theorem dL_law_1716 : decode cL_law 1716 = .ok (.iconst 1, 1) := by decide +kernel
theorem dL_law_1717 : decode cL_law 1717 = .ok (.iadd, 1) := by decide +kernel
theorem dL_law_1718 : decode cL_law 1718 = .ok (.iaload, 1) := by decide +kernel
theorem dL_law_1719 : decode cL_law 1719 = .ok (.invokevirtual 176, 3) := by decide +kernel
theorem dL_law_1722 : decode cL_law 1722 = .ok (.istore 6, 2) := by decide +kernel
theorem dL_law_1724 : decode cL_law 1724 = .ok (.aload_n 2, 1) := by decide +kernel
theorem dL_law_1725 : decode cL_law 1725 = .ok (.invokevirtual 98, 3) := by decide +kernel
theorem dL_law_1728 : decode cL_law 1728 = .ok (.iload 5, 2) := by decide +kernel
theorem dL_law_1730 : decode cL_law 1730 = .ok (.if_icmp .eq 5, 3) := by decide +kernel
theorem dL_law_1733 : decode cL_law 1733 = .ok (.iconst 0, 1) := by decide +kernel
theorem dL_law_1734 : decode cL_law 1734 = .ok (.ireturn, 1) := by decide +kernel
theorem dL_law_1735 : decode cL_law 1735 = .ok (.iload 5, 2) := by decide +kernel
theorem dL_law_1737 : decode cL_law 1737 = .ok (.ifCond .ne 15, 3) := by decide +kernel
theorem dL_law_1740 : decode cL_law 1740 = .ok (.aload_n 3, 1) := by decide +kernel
theorem dL_law_1741 : decode cL_law 1741 = .ok (.iconst 0, 1) := by decide +kernel
theorem dL_law_1742 : decode cL_law 1742 = .ok (.laload, 1) := by decide +kernel
theorem dL_law_1743 : decode cL_law 1743 = .ok (.iload 6, 2) := by decide +kernel
theorem dL_law_1745 : decode cL_law 1745 = .ok (.i2l, 1) := by decide +kernel
theorem dL_law_1746 : decode cL_law 1746 = .ok (.lcmp, 1) := by decide +kernel
theorem dL_law_1747 : decode cL_law 1747 = .ok (.ifCond .eq 5, 3) := by decide +kernel
theorem dL_law_1750 : decode cL_law 1750 = .ok (.iconst 0, 1) := by decide +kernel
theorem dL_law_1751 : decode cL_law 1751 = .ok (.ireturn, 1) := by decide +kernel
theorem dL_law_1752 : decode cL_law 1752 = .ok (.goto 3, 3) := by decide +kernel
theorem dL_law_1755 : decode cL_law 1755 = .ok (.iinc 4 5, 3) := by decide +kernel
theorem dL_law_1758 : decode cL_law 1758 = .ok (.goto (-1735), 3) := by decide +kernel
theorem dL_law_1761 : decode cL_law 1761 = .ok (.iconst 1, 1) := by decide +kernel
theorem dL_law_1762 : decode cL_law 1762 = .ok (.ireturn, 1) := by decide +kernel
end
section
/-! WORLDS AS FUNCTIONS OF THE PLACE, and rows over them: zw n ad f is the world of n cells, the place q at the address ad q, holding f q. -/
theorem z_ofI (x : Nat) : Int32.ofNat x = nI x := rfl
def zw (n : Nat) (ad : Nat → Nat) (f : Nat → va_E) : va_W := (List.range n).map fun k => (ad k, f k)
theorem zw_at {n : Nat} {ad : Nat → Nat} {f : Nat → va_E} {k : Nat} (h : k < n) : (zw n ad f)[k]? = some (ad k, f k) := by
  simp [zw, h]
theorem zw_none {n : Nat} {ad : Nat → Nat} {f : Nat → va_E} {k : Nat} (h : ¬ k < n) : (zw n ad f)[k]? = none :=
  List.getElem?_eq_none (by simp [zw]; omega)
theorem zw_some {n : Nat} {ad : Nat → Nat} {f : Nat → va_E} {k : Nat} {q : Nat × va_E} (h : (zw n ad f)[k]? = some q) : k < n ∧ q = (ad k, f k) := by
  by_cases hk : k < n
  · rw [zw_at hk] at h; exact ⟨hk, (Option.some.inj h).symm⟩
  · rw [zw_none hk] at h; cases h
theorem zw_set {n : Nat} {ad : Nat → Nat} {f : Nat → va_E} (k : Nat) (e : va_E) : (zw n ad f).set k (ad k, e) = zw n ad (va_up f k e) := by
  apply List.ext_getElem?
  intro i
  rw [List.getElem?_set]
  by_cases hi : i < n
  · rw [zw_at hi]
    by_cases hk : k = i
    · subst hk
      simp [zw, hi, va_up]
    · simp [hk, zw_at hi, va_up, Ne.symm hk]
  · rw [zw_none hi]
    by_cases hk : k = i
    · subst hk
      simp [zw, hi]
    · simp [hk, zw_none hi]
theorem zw_push {n : Nat} {ad : Nat → Nat} {f : Nat → va_E} (a : Nat) (e : va_E) : zw n ad f ++ [(a, e)] = zw (n + 1) (va_up ad n a) (va_up f n e) := by
  simp only [zw, List.range_succ, List.map_append, List.map_cons, List.map_nil, va_up_self]
  congr 1
  apply List.map_congr_left
  intro k hk
  have := List.mem_range.mp hk
  rw [va_up_ne _ _ (Nat.ne_of_lt this), va_up_ne _ _ (Nat.ne_of_lt this)]
theorem zw_congr {n : Nat} {ad : Nat → Nat} {f g : Nat → va_E} (h : ∀ k, k < n → f k = g k) : zw n ad f = zw n ad g := List.map_congr_left (fun k hk => by rw [h k (List.mem_range.mp hk)])
theorem zw_adcongr {n : Nat} {ad ae : Nat → Nat} {f g : Nat → va_E} (ha : ∀ k, k < n → ad k = ae k) (h : ∀ k, k < n → f k = g k) : zw n ad f = zw n ae g := List.map_congr_left (fun k hk => by rw [h k (List.mem_range.mp hk), ha k (List.mem_range.mp hk)])
/-- the array classes, by their places: int, boolean, Site, Case, long -/
abbrev tyL (k : Nat → ClassId) : List (ClassId × FieldType) := [(k 0, .int), (k 1, .boolean), (k 2, .object RX1), (k 3, .object RX0), (k 4, .long)]
/-- no cell at all -/
def noA : Nat → Prop := fun _ => False
theorem z_keptP {D : va_G} {cl : List vw_C} {ws : va_W} {H H1 : Heap} (h : va_P D cl ws H) (hk : ∀ q : Nat, q < H.size → ¬ noA q → H1[q]? = H[q]?) : va_P D cl ws H1 := h.kept (fun k q hq => hk q.1 (h k q hq).lt (fun z => z))
section ZR
variable {p : Program} {l : Launch} {e : Env} {R : Room} {s : State} {m : MethodId} {args : Array Value} {below : List Frame} {meth : Method} {c : Code} {H : Heap} {locs : List Loc} {cells slots : Nat} {Q : State → Prop}
variable {cc : ByteArray} {nL : Nat} {Ts : List Cond} {own : String} {pc : Nat} {ls : Array Slot} {rest : List Value} {D : va_G} {cl : List vw_C} {A : Nat → Prop} {tys : List (ClassId × FieldType)} {H0 : Heap} {n : Nat} {ad : Nat → Nat} {f : Nat → va_E}
theorem z_top {x y : Int32} (h : x = y) (k : W p l e R s m args below meth c H locs cells slots Q (F0 m pc ls (.int y :: rest))) : W p l e R s m args below meth c H locs cells slots Q (F0 m pc ls (.int x :: rest)) := h ▸ k
theorem z_rf {x : Nat} (k : W p l e R s m args below meth c H locs cells slots Q (F0 m pc ls (.ref x :: rest))) : W p l e R s m args below meth c H locs cells slots Q (F0 m pc ls (va_rf (some x) :: rest)) := k
theorem z_rn (k : W p l e R s m args below meth c H locs cells slots Q (F0 m pc ls (.null :: rest))) : W p l e R s m args below meth c H locs cells slots Q (F0 m pc ls (va_rf none :: rest)) := k
theorem z_get (F : CallFix p m c cc nL s args Ts own) (hK : va_K D cl tys s) (hP : va_P D cl (zw n ad f) H) {C : String} {T : u_T} {N ci index : Nat} (hin : ∀ w ∈ u_ws C T N, w ∈ Ts) (hc : cl[ci]? = some (C, T, N)) (q0 k : Nat) {fs : List Value} {v : Value} (hq : q0 < n) (he : f q0 = .inr (ci, fs)) (hk : k < N) (hv : fs[k]? = some v) (hlk : Cond.fieldLink own index (T k).1 (T k).2.1 (T k).2.2.1 ∈ Ts) (hdg : decode cc pc = .ok (.getfield index, 3))
    (kk : W p l e R s m args below meth c H locs cells slots Q (F0 m (pc + 3) ls (v :: rest))) : W p l e R s m args below meth c H locs cells slots Q (F0 m pc ls (.ref (ad q0) :: rest)) :=
  va_get F.1 F.2.1 F.2.2.2.2 hin F.2.2.2.1 hK hP q0 ((zw_at hq).trans (by rw [he])) hc k hk (F.2.2.2.2 _ hlk) (fun _ h => h) hv hdg kk
theorem z_put (F : CallFix p m c cc nL s args Ts own) (hK : va_K D cl tys s) (hP : va_P D cl (zw n ad f) H) (hD : va_D A (zw n ad f)) (hS : va_S A H0 H locs) {C : String} {T : u_T} {N ci index : Nat} (hin : ∀ w ∈ u_ws C T N, w ∈ Ts) (hc : cl[ci]? = some (C, T, N)) (ty0 : Nat → FieldType) (hty : ∀ k, k < N → parseFieldDescriptor (T k).2.2.1 = some (ty0 k)) (hnm : ∀ a, a < N → ∀ b, b < N → a ≠ b → (T a).2.1 ≠ (T b).2.1) (q0 k : Nat) {fs : List Value} {v : Value} {f' : Nat → va_E} (hq : q0 < n) (he : f q0 = .inr (ci, fs)) (hk : k < N) (hl : k < fs.length) (hlk : Cond.fieldLink own index (T k).1 (T k).2.1 (T k).2.2.1 ∈ Ts) (hfin : (T k).2.2.2 = false) {ty : FieldType} (hd : ty0 k = ty) (hn : narrow ty v = v) (hfit : fits ty v = true) (hf : va_up f q0 (.inr (ci, fs.set k v)) = f') (hdg : decode cc pc = .ok (.putfield index, 3))
    (kk : ∀ (H1 : Heap) (locs1 : List Loc), va_P D cl (zw n ad f') H1 → va_D A (zw n ad f') → va_S A H0 H1 locs1 → W p l e R s m args below meth c H1 locs1 cells slots Q (F0 m (pc + 3) ls rest)) : W p l e R s m args below meth c H locs cells slots Q (F0 m pc ls (v :: .ref (ad q0) :: rest)) := by
  subst hd
  refine va_put F.1 F.2.1 F.2.2.2.2 hin ty0 hty hnm F.2.2.2.1 hK hP hD hS q0 ((zw_at hq).trans (by rw [he])) hc k hk (F.2.2.2.2 _ hlk) (fun _ h => h) hfin (hty k hk) hn hfit hl hdg fun H1 locs1 h1 h2 h3 => ?_
  rw [zw_set, hf] at h1 h2
  exact kk H1 locs1 h1 h2 h3
theorem z_putF (F : CallFix p m c cc nL s args Ts own) (hK : va_K D cl tys s) (hP : va_P D cl (zw n ad f) H) (hD : va_D A (zw n ad f)) (hS : va_S A H0 H locs) {C : String} {T : u_T} {N ci index : Nat} (hin : ∀ w ∈ u_ws C T N, w ∈ Ts) (hc : cl[ci]? = some (C, T, N)) (ty0 : Nat → FieldType) (hty : ∀ k, k < N → parseFieldDescriptor (T k).2.2.1 = some (ty0 k)) (hnm : ∀ a, a < N → ∀ b, b < N → a ≠ b → (T a).2.1 ≠ (T b).2.1) (hin2 : meth.name = "<init>") (q0 k : Nat) {fs : List Value} {v : Value} {f' : Nat → va_E} (hq : q0 < n) (he : f q0 = .inr (ci, fs)) (hk : k < N) (hl : k < fs.length) (hlk : Cond.fieldLink own index (T k).1 (T k).2.1 (T k).2.2.1 ∈ Ts) (hfin : (T k).2.2.2 = true) (hdecl : (T k).1 = own) {ty : FieldType} (hd : ty0 k = ty) (hn : narrow ty v = v) (hfit : fits ty v = true) (hf : va_up f q0 (.inr (ci, fs.set k v)) = f') (hdg : decode cc pc = .ok (.putfield index, 3))
    (kk : ∀ (H1 : Heap) (locs1 : List Loc), va_P D cl (zw n ad f') H1 → va_D A (zw n ad f') → va_S A H0 H1 locs1 → W p l e R s m args below meth c H1 locs1 cells slots Q (F0 m (pc + 3) ls rest)) : W p l e R s m args below meth c H locs cells slots Q (F0 m pc ls (v :: .ref (ad q0) :: rest)) := by
  subst hd
  refine va_putF F.1 F.2.1 F.2.2.2.2 hin ty0 hty hnm F.2.2.2.1 hK hP hD hS q0 ((zw_at hq).trans (by rw [he])) hc k hk (F.2.2.2.2 _ hlk) (fun _ h => h) hfin hin2 hdecl (hty k hk) hn hfit hl hdg fun H1 locs1 h1 h2 h3 => ?_
  rw [zw_set, hf] at h1 h2
  exact kk H1 locs1 h1 h2 h3
theorem z_iald (F : CallFix p m c cc nL s args Ts own) (hK : va_K D cl tys s) (hP : va_P D cl (zw n ad f) H) (q0 t0 : Nat) {cA : ClassId} {len : Nat} {g : Nat → Int32} (hq : q0 < n) (he : f q0 = .inl (cA, len, .inl g)) (ht : tys[t0]? = some (cA, .int)) {i : Int32} (j : Nat) (hi : i = nI j) (hj : j < len) (hlen : len < 2 ^ 31) {v : Int32} (hv : g j = v) (hdg : decode cc pc = .ok (.iaload, 1))
    (kk : W p l e R s m args below meth c H locs cells slots Q (F0 m (pc + 1) ls (.int v :: rest))) : W p l e R s m args below meth c H locs cells slots Q (F0 m pc ls (.int i :: .ref (ad q0) :: rest)) := by
  subst hi
  refine va_iald F.1 F.2.1 hK hP q0 t0 ((zw_at hq).trans (by rw [he])) ht (vp_in_nI hj hlen) hdg ?_
  rw [nI_clamp (by omega), hv]
  exact kk
theorem z_zald (F : CallFix p m c cc nL s args Ts own) (hK : va_K D cl tys s) (hP : va_P D cl (zw n ad f) H) (q0 t0 : Nat) {cA : ClassId} {len : Nat} {g : Nat → Int32} (hq : q0 < n) (he : f q0 = .inl (cA, len, .inl g)) (ht : tys[t0]? = some (cA, .boolean)) {i : Int32} (j : Nat) (hi : i = nI j) (hj : j < len) (hlen : len < 2 ^ 31) {v : Int32} (hv : g j = v) (hdg : decode cc pc = .ok (.baload, 1))
    (kk : W p l e R s m args below meth c H locs cells slots Q (F0 m (pc + 1) ls (.int v :: rest))) : W p l e R s m args below meth c H locs cells slots Q (F0 m pc ls (.int i :: .ref (ad q0) :: rest)) := by
  subst hi
  refine va_zald F.1 F.2.1 hK hP q0 t0 ((zw_at hq).trans (by rw [he])) ht (vp_in_nI hj hlen) hdg ?_
  rw [nI_clamp (by omega), hv]
  exact kk
theorem z_lald (F : CallFix p m c cc nL s args Ts own) (hK : va_K D cl tys s) (hP : va_P D cl (zw n ad f) H) (q0 t0 : Nat) {cA : ClassId} {len : Nat} {g : Nat → Int64} (hq : q0 < n) (he : f q0 = .inl (cA, len, .inr (.inl g))) (ht : tys[t0]? = some (cA, .long)) {i : Int32} (j : Nat) (hi : i = nI j) (hj : j < len) (hlen : len < 2 ^ 31) {v : Int64} (hv : g j = v) (hdg : decode cc pc = .ok (.laload, 1))
    (kk : W p l e R s m args below meth c H locs cells slots Q (F0 m (pc + 1) ls (.long v :: rest))) : W p l e R s m args below meth c H locs cells slots Q (F0 m pc ls (.int i :: .ref (ad q0) :: rest)) := by
  subst hi
  refine va_lald F.1 F.2.1 hK hP q0 t0 ((zw_at hq).trans (by rw [he])) ht (vp_in_nI hj hlen) hdg ?_
  rw [nI_clamp (by omega), hv]
  exact kk
theorem z_aldq (F : CallFix p m c cc nL s args Ts own) (hK : va_K D cl tys s) (hP : va_P D cl (zw n ad f) H) (q0 t0 : Nat) {cA : ClassId} {C : String} {len : Nat} {g : Nat → Option Nat} (hq : q0 < n) (he : f q0 = .inl (cA, len, .inr (.inr (.inr (.inr g))))) (ht : tys[t0]? = some (cA, .object C)) {i : Int32} (j : Nat) (hi : i = nI j) (hj : j < len) (hlen : len < 2 ^ 31) {v : Option Nat} (hv : g j = v) (hdg : decode cc pc = .ok (.aaload, 1))
    (kk : W p l e R s m args below meth c H locs cells slots Q (F0 m (pc + 1) ls (va_rf v :: rest))) : W p l e R s m args below meth c H locs cells slots Q (F0 m pc ls (.int i :: .ref (ad q0) :: rest)) := by
  subst hi
  refine va_aldq F.1 F.2.1 hK hP q0 t0 ((zw_at hq).trans (by rw [he])) ht (vp_in_nI hj hlen) hdg ?_
  rw [nI_clamp (by omega), hv]
  exact kk
theorem z_iast (F : CallFix p m c cc nL s args Ts own) (hK : va_K D cl tys s) (hP : va_P D cl (zw n ad f) H) (hD : va_D A (zw n ad f)) (hS : va_S A H0 H locs) (q0 t0 : Nat) {cA : ClassId} {len : Nat} {g : Nat → Int32} {f' : Nat → va_E} (hq : q0 < n) (he : f q0 = .inl (cA, len, .inl g)) (ht : tys[t0]? = some (cA, .int)) {i x : Int32} (j : Nat) (hi : i = nI j) (hj : j < len) (hlen : len < 2 ^ 31) (hf : va_up f q0 (.inl (cA, len, .inl (upd g j x))) = f') (hdg : decode cc pc = .ok (.iastore, 1))
    (kk : ∀ (H1 : Heap) (locs1 : List Loc), va_P D cl (zw n ad f') H1 → va_D A (zw n ad f') → va_S A H0 H1 locs1 → W p l e R s m args below meth c H1 locs1 cells slots Q (F0 m (pc + 1) ls rest)) : W p l e R s m args below meth c H locs cells slots Q (F0 m pc ls (.int x :: .int i :: .ref (ad q0) :: rest)) := by
  subst hi
  refine va_iast F.1 F.2.1 hK hP hD hS q0 t0 ((zw_at hq).trans (by rw [he])) ht (vp_in_nI hj hlen) hdg fun H1 locs1 h1 h2 h3 => ?_
  rw [nI_clamp (by omega), zw_set] at h1 h2
  first
    | (rw [hf] at h1 h2; exact kk H1 locs1 h1 h2 h3)
    | (rw [show vp_nar .int x = x from rfl, hf] at h1 h2; exact kk H1 locs1 h1 h2 h3)
theorem z_zast (F : CallFix p m c cc nL s args Ts own) (hK : va_K D cl tys s) (hP : va_P D cl (zw n ad f) H) (hD : va_D A (zw n ad f)) (hS : va_S A H0 H locs) (q0 t0 : Nat) {cA : ClassId} {len : Nat} {g : Nat → Int32} {f' : Nat → va_E} (hq : q0 < n) (he : f q0 = .inl (cA, len, .inl g)) (ht : tys[t0]? = some (cA, .boolean)) {i x : Int32} (j : Nat) (hi : i = nI j) (hj : j < len) (hlen : len < 2 ^ 31) (hx : vp_nar .boolean x = x) (hf : va_up f q0 (.inl (cA, len, .inl (upd g j x))) = f') (hdg : decode cc pc = .ok (.bastore, 1))
    (kk : ∀ (H1 : Heap) (locs1 : List Loc), va_P D cl (zw n ad f') H1 → va_D A (zw n ad f') → va_S A H0 H1 locs1 → W p l e R s m args below meth c H1 locs1 cells slots Q (F0 m (pc + 1) ls rest)) : W p l e R s m args below meth c H locs cells slots Q (F0 m pc ls (.int x :: .int i :: .ref (ad q0) :: rest)) := by
  subst hi
  refine va_zast F.1 F.2.1 hK hP hD hS q0 t0 ((zw_at hq).trans (by rw [he])) ht (vp_in_nI hj hlen) hdg fun H1 locs1 h1 h2 h3 => ?_
  rw [nI_clamp (by omega), zw_set, hx, hf] at h1 h2
  exact kk H1 locs1 h1 h2 h3
theorem z_last (F : CallFix p m c cc nL s args Ts own) (hK : va_K D cl tys s) (hP : va_P D cl (zw n ad f) H) (hD : va_D A (zw n ad f)) (hS : va_S A H0 H locs) (q0 t0 : Nat) {cA : ClassId} {len : Nat} {g : Nat → Int64} {f' : Nat → va_E} (hq : q0 < n) (he : f q0 = .inl (cA, len, .inr (.inl g))) (ht : tys[t0]? = some (cA, .long)) {i : Int32} {x : Int64} (j : Nat) (hi : i = nI j) (hj : j < len) (hlen : len < 2 ^ 31) (hf : va_up f q0 (.inl (cA, len, .inr (.inl (vp_updL g j x)))) = f') (hdg : decode cc pc = .ok (.lastore, 1))
    (kk : ∀ (H1 : Heap) (locs1 : List Loc), va_P D cl (zw n ad f') H1 → va_D A (zw n ad f') → va_S A H0 H1 locs1 → W p l e R s m args below meth c H1 locs1 cells slots Q (F0 m (pc + 1) ls rest)) : W p l e R s m args below meth c H locs cells slots Q (F0 m pc ls (.long x :: .int i :: .ref (ad q0) :: rest)) := by
  subst hi
  refine va_last F.1 F.2.1 hK hP hD hS q0 t0 ((zw_at hq).trans (by rw [he])) ht (vp_in_nI hj hlen) hdg fun H1 locs1 h1 h2 h3 => ?_
  rw [nI_clamp (by omega), zw_set, hf] at h1 h2
  exact kk H1 locs1 h1 h2 h3
theorem z_astq (F : CallFix p m c cc nL s args Ts own) (hK : va_K D cl tys s) (hP : va_P D cl (zw n ad f) H) (hD : va_D A (zw n ad f)) (hS : va_S A H0 H locs) (q0 t0 qk ci : Nat) {cA : ClassId} {r : vw_C} {len : Nat} {vs : List Value} {g : Nat → Option Nat} {f' : Nat → va_E} (hq : q0 < n) (he : f q0 = .inl (cA, len, .inr (.inr (.inr (.inr g))))) (ht : tys[t0]? = some (cA, .object r.1)) (hqk : qk < n) (hev : f qk = .inr (ci, vs)) (hc : cl[ci]? = some r) {i : Int32} (j : Nat) (hi : i = nI j) (hj : j < len) (hlen : len < 2 ^ 31) (hf : va_up f q0 (.inl (cA, len, .inr (.inr (.inr (.inr (va_up g j (some (ad qk)))))))) = f') (hdg : decode cc pc = .ok (.aastore, 1))
    (kk : ∀ (H1 : Heap) (locs1 : List Loc), va_P D cl (zw n ad f') H1 → va_D A (zw n ad f') → va_S A H0 H1 locs1 → W p l e R s m args below meth c H1 locs1 cells slots Q (F0 m (pc + 1) ls rest)) : W p l e R s m args below meth c H locs cells slots Q (F0 m pc ls (.ref (ad qk) :: .int i :: .ref (ad q0) :: rest)) := by
  subst hi
  refine va_astq F.1 F.2.1 hK hP hD hS q0 t0 qk ci ((zw_at hq).trans (by rw [he])) ht ((zw_at hqk).trans (by rw [hev])) hc (vp_in_nI hj hlen) hdg fun H1 locs1 h1 h2 h3 => ?_
  rw [nI_clamp (by omega), zw_set, hf] at h1 h2
  exact kk H1 locs1 h1 h2 h3
theorem z_alen (F : CallFix p m c cc nL s args Ts own) (hK : va_K D cl tys s) (hP : va_P D cl (zw n ad f) H) (q0 t0 : Nat) {cA : ClassId} {x : vp_A} (hq : q0 < n) (he : f q0 = .inl (cA, x)) {ty : FieldType} (ht : tys[t0]? = some (cA, ty)) (len : Nat) (hv : x.1 = len) (hdg : decode cc pc = .ok (.arraylength, 1))
    (kk : W p l e R s m args below meth c H locs cells slots Q (F0 m (pc + 1) ls (.int (nI len) :: rest))) : W p l e R s m args below meth c H locs cells slots Q (F0 m pc ls (.ref (ad q0) :: rest)) :=
  va_alen F.1 F.2.1 hK hP q0 t0 ((zw_at hq).trans (by rw [he])) ht (v := nI len) (by rw [hv]; rfl) hdg kk
/-! arithmetic over naturals -/
theorem z_add (F : CallFix p m c cc nL s args Ts own) {a b : Nat} (hdg : decode cc pc = .ok (.iadd, 1)) (k : W p l e R s m args below meth c H locs cells slots Q (F0 m (pc + 1) ls (.int (nI (a + b)) :: rest))) : W p l e R s m args below meth c H locs cells slots Q (F0 m pc ls (.int (nI b) :: .int (nI a) :: rest)) :=
  lv_iadd F.1 F.2.1 hdg (z_top (nI_add a b) k)
theorem z_sub (F : CallFix p m c cc nL s args Ts own) {a b : Nat} (h : b ≤ a) (hdg : decode cc pc = .ok (.isub, 1)) (k : W p l e R s m args below meth c H locs cells slots Q (F0 m (pc + 1) ls (.int (nI (a - b)) :: rest))) : W p l e R s m args below meth c H locs cells slots Q (F0 m pc ls (.int (nI b) :: .int (nI a) :: rest)) :=
  lv_isub F.1 F.2.1 hdg (z_top (pk_sub h) k)
theorem z_mul (F : CallFix p m c cc nL s args Ts own) {a b : Nat} (hdg : decode cc pc = .ok (.imul, 1)) (k : W p l e R s m args below meth c H locs cells slots Q (F0 m (pc + 1) ls (.int (nI (a * b)) :: rest))) : W p l e R s m args below meth c H locs cells slots Q (F0 m pc ls (.int (nI b) :: .int (nI a) :: rest)) :=
  lv_imul F.1 F.2.1 hdg (z_top (pk_mul a b) k)
theorem z_div (F : CallFix p m c cc nL s args Ts own) {a b : Nat} (ha : a < 2 ^ 31) (h0 : 0 < b) (hb : b < 2 ^ 31) (hdg : decode cc pc = .ok (.idiv, 1)) (k : W p l e R s m args below meth c H locs cells slots Q (F0 m (pc + 1) ls (.int (nI (a / b)) :: rest))) : W p l e R s m args below meth c H locs cells slots Q (F0 m pc ls (.int (nI b) :: .int (nI a) :: rest)) :=
  lv_idiv F.1 F.2.1 hdg (nI_ne0 h0 hb) (z_top (pk_div ha h0 hb) k)
theorem z_rem (F : CallFix p m c cc nL s args Ts own) {a b : Nat} (ha : a < 2 ^ 31) (h0 : 0 < b) (hb : b < 2 ^ 31) (hdg : decode cc pc = .ok (.irem, 1)) (k : W p l e R s m args below meth c H locs cells slots Q (F0 m (pc + 1) ls (.int (nI (a % b)) :: rest))) : W p l e R s m args below meth c H locs cells slots Q (F0 m pc ls (.int (nI b) :: .int (nI a) :: rest)) :=
  lv_irem F.1 F.2.1 hdg (nI_ne0 h0 hb) (z_top (pk_rem ha h0 hb) k)
/-! branches over naturals and truths -/
theorem z_icmp_eq {a b : Nat} {off : Int} {tgt : Nat} (F : CallFix p m c cc nL s args Ts own) (ha : a < 2 ^ 31) (hb : b < 2 ^ 31) (hdg : decode cc pc = .ok (.if_icmp .eq off, 3)) (ht : (pc : Int) + off = (tgt : Int))
    (kt : a = b → W p l e R s m args below meth c H locs cells slots Q (F0 m tgt ls rest)) (kf : a ≠ b → W p l e R s m args below meth c H locs cells slots Q (F0 m (pc + 3) ls rest)) : W p l e R s m args below meth c H locs cells slots Q (F0 m pc ls (.int (nI b) :: .int (nI a) :: rest)) :=
  lv_icmp_eq F.1 F.2.1 hdg ht (fun q => kt ((nI_eq ha hb).mp q)) (fun q => kf (fun z => q ((nI_eq ha hb).mpr z)))
theorem z_icmp_ne {a b : Nat} {off : Int} {tgt : Nat} (F : CallFix p m c cc nL s args Ts own) (ha : a < 2 ^ 31) (hb : b < 2 ^ 31) (hdg : decode cc pc = .ok (.if_icmp .ne off, 3)) (ht : (pc : Int) + off = (tgt : Int))
    (kt : a ≠ b → W p l e R s m args below meth c H locs cells slots Q (F0 m tgt ls rest)) (kf : a = b → W p l e R s m args below meth c H locs cells slots Q (F0 m (pc + 3) ls rest)) : W p l e R s m args below meth c H locs cells slots Q (F0 m pc ls (.int (nI b) :: .int (nI a) :: rest)) :=
  lv_icmp_ne F.1 F.2.1 hdg ht (fun q => kt (fun z => q ((nI_eq ha hb).mpr z))) (fun q => kf ((nI_eq ha hb).mp (by first | exact q | exact Decidable.not_not.mp q)))
theorem z_icmp_lt {a b : Nat} {off : Int} {tgt : Nat} (F : CallFix p m c cc nL s args Ts own) (ha : a < 2 ^ 31) (hb : b < 2 ^ 31) (hdg : decode cc pc = .ok (.if_icmp .lt off, 3)) (ht : (pc : Int) + off = (tgt : Int))
    (kt : a < b → W p l e R s m args below meth c H locs cells slots Q (F0 m tgt ls rest)) (kf : b ≤ a → W p l e R s m args below meth c H locs cells slots Q (F0 m (pc + 3) ls rest)) : W p l e R s m args below meth c H locs cells slots Q (F0 m pc ls (.int (nI b) :: .int (nI a) :: rest)) :=
  lv_icmp_lt F.1 F.2.1 hdg ht (fun q => kt ((nI_ltI ha hb).mp q)) (fun q => kf (Nat.not_lt.mp (fun z => q ((nI_ltI ha hb).mpr z))))
theorem z_icmp_ge {a b : Nat} {off : Int} {tgt : Nat} (F : CallFix p m c cc nL s args Ts own) (ha : a < 2 ^ 31) (hb : b < 2 ^ 31) (hdg : decode cc pc = .ok (.if_icmp .ge off, 3)) (ht : (pc : Int) + off = (tgt : Int))
    (kt : b ≤ a → W p l e R s m args below meth c H locs cells slots Q (F0 m tgt ls rest)) (kf : a < b → W p l e R s m args below meth c H locs cells slots Q (F0 m (pc + 3) ls rest)) : W p l e R s m args below meth c H locs cells slots Q (F0 m pc ls (.int (nI b) :: .int (nI a) :: rest)) :=
  lv_icmp_ge F.1 F.2.1 hdg ht (fun q => kt ((nI_leI hb ha).mp q)) (fun q => kf (Nat.not_le.mp (fun z => q ((nI_leI hb ha).mpr z))))
theorem z_icmp_gt {a b : Nat} {off : Int} {tgt : Nat} (F : CallFix p m c cc nL s args Ts own) (ha : a < 2 ^ 31) (hb : b < 2 ^ 31) (hdg : decode cc pc = .ok (.if_icmp .gt off, 3)) (ht : (pc : Int) + off = (tgt : Int))
    (kt : b < a → W p l e R s m args below meth c H locs cells slots Q (F0 m tgt ls rest)) (kf : a ≤ b → W p l e R s m args below meth c H locs cells slots Q (F0 m (pc + 3) ls rest)) : W p l e R s m args below meth c H locs cells slots Q (F0 m pc ls (.int (nI b) :: .int (nI a) :: rest)) :=
  lv_icmp_gt F.1 F.2.1 hdg ht (fun q => kt ((nI_ltI hb ha).mp q)) (fun q => kf (Nat.not_lt.mp (fun z => q ((nI_ltI hb ha).mpr z))))
theorem z_icmp_le {a b : Nat} {off : Int} {tgt : Nat} (F : CallFix p m c cc nL s args Ts own) (ha : a < 2 ^ 31) (hb : b < 2 ^ 31) (hdg : decode cc pc = .ok (.if_icmp .le off, 3)) (ht : (pc : Int) + off = (tgt : Int))
    (kt : a ≤ b → W p l e R s m args below meth c H locs cells slots Q (F0 m tgt ls rest)) (kf : b < a → W p l e R s m args below meth c H locs cells slots Q (F0 m (pc + 3) ls rest)) : W p l e R s m args below meth c H locs cells slots Q (F0 m pc ls (.int (nI b) :: .int (nI a) :: rest)) :=
  lv_icmp_le F.1 F.2.1 hdg ht (fun q => kt ((nI_leI ha hb).mp q)) (fun q => kf (Nat.not_le.mp (fun z => q ((nI_leI ha hb).mpr z))))
theorem z_n0 {a : Nat} (ha : a < 2 ^ 31) : nI a = 0 ↔ a = 0 := by
  rw [← nI_0, nI_eq ha (by decide)]
theorem z_ifn_eq {a : Nat} {off : Int} {tgt : Nat} (F : CallFix p m c cc nL s args Ts own) (ha : a < 2 ^ 31) (hdg : decode cc pc = .ok (.ifCond .eq off, 3)) (ht : (pc : Int) + off = (tgt : Int)) (kt : a = 0 → W p l e R s m args below meth c H locs cells slots Q (F0 m tgt ls rest)) (kf : a ≠ 0 → W p l e R s m args below meth c H locs cells slots Q (F0 m (pc + 3) ls rest)) : W p l e R s m args below meth c H locs cells slots Q (F0 m pc ls (.int (nI a) :: rest)) :=
  lv_if_eq F.1 F.2.1 hdg ht (fun q => kt ((z_n0 ha).mp q)) (fun q => kf (fun z => q ((z_n0 ha).mpr z)))
theorem z_ifn_ne {a : Nat} {off : Int} {tgt : Nat} (F : CallFix p m c cc nL s args Ts own) (ha : a < 2 ^ 31) (hdg : decode cc pc = .ok (.ifCond .ne off, 3)) (ht : (pc : Int) + off = (tgt : Int)) (kt : a ≠ 0 → W p l e R s m args below meth c H locs cells slots Q (F0 m tgt ls rest)) (kf : a = 0 → W p l e R s m args below meth c H locs cells slots Q (F0 m (pc + 3) ls rest)) : W p l e R s m args below meth c H locs cells slots Q (F0 m pc ls (.int (nI a) :: rest)) :=
  lv_if_ne F.1 F.2.1 hdg ht (fun q => kt (fun z => q ((z_n0 ha).mpr z))) (fun q => kf ((z_n0 ha).mp (by first | exact q | exact Decidable.not_not.mp q)))
theorem z_ifn_eqT {off : Int} {tgt : Nat} (F : CallFix p m c cc nL s args Ts own) (hdg : decode cc pc = .ok (.ifCond .eq off, 3)) (ht : (pc : Int) + off = (tgt : Int)) (k : W p l e R s m args below meth c H locs cells slots Q (F0 m tgt ls rest)) : W p l e R s m args below meth c H locs cells slots Q (F0 m pc ls (.int (nI 0) :: rest)) :=
  lv_if_eq F.1 F.2.1 hdg ht (fun _ => k) (fun q => absurd nI_0 q)
theorem z_ifn_eqF {x : Int32} {off : Int} (F : CallFix p m c cc nL s args Ts own) (h : ¬ x = 0) (hdg : decode cc pc = .ok (.ifCond .eq off, 3)) {tgt : Nat} (ht : (pc : Int) + off = (tgt : Int)) (k : W p l e R s m args below meth c H locs cells slots Q (F0 m (pc + 3) ls rest)) : W p l e R s m args below meth c H locs cells slots Q (F0 m pc ls (.int x :: rest)) :=
  lv_if_eq F.1 F.2.1 hdg ht (fun q => absurd q h) (fun _ => k)
theorem z_ifn_neT {x : Int32} {off : Int} {tgt : Nat} (F : CallFix p m c cc nL s args Ts own) (h : ¬ x = 0) (hdg : decode cc pc = .ok (.ifCond .ne off, 3)) (ht : (pc : Int) + off = (tgt : Int)) (k : W p l e R s m args below meth c H locs cells slots Q (F0 m tgt ls rest)) : W p l e R s m args below meth c H locs cells slots Q (F0 m pc ls (.int x :: rest)) :=
  lv_if_ne F.1 F.2.1 hdg ht (fun _ => k) (fun q => absurd q (by first | exact h | exact fun z => z h))
theorem z_ifn_neF {off : Int} {tgt : Nat} (F : CallFix p m c cc nL s args Ts own) (hdg : decode cc pc = .ok (.ifCond .ne off, 3)) (ht : (pc : Int) + off = (tgt : Int)) (k : W p l e R s m args below meth c H locs cells slots Q (F0 m (pc + 3) ls rest)) : W p l e R s m args below meth c H locs cells slots Q (F0 m pc ls (.int (nI 0) :: rest)) :=
  lv_if_ne F.1 F.2.1 hdg ht (fun q => absurd nI_0 q) (fun _ => k)
end ZR
end
section
/-! THE STATE: M r i, a table of naturals; O r i, two rows of ints (0: hours ahead, 1: cents owed).
M 0 0 now, M 0 1 how many cases; of the site i: 1 days, 2 first, 3 last, 7 how many contracts; 4, 5, 6 its contracts' kinds, from, to, at 8 i + j; 8 promises (3 gravity + stage);
of the case c: 9 site, 10 kind, 11 gravity, 12 state, 13 head (0 none, else its number + 1), 14 rests, 15 its clocks, at 3 c + stage, 16 how many stages are reached. -/
def zu (M : Nat → Nat → Nat) (r i v : Nat) : Nat → Nat → Nat := fun a b => if a = r ∧ b = i then v else M a b
def zo (O : Nat → Nat → Int32) (r i : Nat) (v : Int32) : Nat → Nat → Int32 := fun a b => if a = r ∧ b = i then v else O a b
theorem zu_s (M : Nat → Nat → Nat) (r i v : Nat) : zu M r i v r i = v := by simp [zu]
theorem zu_r (M : Nat → Nat → Nat) {r a : Nat} (i v b : Nat) (h : a ≠ r) : zu M r i v a b = M a b := by simp [zu, h]
theorem zu_i (M : Nat → Nat → Nat) (r v a : Nat) {i b : Nat} (h : b ≠ i) : zu M r i v a b = M a b := by simp [zu, h]
theorem zo_s (O : Nat → Nat → Int32) (r i : Nat) (v : Int32) : zo O r i v r i = v := by simp [zo]
theorem zo_r (O : Nat → Nat → Int32) {r a : Nat} (i : Nat) (v : Int32) (b : Nat) (h : a ≠ r) : zo O r i v a b = O a b := by simp [zo, h]
theorem zo_i (O : Nat → Nat → Int32) (r : Nat) (v : Int32) (a : Nat) {i b : Nat} (h : b ≠ i) : zo O r i v a b = O a b := by simp [zo, h]
noncomputable def bI (P : Prop) : Int32 := @ite _ P (Classical.propDecidable P) 1 0
theorem bI_t {P : Prop} (h : P) : bI P = 1 := by unfold bI; exact if_pos h
theorem bI_f {P : Prop} (h : ¬ P) : bI P = 0 := by unfold bI; exact if_neg h
theorem bI_c {P Q : Prop} (h : P ↔ Q) : bI P = bI Q := by rw [propext h]
theorem bI_01 (P : Prop) : bI P = 0 ∨ bI P = 1 := by
  by_cases h : P
  · exact Or.inr (bI_t h)
  · exact Or.inl (bI_f h)
theorem bI_0 {P : Prop} : bI P = 0 ↔ ¬ P := by
  by_cases h : P
  · rw [bI_t h]; exact ⟨fun z => absurd z (by decide), fun z => absurd h z⟩
  · rw [bI_f h]; exact ⟨fun _ => h, fun _ => rfl⟩
theorem bI_n {P : Prop} : narrow .boolean (.int (bI P)) = .int (bI P) := by
  rcases bI_01 P with h | h <;> rw [h] <;> rfl
theorem bI_v {P : Prop} : vp_nar .boolean (bI P) = bI P := by
  rcases bI_01 P with h | h <;> rw [h] <;> rfl
theorem bI_fit {P : Prop} : fits .boolean (.int (bI P)) = true := by
  rcases bI_01 P with h | h <;> rw [h] <;> rfl
def hdI (x : Nat) : Int32 := if x = 0 then -1 else nI (x - 1)
def hdR (ad : Nat → Nat) (x : Nat) : Option Nat := if x = 0 then none else some (ad (20 + 2 * (x - 1)))
abbrev dObj (ad : Nat → Nat) (M : Nat → Nat → Nat) : List Value := [.ref (ad 1), .ref (ad 2), .ref (ad 3), .int (nI (M 0 1)), .int (nI (M 0 0))]
abbrev sObj (ad : Nat → Nat) (M : Nat → Nat → Nat) (O : Nat → Nat → Int32) (i : Nat) : List Value := [.int (nI (M 1 i)), .int (nI (M 2 i)), .int (nI (M 3 i)), .ref (ad (5 + 4 * i)), .ref (ad (6 + 4 * i)), .ref (ad (7 + 4 * i)), .int (nI (M 7 i)), .int (O 0 i), .int (O 1 i)]
abbrev cObj (ad : Nat → Nat) (M : Nat → Nat → Nat) (c : Nat) : List Value := [.ref (ad (4 + 4 * M 9 c)), .int (nI (M 10 c)), .int (nI (M 11 c)), .int (nI (M 12 c)), .int (nI (M 14 c)), va_rf (hdR ad (M 13 c)), .int (nI (M 16 c)), .ref (ad (21 + 2 * c))]
/-- a row of the table, from b on, w places long -/
def rw0 (M : Nat → Nat → Nat) (r b w : Nat) : Nat → Int32 := fun j => if j < w then nI (M r (b + j)) else 0
theorem rw0_at {M : Nat → Nat → Nat} {r b w j : Nat} (h : j < w) : rw0 M r b w j = nI (M r (b + j)) := by unfold rw0; rw [if_pos h]
theorem rw0_at0 {M : Nat → Nat → Nat} {r w j : Nat} (h : j < w) : rw0 M r 0 w j = nI (M r j) := by rw [rw0_at h, Nat.zero_add]
theorem rw0_cg {M M' : Nat → Nat → Nat} {r b w : Nat} (h : ∀ j, j < w → M' r (b + j) = M r (b + j)) : rw0 M' r b w = rw0 M r b w := by
  funext j
  unfold rw0
  by_cases hj : j < w
  · rw [if_pos hj, if_pos hj, h j hj]
  · rw [if_neg hj, if_neg hj]
theorem rw0_up {M : Nat → Nat → Nat} {r b w j v : Nat} (h : j < w) : upd (rw0 M r b w) j (nI v) = rw0 (zu M r (b + j) v) r b w := by
  funext x
  unfold rw0 upd
  by_cases hx : x = j
  · subst hx
    rw [if_pos rfl, if_pos h, zu_s]
  · rw [if_neg hx]
    show (if x < w then nI (M r (b + x)) else 0) = _
    by_cases hw : x < w
    · rw [if_pos hw, if_pos hw, zu_i _ _ _ _ (by omega)]
    · rw [if_neg hw, if_neg hw]
/-- the class's world: 0 the desk, 1 sites, 2 promises, 3 cases; 4 + 4 i the site i, its three rows behind it; 20 + 2 c the case c, its clocks behind it -/
def cX (k : Nat → ClassId) (ad : Nat → Nat) (M : Nat → Nat → Nat) (O : Nat → Nat → Int32) (q : Nat) : va_E :=
  if q = 0 then .inr (2, dObj ad M)
  else if q = 1 then .inl (k 2, 4, .inr (.inr (.inr (.inr (fun i => some (ad (4 + 4 * i)))))))
  else if q = 2 then .inl (k 0, 9, .inl (rw0 M 8 0 9))
  else if q = 3 then .inl (k 3, 40, .inr (.inr (.inr (.inr (fun c => if c < M 0 1 then some (ad (20 + 2 * c)) else none)))))
  else if q < 20 then (if q % 4 = 0 then .inr (1, sObj ad M O ((q - 4) / 4)) else .inl (k 0, 8, .inl (rw0 M (4 + (q % 4 - 1)) (8 * ((q - 4) / 4)) 8)))
  else if q % 2 = 0 then .inr (0, cObj ad M ((q - 20) / 2))
  else .inl (k 0, 3, .inl (rw0 M 15 (3 * ((q - 20) / 2)) 3))
abbrev nX (M : Nat → Nat → Nat) : Nat := 20 + 2 * M 0 1
section ST
variable {k : Nat → ClassId} {ad bd : Nat → Nat} {M M' : Nat → Nat → Nat} {O O' : Nat → Nat → Int32}
theorem cX_0 : cX k ad M O 0 = .inr (2, dObj ad M) := rfl
theorem cX_1 : cX k ad M O 1 = .inl (k 2, 4, .inr (.inr (.inr (.inr (fun i => some (ad (4 + 4 * i))))))) := rfl
theorem cX_2 : cX k ad M O 2 = .inl (k 0, 9, .inl (rw0 M 8 0 9)) := rfl
theorem cX_3 : cX k ad M O 3 = .inl (k 3, 40, .inr (.inr (.inr (.inr (fun c => if c < M 0 1 then some (ad (20 + 2 * c)) else none))))) := rfl
theorem cX_s {i : Nat} (hi : i < 4) : cX k ad M O (4 + 4 * i) = .inr (1, sObj ad M O i) := by
  unfold cX
  rw [if_neg (by omega), if_neg (by omega), if_neg (by omega), if_neg (by omega), if_pos (by omega), if_pos (by omega), show (4 + 4 * i - 4) / 4 = i by omega]
theorem cX_a {i r : Nat} (hi : i < 4) (hr : r < 3) : cX k ad M O (5 + r + 4 * i) = .inl (k 0, 8, .inl (rw0 M (4 + r) (8 * i) 8)) := by
  unfold cX
  rw [if_neg (by omega), if_neg (by omega), if_neg (by omega), if_neg (by omega), if_pos (by omega), if_neg (by omega), show (5 + r + 4 * i - 4) / 4 = i by omega, show (5 + r + 4 * i) % 4 - 1 = r by omega]
theorem cX_a0 {i : Nat} (hi : i < 4) : cX k ad M O (5 + 4 * i) = .inl (k 0, 8, .inl (rw0 M 4 (8 * i) 8)) := cX_a (r := 0) hi (by decide)
theorem cX_a1 {i : Nat} (hi : i < 4) : cX k ad M O (6 + 4 * i) = .inl (k 0, 8, .inl (rw0 M 5 (8 * i) 8)) := cX_a (r := 1) hi (by decide)
theorem cX_a2 {i : Nat} (hi : i < 4) : cX k ad M O (7 + 4 * i) = .inl (k 0, 8, .inl (rw0 M 6 (8 * i) 8)) := cX_a (r := 2) hi (by decide)
theorem cX_c {c : Nat} : cX k ad M O (20 + 2 * c) = .inr (0, cObj ad M c) := by
  unfold cX
  rw [if_neg (by omega), if_neg (by omega), if_neg (by omega), if_neg (by omega), if_neg (by omega), if_pos (by omega), show (20 + 2 * c - 20) / 2 = c by omega]
theorem cX_k {c : Nat} : cX k ad M O (21 + 2 * c) = .inl (k 0, 3, .inl (rw0 M 15 (3 * c) 3)) := by
  unfold cX
  rw [if_neg (by omega), if_neg (by omega), if_neg (by omega), if_neg (by omega), if_neg (by omega), if_neg (by omega), show (21 + 2 * c - 20) / 2 = c by omega]
theorem cX_cg (q : Nat) (h0 : q = 0 → M' 0 0 = M 0 0 ∧ M' 0 1 = M 0 1) (h2 : q = 2 → ∀ j, j < 9 → M' 8 j = M 8 j) (h3 : q = 3 → M' 0 1 = M 0 1)
    (hs : ∀ i, i < 4 → q = 4 + 4 * i → M' 1 i = M 1 i ∧ M' 2 i = M 2 i ∧ M' 3 i = M 3 i ∧ M' 7 i = M 7 i ∧ O' 0 i = O 0 i ∧ O' 1 i = O 1 i)
    (ha : ∀ i r, i < 4 → r < 3 → q = 5 + r + 4 * i → ∀ j, j < 8 → M' (4 + r) (8 * i + j) = M (4 + r) (8 * i + j))
    (hc : ∀ c, q = 20 + 2 * c → M' 9 c = M 9 c ∧ M' 10 c = M 10 c ∧ M' 11 c = M 11 c ∧ M' 12 c = M 12 c ∧ M' 13 c = M 13 c ∧ M' 14 c = M 14 c ∧ M' 16 c = M 16 c)
    (hk : ∀ c, q = 21 + 2 * c → ∀ j, j < 3 → M' 15 (3 * c + j) = M 15 (3 * c + j)) : cX k ad M' O' q = cX k ad M O q := by
  by_cases q0 : q = 0
  · subst q0
    obtain ⟨e1, e2⟩ := h0 rfl
    rw [cX_0, cX_0, dObj, dObj, e1, e2]
  by_cases q1 : q = 1
  · subst q1; rfl
  by_cases q2 : q = 2
  · subst q2
    rw [cX_2, cX_2, rw0_cg (M := M) (M' := M') (fun j hj => by rw [Nat.zero_add]; exact h2 rfl j hj)]
  by_cases q3 : q = 3
  · subst q3
    rw [cX_3, cX_3]
    simp only [h3 rfl]
  by_cases q4 : q < 20
  · by_cases q5 : q % 4 = 0
    · obtain ⟨i, hi, rfl⟩ : ∃ i, i < 4 ∧ q = 4 + 4 * i := ⟨(q - 4) / 4, by omega, by omega⟩
      obtain ⟨e1, e2, e3, e4, e5, e6⟩ := hs i hi rfl
      rw [cX_s hi, cX_s hi, sObj, sObj, e1, e2, e3, e4, e5, e6]
    · obtain ⟨i, r, hi, hr, rfl⟩ : ∃ i r, i < 4 ∧ r < 3 ∧ q = 5 + r + 4 * i := ⟨(q - 4) / 4, q % 4 - 1, by omega, by omega, by omega⟩
      rw [cX_a hi hr, cX_a hi hr, rw0_cg (ha i r hi hr rfl)]
  by_cases q5 : q % 2 = 0
  · obtain ⟨c, rfl⟩ : ∃ c, q = 20 + 2 * c := ⟨(q - 20) / 2, by omega⟩
    obtain ⟨e1, e2, e3, e4, e5, e6, e7⟩ := hc c rfl
    rw [cX_c, cX_c, cObj, cObj, e1, e2, e3, e4, e5, e6, e7]
  · obtain ⟨c, rfl⟩ : ∃ c, q = 21 + 2 * c := ⟨(q - 20) / 2, by omega⟩
    rw [cX_k, cX_k, rw0_cg (hk c rfl)]
theorem cX_up {q0 : Nat} {e : va_E} (he : cX k ad M' O' q0 = e) (hs : ∀ q, q ≠ q0 → cX k ad M' O' q = cX k ad M O q) : va_up (cX k ad M O) q0 e = cX k ad M' O' := by
  funext q
  by_cases h : q = q0
  · subst h; rw [va_up_self, he]
  · rw [va_up_ne _ _ h, hs q h]
theorem cX_udays {i : Nat} (hi : i < 4) (v : Nat) : va_up (cX k ad M O) (4 + 4 * i) (.inr (1, (sObj ad M O i).set 0 (.int (nI v)))) = cX k ad (zu M 1 i v) (O) := by
  refine cX_up ((cX_s hi).trans (by simp [zu])) (fun q hq => cX_cg q ?_ ?_ ?_ ?_ ?_ ?_ ?_)
  · intro _
    simp [zu]
  · intro _ j _
    simp [zu]
  · intro _
    simp [zu]
  · intro i' _ h'
    have hne : i' ≠ i := by omega
    simp [zu, hne]
  · intro i' r' _ _ _ j' _
    have hne : 4 + r' ≠ 1 := by omega
    simp [zu, hne]
  · intro c' _
    simp [zu]
  · intro c' _ j' _
    simp [zu]
theorem cX_ufirst {i : Nat} (hi : i < 4) (v : Nat) : va_up (cX k ad M O) (4 + 4 * i) (.inr (1, (sObj ad M O i).set 1 (.int (nI v)))) = cX k ad (zu M 2 i v) (O) := by
  refine cX_up ((cX_s hi).trans (by simp [zu])) (fun q hq => cX_cg q ?_ ?_ ?_ ?_ ?_ ?_ ?_)
  · intro _
    simp [zu]
  · intro _ j _
    simp [zu]
  · intro _
    simp [zu]
  · intro i' _ h'
    have hne : i' ≠ i := by omega
    simp [zu, hne]
  · intro i' r' _ _ _ j' _
    have hne : 4 + r' ≠ 2 := by omega
    simp [zu, hne]
  · intro c' _
    simp [zu]
  · intro c' _ j' _
    simp [zu]
theorem cX_ulast {i : Nat} (hi : i < 4) (v : Nat) : va_up (cX k ad M O) (4 + 4 * i) (.inr (1, (sObj ad M O i).set 2 (.int (nI v)))) = cX k ad (zu M 3 i v) (O) := by
  refine cX_up ((cX_s hi).trans (by simp [zu])) (fun q hq => cX_cg q ?_ ?_ ?_ ?_ ?_ ?_ ?_)
  · intro _
    simp [zu]
  · intro _ j _
    simp [zu]
  · intro _
    simp [zu]
  · intro i' _ h'
    have hne : i' ≠ i := by omega
    simp [zu, hne]
  · intro i' r' _ _ _ j' _
    have hne : 4 + r' ≠ 3 := by omega
    simp [zu, hne]
  · intro c' _
    simp [zu]
  · intro c' _ j' _
    simp [zu]
theorem cX_ucc {i : Nat} (hi : i < 4) (v : Nat) : va_up (cX k ad M O) (4 + 4 * i) (.inr (1, (sObj ad M O i).set 6 (.int (nI v)))) = cX k ad (zu M 7 i v) (O) := by
  refine cX_up ((cX_s hi).trans (by simp [zu])) (fun q hq => cX_cg q ?_ ?_ ?_ ?_ ?_ ?_ ?_)
  · intro _
    simp [zu]
  · intro _ j _
    simp [zu]
  · intro _
    simp [zu]
  · intro i' _ h'
    have hne : i' ≠ i := by omega
    simp [zu, hne]
  · intro i' r' _ _ _ j' _
    have hne : 4 + r' ≠ 7 := by omega
    simp [zu, hne]
  · intro c' _
    simp [zu]
  · intro c' _ j' _
    simp [zu]
theorem cX_uahead {i : Nat} (hi : i < 4) (v : Int32) : va_up (cX k ad M O) (4 + 4 * i) (.inr (1, (sObj ad M O i).set 7 (.int v))) = cX k ad (M) (zo O 0 i v) := by
  refine cX_up ((cX_s hi).trans (by simp [zo])) (fun q hq => cX_cg q ?_ ?_ ?_ ?_ ?_ ?_ ?_)
  · intro _
    simp [zu, zo]
  · intro _ j _
    simp [zu, zo]
  · intro _
    simp [zu, zo]
  · intro i' _ h'
    have hne : i' ≠ i := by omega
    simp [zu, zo, hne]
  · intro i' r' _ _ _ j' _; rfl
  · intro c' _
    simp [zu, zo]
  · intro c' _ j' _
    simp [zu, zo]
theorem cX_uowes {i : Nat} (hi : i < 4) (v : Int32) : va_up (cX k ad M O) (4 + 4 * i) (.inr (1, (sObj ad M O i).set 8 (.int v))) = cX k ad (M) (zo O 1 i v) := by
  refine cX_up ((cX_s hi).trans (by simp [zo])) (fun q hq => cX_cg q ?_ ?_ ?_ ?_ ?_ ?_ ?_)
  · intro _
    simp [zu, zo]
  · intro _ j _
    simp [zu, zo]
  · intro _
    simp [zu, zo]
  · intro i' _ h'
    have hne : i' ≠ i := by omega
    simp [zu, zo, hne]
  · intro i' r' _ _ _ j' _; rfl
  · intro c' _
    simp [zu, zo]
  · intro c' _ j' _
    simp [zu, zo]
theorem cX_ugrav {c : Nat} (v : Nat) : va_up (cX k ad M O) (20 + 2 * c) (.inr (0, (cObj ad M c).set 2 (.int (nI v)))) = cX k ad (zu M 11 c v) O := by
  refine cX_up (cX_c.trans (by simp [zu])) (fun q hq => cX_cg q ?_ ?_ ?_ ?_ ?_ ?_ ?_)
  · intro _
    simp [zu]
  · intro _ j _
    simp [zu]
  · intro _
    simp [zu]
  · intro i' _ _
    simp [zu]
  · intro i' r' _ _ _ j' _
    have hne : 4 + r' ≠ 11 := by omega
    simp [zu, hne]
  · intro c' h'
    have hne : c' ≠ c := by omega
    simp [zu, hne]
  · intro c' _ j' _
    simp [zu]
theorem cX_ustate {c : Nat} (v : Nat) : va_up (cX k ad M O) (20 + 2 * c) (.inr (0, (cObj ad M c).set 3 (.int (nI v)))) = cX k ad (zu M 12 c v) O := by
  refine cX_up (cX_c.trans (by simp [zu])) (fun q hq => cX_cg q ?_ ?_ ?_ ?_ ?_ ?_ ?_)
  · intro _
    simp [zu]
  · intro _ j _
    simp [zu]
  · intro _
    simp [zu]
  · intro i' _ _
    simp [zu]
  · intro i' r' _ _ _ j' _
    have hne : 4 + r' ≠ 12 := by omega
    simp [zu, hne]
  · intro c' h'
    have hne : c' ≠ c := by omega
    simp [zu, hne]
  · intro c' _ j' _
    simp [zu]
theorem cX_urests {c : Nat} (v : Nat) : va_up (cX k ad M O) (20 + 2 * c) (.inr (0, (cObj ad M c).set 4 (.int (nI v)))) = cX k ad (zu M 14 c v) O := by
  refine cX_up (cX_c.trans (by simp [zu])) (fun q hq => cX_cg q ?_ ?_ ?_ ?_ ?_ ?_ ?_)
  · intro _
    simp [zu]
  · intro _ j _
    simp [zu]
  · intro _
    simp [zu]
  · intro i' _ _
    simp [zu]
  · intro i' r' _ _ _ j' _
    have hne : 4 + r' ≠ 14 := by omega
    simp [zu, hne]
  · intro c' h'
    have hne : c' ≠ c := by omega
    simp [zu, hne]
  · intro c' _ j' _
    simp [zu]
theorem cX_usr {c : Nat} (v : Nat) : va_up (cX k ad M O) (20 + 2 * c) (.inr (0, (cObj ad M c).set 6 (.int (nI v)))) = cX k ad (zu M 16 c v) O := by
  refine cX_up (cX_c.trans (by simp [zu])) (fun q hq => cX_cg q ?_ ?_ ?_ ?_ ?_ ?_ ?_)
  · intro _
    simp [zu]
  · intro _ j _
    simp [zu]
  · intro _
    simp [zu]
  · intro i' _ _
    simp [zu]
  · intro i' r' _ _ _ j' _
    have hne : 4 + r' ≠ 16 := by omega
    simp [zu, hne]
  · intro c' h'
    have hne : c' ≠ c := by omega
    simp [zu, hne]
  · intro c' _ j' _
    simp [zu]
theorem cX_uhead {c : Nat} (v : Nat) : va_up (cX k ad M O) (20 + 2 * c) (.inr (0, (cObj ad M c).set 5 (va_rf (hdR ad v)))) = cX k ad (zu M 13 c v) O := by
  refine cX_up (cX_c.trans (by simp [zu])) (fun q hq => cX_cg q ?_ ?_ ?_ ?_ ?_ ?_ ?_)
  · intro _
    simp [zu]
  · intro _ j _
    simp [zu]
  · intro _
    simp [zu]
  · intro i' _ _
    simp [zu]
  · intro i' r' _ _ _ j' _
    have hne : 4 + r' ≠ 13 := by omega
    simp [zu, hne]
  · intro c' h'
    have hne : c' ≠ c := by omega
    simp [zu, hne]
  · intro c' _ j' _
    simp [zu]
theorem cX_unow (v : Nat) : va_up (cX k ad M O) 0 (.inr (2, (dObj ad M).set 4 (.int (nI v)))) = cX k ad (zu M 0 0 v) O := by
  refine cX_up (cX_0.trans (by simp [zu])) (fun q hq => cX_cg q ?_ ?_ ?_ ?_ ?_ ?_ ?_)
  · intro h; exact absurd h hq
  · intro _ j _
    simp [zu]
  · intro _
    simp [zu]
  · intro i' _ _
    simp [zu]
  · intro i' r' _ _ _ j' _
    have hne : 4 + r' ≠ 0 := by omega
    simp [zu, hne]
  · intro c' _
    simp [zu]
  · intro c' _ j' _
    simp [zu]
theorem cX_uprom {j : Nat} (hj : j < 9) (v : Nat) : va_up (cX k ad M O) 2 (.inl (k 0, 9, .inl (upd (rw0 M 8 0 9) j (nI v)))) = cX k ad (zu M 8 j v) O := by
  refine cX_up (cX_2.trans (by rw [rw0_up hj, Nat.zero_add])) (fun q hq => cX_cg q ?_ ?_ ?_ ?_ ?_ ?_ ?_)
  · intro _
    simp [zu]
  · intro h; exact absurd h hq
  · intro _
    simp [zu]
  · intro i' _ _
    simp [zu]
  · intro i' r' _ _ _ j' _
    have hne : 4 + r' ≠ 8 := by omega
    simp [zu, hne]
  · intro c' _
    simp [zu]
  · intro c' _ j' _
    simp [zu]
theorem cX_ucon {i r j : Nat} (hi : i < 4) (hr : r < 3) (hj : j < 8) (v : Nat) : va_up (cX k ad M O) (5 + r + 4 * i) (.inl (k 0, 8, .inl (upd (rw0 M (4 + r) (8 * i) 8) j (nI v)))) = cX k ad (zu M (4 + r) (8 * i + j) v) O := by
  refine cX_up ((cX_a hi hr).trans (by rw [rw0_up hj])) (fun q hq => cX_cg q ?_ ?_ ?_ ?_ ?_ ?_ ?_)
  · intro _
    have hne : ∀ x, x < 4 ∨ 6 < x → x ≠ 4 + r := by omega
    simp [zu, hne 0 (by omega)]
  · intro _ j _
    have hne : ∀ x, x < 4 ∨ 6 < x → x ≠ 4 + r := by omega
    simp [zu, hne 8 (by omega)]
  · intro _
    have hne : ∀ x, x < 4 ∨ 6 < x → x ≠ 4 + r := by omega
    simp [zu, hne 0 (by omega)]
  · intro i' _ _
    have hne : ∀ x, x < 4 ∨ 6 < x → x ≠ 4 + r := by omega
    simp [zu, hne 1 (by omega), hne 2 (by omega), hne 3 (by omega), hne 7 (by omega)]
  · intro i' r' _ _ _ j' _
    have hne : ¬ (4 + r' = 4 + r ∧ 8 * i' + j' = 8 * i + j) := by omega
    simp only [zu, if_neg hne]
  · intro c' _
    have hne : ∀ x, x < 4 ∨ 6 < x → x ≠ 4 + r := by omega
    simp [zu, hne 9 (by omega), hne 10 (by omega), hne 11 (by omega), hne 12 (by omega), hne 13 (by omega), hne 14 (by omega), hne 16 (by omega)]
  · intro c' _ j' _
    have hne : ∀ x, x < 4 ∨ 6 < x → x ≠ 4 + r := by omega
    simp [zu, hne 15 (by omega)]
theorem cX_ucon0 {i j : Nat} (hi : i < 4) (hj : j < 8) (v : Nat) : va_up (cX k ad M O) (5 + 4 * i) (.inl (k 0, 8, .inl (upd (rw0 M 4 (8 * i) 8) j (nI v)))) = cX k ad (zu M 4 (8 * i + j) v) O := cX_ucon (r := 0) hi (by decide) hj v
theorem cX_ucon1 {i j : Nat} (hi : i < 4) (hj : j < 8) (v : Nat) : va_up (cX k ad M O) (6 + 4 * i) (.inl (k 0, 8, .inl (upd (rw0 M 5 (8 * i) 8) j (nI v)))) = cX k ad (zu M 5 (8 * i + j) v) O := cX_ucon (r := 1) hi (by decide) hj v
theorem cX_ucon2 {i j : Nat} (hi : i < 4) (hj : j < 8) (v : Nat) : va_up (cX k ad M O) (7 + 4 * i) (.inl (k 0, 8, .inl (upd (rw0 M 6 (8 * i) 8) j (nI v)))) = cX k ad (zu M 6 (8 * i + j) v) O := cX_ucon (r := 2) hi (by decide) hj v
theorem cX_uclk {c j : Nat} (hj : j < 3) (v : Nat) : va_up (cX k ad M O) (21 + 2 * c) (.inl (k 0, 3, .inl (upd (rw0 M 15 (3 * c) 3) j (nI v)))) = cX k ad (zu M 15 (3 * c + j) v) O := by
  refine cX_up (cX_k.trans (by rw [rw0_up hj])) (fun q hq => cX_cg q ?_ ?_ ?_ ?_ ?_ ?_ ?_)
  · intro _
    simp [zu]
  · intro _ j _
    simp [zu]
  · intro _
    simp [zu]
  · intro i' _ _
    simp [zu]
  · intro i' r' _ _ _ j' _
    have hne : 4 + r' ≠ 15 := by omega
    simp [zu, hne]
  · intro c' _
    simp [zu]
  · intro c' _ j' _
    have hne : 3 * c' + j' ≠ 3 * c + j := by omega
    simp [zu, hne]
abbrev mObj (bd : Nat → Nat) (M : Nat → Nat → Nat) (th : Int32) : List Value := [.int (nI (M 0 0)), .ref (bd 1), .ref (bd 2), .ref (bd 3), .ref (bd 4), .ref (bd 5), .ref (bd 6), .ref (bd 7), .ref (bd 8), .ref (bd 9), .ref (bd 10), .ref (bd 11), .ref (bd 12), .ref (bd 13), .ref (bd 14), .ref (bd 15), .ref (bd 16), .int (nI (M 0 1)), .ref (bd 17), .ref (bd 18), .int th]
def mL (q : Nat) : Nat := if q < 4 then 4 else if q < 7 then 32 else if q = 7 then 4 else if q = 8 then 9 else if q < 15 then 40 else if q < 17 then 120 else 4
def mA (M : Nat → Nat → Nat) (O : Nat → Nat → Int32) (q : Nat) : Nat → Int32 :=
  if q = 13 then (fun c => hdI (M 13 c)) else if q = 16 then (fun x => nI (if x % 3 < M 16 (x / 3) then 1 else 0))
  else if q = 17 then O 0 else if q = 18 then O 1 else fun i => nI (M q i)
/-- the reference's world: 0 the object, then its rows in the order of the fields -/
def cM (k : Nat → ClassId) (bd : Nat → Nat) (M : Nat → Nat → Nat) (O : Nat → Nat → Int32) (th : Int32) (q : Nat) : va_E :=
  if q = 0 then .inr (3, mObj bd M th) else .inl (k (if q = 14 then 1 else if q = 16 then 1 else 0), mL q, .inl (mA M O q))
theorem cM_0 {th : Int32} : cM k bd M O th 0 = .inr (3, mObj bd M th) := rfl
theorem cM_uth {th : Int32} (v : Int32) : va_up (cM k bd M O th) 0 (.inr (3, (mObj bd M th).set 20 (.int v))) = cM k bd M O v := by
  funext q
  by_cases h : q = 0
  · subst h; rw [va_up_self]; rfl
  · rw [va_up_ne _ _ h]; unfold cM; rw [if_neg h, if_neg h]
theorem cM_up {th : Int32} {q0 : Nat} {e : va_E} (he : cM k bd M' O' th q0 = e) (hs : ∀ q, q ≠ q0 → cM k bd M' O' th q = cM k bd M O th q) : va_up (cM k bd M O th) q0 e = cM k bd M' O' th := by
  funext q
  by_cases h : q = q0
  · subst h; rw [va_up_self, he]
  · rw [va_up_ne _ _ h, hs q h]
theorem mA_cg (q : Nat) (h : ∀ i, M' q i = M q i) (h17 : q = 17 → ∀ i, O' 0 i = O 0 i) (h18 : q = 18 → ∀ i, O' 1 i = O 1 i) : mA M' O' q = mA M O q := by
  funext i
  unfold mA
  by_cases q13 : q = 13
  · subst q13; rw [if_pos rfl, if_pos rfl, h]
  by_cases q16 : q = 16
  · subst q16; rw [if_neg q13, if_neg q13, if_pos rfl, if_pos rfl, h]
  by_cases q17 : q = 17
  · subst q17; rw [if_neg q13, if_neg q13, if_neg q16, if_neg q16, if_pos rfl, if_pos rfl, h17 rfl]
  by_cases q18 : q = 18
  · subst q18; rw [if_neg q13, if_neg q13, if_neg q16, if_neg q16, if_neg q17, if_neg q17, if_pos rfl, if_pos rfl, h18 rfl]
  · rw [if_neg q13, if_neg q13, if_neg q16, if_neg q16, if_neg q17, if_neg q17, if_neg q18, if_neg q18, h]
theorem cM_cg {th : Int32} {q : Nat} (h0 : q = 0 → M' 0 0 = M 0 0 ∧ M' 0 1 = M 0 1) (h : 0 < q → mA M' O' q = mA M O q) : cM k bd M' O' th q = cM k bd M O th q := by
  by_cases hq : q = 0
  · subst hq
    obtain ⟨e1, e2⟩ := h0 rfl
    rw [cM_0, cM_0, mObj, mObj, e1, e2]
  · unfold cM
    rw [if_neg hq, if_neg hq, h (by omega)]
theorem cM_unow {th : Int32} (v : Nat) : va_up (cM k bd M O th) 0 (.inr (3, (mObj bd M th).set 0 (.int (nI v)))) = cM k bd (zu M 0 0 v) O th := by
  refine cM_up (cM_0.trans (by simp [zu])) (fun q hq => cM_cg (fun h => absurd h hq) (fun _ => mA_cg q (fun i => zu_r _ _ _ _ hq) (fun _ _ => rfl) (fun _ _ => rfl)))
theorem cM_ucnt {th : Int32} (v : Nat) : va_up (cM k bd M O th) 0 (.inr (3, (mObj bd M th).set 17 (.int (nI v)))) = cM k bd (zu M 0 1 v) O th := by
  refine cM_up (cM_0.trans (by simp [zu])) (fun q hq => cM_cg (fun h => absurd h hq) (fun _ => mA_cg q (fun i => zu_r _ _ _ _ hq) (fun _ _ => rfl) (fun _ _ => rfl)))
/-- a row that shows its register as it is -/
theorem cM_urow {th : Int32} (r : Nat) (h0 : r ≠ 0) (h13 : r ≠ 13) (h16 : r ≠ 16) (h17 : r ≠ 17) (h18 : r ≠ 18) (i v : Nat) : va_up (cM k bd M O th) r (.inl (k (if r = 14 then 1 else 0), mL r, .inl (upd (mA M O r) i (nI v)))) = cM k bd (zu M r i v) O th := by
  refine cM_up ?_ (fun q hq => cM_cg (fun h => by simp [zu, Ne.symm h0]) (fun _ => mA_cg q (fun i => zu_r _ _ _ _ hq) (fun _ _ => rfl) (fun _ _ => rfl)))
  have e : mA (zu M r i v) O r = upd (mA M O r) i (nI v) := by
    funext x
    unfold mA
    rw [if_neg h13, if_neg h13, if_neg h16, if_neg h16, if_neg h17, if_neg h17, if_neg h18, if_neg h18]
    by_cases h : x = i <;> simp [zu, upd, h]
  unfold cM
  rw [if_neg h0, if_neg h16, e]
theorem mA_row {r : Nat} (h13 : r ≠ 13) (h16 : r ≠ 16) (h17 : r ≠ 17) (h18 : r ≠ 18) (i : Nat) : mA M O r i = nI (M r i) := by
  unfold mA
  rw [if_neg h13, if_neg h16, if_neg h17, if_neg h18]
theorem cM_uhead {th : Int32} (i v : Nat) : va_up (cM k bd M O th) 13 (.inl (k 0, 40, .inl (upd (mA M O 13) i (hdI v)))) = cM k bd (zu M 13 i v) O th := by
  refine cM_up ?_ (fun q hq => cM_cg (fun h => by simp [zu]) (fun _ => mA_cg q (fun i => zu_r _ _ _ _ hq) (fun _ _ => rfl) (fun _ _ => rfl)))
  have e : mA (zu M 13 i v) O 13 = upd (mA M O 13) i (hdI v) := by
    funext x
    show hdI (zu M 13 i v 13 x) = upd (fun c => hdI (M 13 c)) i (hdI v) x
    by_cases h : x = i <;> simp [zu, upd, h]
  rw [← e]
  rfl
/-- a stage of the case c is marked, or unmarked, as reached -/
theorem cM_urch {th : Int32} (c st v w : Nat) (hs : st < 3) (h : ∀ j, j < 3 → (j < v ↔ if j = st then w = 1 else j < M 16 c)) (hw : w ≤ 1) : va_up (cM k bd M O th) 16 (.inl (k 1, 120, .inl (upd (mA M O 16) (3 * c + st) (nI w)))) = cM k bd (zu M 16 c v) O th := by
  refine cM_up ?_ (fun q hq => cM_cg (fun h => by simp [zu]) (fun _ => mA_cg q (fun i => zu_r _ _ _ _ hq) (fun _ _ => rfl) (fun _ _ => rfl)))
  have e : mA (zu M 16 c v) O 16 = upd (mA M O 16) (3 * c + st) (nI w) := by
    funext x
    show nI (if x % 3 < zu M 16 c v 16 (x / 3) then 1 else 0) = upd (fun x => nI (if x % 3 < M 16 (x / 3) then 1 else 0)) (3 * c + st) (nI w) x
    by_cases hc : x / 3 = c
    · have h1 := h (x % 3) (by omega)
      rw [hc, zu_s]
      by_cases hx : x = 3 * c + st
      · have h2 : x % 3 = st := by omega
        rw [h2, if_pos rfl] at h1
        rw [h2]
        simp only [upd, if_pos hx]
        by_cases hv : st < v
        · rw [if_pos hv, h1.mp hv]
        · rw [if_neg hv]
          have : w = 0 := by
            rcases Nat.lt_or_ge w 1 with z | z
            · omega
            · exact absurd (h1.mpr (by omega)) hv
          rw [this]
      · have h2 : x % 3 ≠ st := by omega
        rw [if_neg h2] at h1
        simp only [upd, if_neg hx, hc]
        by_cases hv : x % 3 < v
        · rw [if_pos hv, if_pos (h1.mp hv)]
        · rw [if_neg hv, if_neg (fun z => hv (h1.mpr z))]
    · have hx : x ≠ 3 * c + st := by omega
      rw [zu_i _ _ _ _ hc]
      simp only [upd, if_neg hx]
  rw [← e]
  rfl
theorem cM_uahead {th : Int32} (i : Nat) (v : Int32) : va_up (cM k bd M O th) 17 (.inl (k 0, 4, .inl (upd (mA M O 17) i v))) = cM k bd M (zo O 0 i v) th := by
  refine cM_up ?_ (fun q hq => cM_cg (fun h => ⟨rfl, rfl⟩) (fun _ => mA_cg q (fun i => rfl) (fun h => absurd h hq) (fun _ j => by simp [zo])))
  have e : mA M (zo O 0 i v) 17 = upd (mA M O 17) i v := by
    funext x
    show zo O 0 i v 0 x = upd (O 0) i v x
    by_cases h : x = i <;> simp [zo, upd, h]
  rw [← e]
  rfl
theorem cM_uowes {th : Int32} (i : Nat) (v : Int32) : va_up (cM k bd M O th) 18 (.inl (k 0, 4, .inl (upd (mA M O 18) i v))) = cM k bd M (zo O 1 i v) th := by
  refine cM_up ?_ (fun q hq => cM_cg (fun h => ⟨rfl, rfl⟩) (fun _ => mA_cg q (fun i => rfl) (fun _ j => by simp [zo]) (fun h => absurd h hq)))
  have e : mA M (zo O 1 i v) 18 = upd (mA M O 18) i v := by
    funext x
    show zo O 1 i v 1 x = upd (O 1) i v x
    by_cases h : x = i <;> simp [zo, upd, h]
  rw [← e]
  rfl
end ST
end
section
/-! ===== BEGIN .. of methods that hand back an object of the pool ===== -/
section
variable {p : Program} {l : Launch} {e : Env} {R : Room} {s : State} {m : MethodId} {args : Array Value} {below : List Frame} {meth : Method} {c : Code} {H : Heap} {locs : List Loc} {cells slots : Nat} {Q : State → Prop}
variable {mc ms : Nat} {free : Addr → Prop} {A0 A1 : Nat → Prop} {H0 : Heap} {a : Array Value} {pc : Nat} {ls : Array Slot} {st0 rest : List Value}
theorem vx_callq {S SX : Type} {post : Option Nat → S → Prop} {px : SX → Prop} {B : S → State → Prop} {BX : String → SX → State → Prop} {AX : Nat → Prop} (hr : vx_Run p l e R s m args below meth c H locs cells slots mc ms (F0 m pc ls st0) rest (va_Qq post B A1 a) (vx_X px BX AX) free) (hS : va_S A0 H0 H locs) (hA : ∀ q, q < H.size → A1 q → A0 q) (hf : ∀ q, free q → A0 q) (hAX : ∀ q, q < H.size → AX q → A0 q)
    (kx : ∀ (E : String) (ce : Cell) (q9 : Addr) (u : SX) (t : State) (H1 : Heap) (locs1 : List Loc), t.heap = H1 → s.vm.Alike t.vm → px u → BX E u t → H.size ≤ H1.size → (∀ q : Nat, q < H.size → ¬ AX q → H1[q]? = H[q]?) → va_S A0 H0 H1 locs1 → H1[q9]? = some ce → ce.vm = .none → s.vm.findClass E = some ce.cls → vx_W p l e R s m args below meth c H1 locs1 (cells + mc) (slots + ms) Q (F0 m pc ls rest) q9)
    (kk : ∀ (r : Option Nat) (u : S) (t : State) (H1 : Heap) (locs1 : List Loc), t.heap = H1 → s.vm.Alike t.vm → post r u → B u t → H.size ≤ H1.size → (∀ q : Nat, q < H.size → ¬ A1 q → H1[q]? = H[q]?) → va_S A0 H0 H1 locs1 → W p l e R s m args below meth c H1 locs1 (cells + mc) (slots + ms) Q (F0 m (pc + 3) ls (va_rf r :: rest))) : W p l e R s m args below meth c H locs cells slots Q (F0 m pc ls st0) := by
  intro T hT X
  rcases hr T hT X with ⟨v, st₀, t, T', L, h0, X', hL, e1, e2, ⟨⟨r, u, hv, hp, hb⟩, hF⟩, st⟩ | ⟨q, st₀, t, T', L, E, ce, h0, X', hL, e1, e2, ⟨u, hp, hb, hF⟩, hce, hcv, hcl, st⟩
  · cases hv
    obtain ⟨k1, k2, k3⟩ := vx_keep h0 e1 hS hA hf hL hF
    obtain ⟨t2, a1, b1⟩ := kk r u t T'.heap (locs ++ L) e1.symm (by rw [← e2]; exact X'.warmed.alike) hp hb k1 k2 k3 T' rfl X'
    exact ⟨t2, st t2 a1, b1⟩
  · obtain ⟨k1, k2, k3⟩ := vx_keep h0 e1 hS hAX hf hL hF
    obtain ⟨t2, a1, b1⟩ := kx E ce q u t T'.heap (locs ++ L) e1.symm (by rw [← e2]; exact X'.warmed.alike) hp hb k1 k2 k3 (by rw [e1]; exact hce) hcv hcl T' rfl X'
    exact ⟨t2, st.trans a1, b1⟩
end
/-! ===== END ===== -/
/-! CALLS over function worlds: reads (the heap stays), checks that may throw (no old cell changes), and methods that write. -/
abbrev exI : String := "java/lang/IndexOutOfBoundsException"
abbrev exA : String := "java/lang/IllegalArgumentException"
abbrev exS : String := "java/lang/IllegalStateException"
abbrev exN : List String := ["java/lang/RuntimeException", "java/lang/Exception"]
def zR (D : va_G) (k : Nat → ClassId) (n : Nat) (ad : Nat → Nat) (f : Nat → va_E) (U : State) : Prop := va_P D vwCl (zw n ad f) U.heap ∧ va_K D vwCl (tyL k) U
def zG (D : va_G) (k : Nat → ClassId) (n : Nat) (ad : Nat → Nat) (f : Nat → va_E) (sz : Nat) (U : State) : Prop := U.heap.size = sz ∧ zR D k n ad f U ∧ va_D (fun _ => True) (zw n ad f)
/-- what a throw needs of the machine: Throwable's two statics outside A, the texts, that each class is itself -/
def zE (A : Nat → Prop) (sa : Nat → Nat) (U : State) (H : Heap) : Prop :=
  (vx_Zq Bundle.tN "UNASSIGNED_STACK" Bundle.steD A U H ∧ vx_Zq Bundle.tN "SUPPRESSED_SENTINEL" Bundle.listD A U H) ∧
  (vk_R RX2 157 "no such site" (sa 0) U ∧ vk_R RX2 162 "no such case" (sa 1) U ∧ vk_R RX2 164 "no such kind" (sa 2) U ∧ vk_R RX2 168 "an argument is out of its range" (sa 3) U ∧ vk_R RX2 173 "not in this state" (sa 4) U) ∧
  (va_Nw (.castable exI exI) U ∧ va_Nw (.castable exA exA) U ∧ va_Nw (.castable exS exS) U)
theorem zE.go {A B : Nat → Prop} {sa : Nat → Nat} {s U : State} {H H1 : Heap} (h : zE A sa s H) (hW : s.WarmedH U.vm) (hAB : ∀ q, B q → A q) (hk : ∀ q : Nat, q < H.size → ¬ A q → H1[q]? = H[q]?) : zE B sa U H1 := by
  obtain ⟨⟨h1, h2⟩, ⟨h3, h4, h5, h6, h7⟩, h8, h9, h10⟩ := h
  exact ⟨⟨vx_Zq.moved hW.alike ((h1.kept hk).narrow hAB), vx_Zq.moved hW.alike ((h2.kept hk).narrow hAB)⟩, ⟨h3.warm hW, h4.warm hW, h5.warm hW, h6.warm hW, h7.warm hW⟩, h8.warmC hW, h9.warmC hW, h10.warmC hW⟩
theorem zE.same {A : Nat → Prop} {sa : Nat → Nat} {u U : State} {H : Heap} (h : zE A sa u H) (hv : U.vm = u.vm) : zE A sa U H :=
  h.go (by rw [hv]; exact State.WarmedH.refl u) (fun _ z => z) (fun _ _ _ => rfl)
theorem zR.moved {D : va_G} {k : Nat → ClassId} {n : Nat} {ad : Nat → Nat} {f : Nat → va_E} {u U : State} (h : zR D k n ad f u) (hh : U.heap = u.heap) (hv : u.vm.Alike U.vm) : zR D k n ad f U := ⟨by rw [hh]; exact h.1, va_K.moved hv h.2⟩
/-- the throwing part of a contract: what is known of the class E of the exception; no old cell changes -/
abbrev zX (px : String → Prop) : String → State → State → Prop := vx_X (S := Unit) (fun _ => True) (fun E _ _ => px E) noA
/-- a check: void, no old cell changes -/
abbrev zQv (P : Prop) : Array Value → State → Outcome → State → Prop := va_Qv (S := Unit) (fun _ => P) (fun _ _ => True) noA
/-- a look-up: an object, no old cell changes -/
abbrev zQq (P : Nat → Prop) : Array Value → State → Outcome → State → Prop := va_Qq (S := Unit) (fun r _ => ∃ a, r = some a ∧ P a) (fun _ _ => True) noA
/-- an answer, no old cell changes -/
abbrev zQi (P : Int32 → Prop) : Array Value → State → Outcome → State → Prop := va_Qi (S := Unit) (fun r _ => P r) (fun _ _ => True) noA
/-- an answer and a new world -/
abbrev zQw (D : va_G) (k : Nat → ClassId) (n : Nat) (ad : Nat → Nat) (f : Nat → va_E) (A : Nat → Prop) (P : Int32 → Prop) : Array Value → State → Outcome → State → Prop := va_Qi (S := Unit) (fun r _ => P r) (fun _ t => zR D k n ad f t ∧ va_D A (zw n ad f)) A
abbrev zQu (D : va_G) (k : Nat → ClassId) (n : Nat) (ad : Nat → Nat) (f : Nat → va_E) (A : Nat → Prop) : Array Value → State → Outcome → State → Prop := va_Qv (S := Unit) (fun _ => True) (fun _ t => zR D k n ad f t ∧ va_D A (zw n ad f)) A
theorem zS_mono {A B : Nat → Prop} {H0 H : Heap} {locs : List Loc} (h : va_S A H0 H locs) (hAB : ∀ q, A q → B q) : va_S B H0 H locs := ⟨h.1, fun q h1 h2 => h.2.1 q h1 (fun z => h2 (hAB q z)), fun l hl => hAB _ (h.2.2 l hl)⟩
theorem noA_le {B : Nat → Prop} : ∀ q, noA q → B q := fun _ h => False.elim h
section ZC
variable {p : Program} {l : Launch} {e : Env} {R : Room} {s : State} {m : MethodId} {args : Array Value} {below : List Frame} {meth : Method} {c : Code} {H : Heap} {locs : List Loc} {cells slots : Nat} {Q : State → Prop}
variable {cc bytes : ByteArray} {nL maxL index na mc ms : Nat} {Ts ws : List Cond} {own C : String} {y : MethodName} {ret : Option FieldType} {rm : Room} {pc : Nat} {ls : Array Slot} {As rest st0 : List Value} {D : va_G} {k : Nat → ClassId} {A : Nat → Prop} {H0 : Heap} {n n' : Nat} {ad ad' : Nat → Nat} {f f' : Nat → va_E}
theorem z_frameR {U : State} {g : JFrame} {mk : MethodId} {a : Array Value} (h : zR D k n ad f U) : zR D k n ad f (U.calling g mk a) := ⟨h.1, va_K.moved (u := U) (U := U.calling g mk a) (Vm.Alike.refl U.vm) h.2⟩
theorem z_ifb_eq {P : Prop} {off : Int} {tgt : Nat} (F : CallFix p m c cc nL s args Ts own) (hdg : decode cc pc = .ok (.ifCond .eq off, 3)) (ht : (pc : Int) + off = (tgt : Int)) (kt : ¬ P → W p l e R s m args below meth c H locs cells slots Q (F0 m tgt ls rest)) (kf : P → W p l e R s m args below meth c H locs cells slots Q (F0 m (pc + 3) ls rest)) : W p l e R s m args below meth c H locs cells slots Q (F0 m pc ls (.int (bI P) :: rest)) :=
  lv_if_eq F.1 F.2.1 hdg ht (fun q => kt (bI_0.mp q)) (fun q => kf (Classical.byContradiction fun z => q (bI_0.mpr z)))
theorem z_ifb_ne {P : Prop} {off : Int} {tgt : Nat} (F : CallFix p m c cc nL s args Ts own) (hdg : decode cc pc = .ok (.ifCond .ne off, 3)) (ht : (pc : Int) + off = (tgt : Int)) (kt : P → W p l e R s m args below meth c H locs cells slots Q (F0 m tgt ls rest)) (kf : ¬ P → W p l e R s m args below meth c H locs cells slots Q (F0 m (pc + 3) ls rest)) : W p l e R s m args below meth c H locs cells slots Q (F0 m pc ls (.int (bI P) :: rest)) := by
  by_cases h : P
  · exact lv_if_ne F.1 F.2.1 hdg ht (fun _ => kt h) (fun q => absurd (bI_0.mp (by first | exact q | exact Decidable.not_not.mp q)) (fun z => z h))
  · exact lv_if_ne F.1 F.2.1 hdg ht (fun q => absurd (bI_0.mpr h) q) (fun _ => kf h)
/-- a read: virtual -/
theorem z_cV {ci : Nat} {qc : vw_C} {fs : List Value} {post : Int32 → Prop} (q0 : Nat) (F : CallFix p m c cc nL s args Ts own) (hM : Met l y ws rm (va_Pc (.ref (ad q0) :: As) (zR D k n ad f)) (vp_Si post) 0 0 (fun _ => False)) (cw : CallW R s args own qc.1 index y bytes maxL ret ws rm 0 0 na)
    (hK : va_K D vwCl (tyL k) s) (hP : va_P D vwCl (zw n ad f) H) (hq : q0 < n) (he : f q0 = .inr (ci, fs)) (hc : vwCl[ci]? = some qc) (hn : As.length = na) (hsize : ls.size = nL) (hst : st0 = As.reverse ++ .ref (ad q0) :: rest) (hW : (rest.map fun v => v.category).sum ≤ 8) (hdg : decode cc pc = .ok (.invokevirtual index, 3)) (hf : cells ≤ R.cells ∧ slots ≤ R.slots)
    (kk : ∀ r : Int32, post r → W p l e R s m args below meth c H locs cells slots Q (F0 m (pc + 3) ls (.int r :: rest))) : W p l e R s m args below meth c H locs cells slots Q (F0 m pc ls st0) := by
  subst hst
  exact vp_callSi (W.runV (g := F0 m pc ls (As.reverse ++ .ref (ad q0) :: rest)) F hM cw ⟨fun a U g mk h => ⟨h.1, z_frameR h.2⟩, va_recv hK hP hc ((zw_at hq).trans (by rw [he])), fun U hU hW1 => ⟨rfl, by rw [hU]; exact hP, va_K.moved hW1.alike hK⟩⟩ rfl hn hsize rfl (lv_room hW) hdg ⟨hf.1, hf.2⟩) kk
/-- a read: static, of ints alone -/
theorem z_cS {post : Int32 → Prop} (F : CallFix p m c cc nL s args Ts own) (hM : Met l y ws rm (va_Pc As (fun _ => True)) (vp_Si post) 0 0 (fun _ => False)) (cw : CallB R s args own index y bytes maxL ret ws rm 0 0 na ∧ (Cond.static y).before args s = true)
    (hn : As.length = na) (hsize : ls.size = nL) (hst : st0 = As.reverse ++ rest) (hW : (rest.map fun v => v.category).sum ≤ 8) (hdg : decode cc pc = .ok (.invokestatic index, 3)) (hf : cells ≤ R.cells ∧ slots ≤ R.slots)
    (kk : ∀ r : Int32, post r → W p l e R s m args below meth c H locs cells slots Q (F0 m (pc + 3) ls (.int r :: rest))) : W p l e R s m args below meth c H locs cells slots Q (F0 m pc ls st0) := by
  subst hst
  exact vp_callSi (W.runS (g := F0 m pc ls (As.reverse ++ rest)) F hM cw ⟨fun a U g mk h => ⟨h.1, trivial⟩, fun U hU hW1 => ⟨rfl, trivial⟩⟩ rfl hn hsize rfl (lv_room hW) hdg ⟨hf.1, hf.2⟩) kk
theorem z_afree {q0 : Nat} {H1 : Heap} (hD : va_D A (zw n ad f)) (hA : ∀ q, H0.size ≤ q → A q) (hz : H0.size ≤ H.size) : ∀ q, va_A (zw n ad f) H.size q → A q := by
  intro q h
  rcases h with ⟨i, e, h⟩ | h
  · exact hD.2 i (q, e) h
  · exact hA q (Nat.le_trans hz h)
/-- a method that writes, with an answer -/
theorem z_mV {ci : Nat} {qc : vw_C} {fs : List Value} {post : Int32 → Prop} (q0 : Nat) (F : CallFix p m c cc nL s args Ts own) (hM : Met l y ws rm (va_Pc (.ref (ad q0) :: As) (zG D k n ad f H.size)) (zQw D k n' ad' f' (va_A (zw n ad f) H.size) post) mc ms (va_A (zw n ad f) H.size)) (cw : CallW R s args own qc.1 index y bytes maxL ret ws rm mc ms na)
    (hK : va_K D vwCl (tyL k) s) (hP : va_P D vwCl (zw n ad f) H) (hD : va_D A (zw n ad f)) (hS : va_S A H0 H locs) (hA : ∀ q, H0.size ≤ q → A q) (hq : q0 < n) (he : f q0 = .inr (ci, fs)) (hc : vwCl[ci]? = some qc) (hn : As.length = na) (hsize : ls.size = nL) (hst : st0 = As.reverse ++ .ref (ad q0) :: rest) (hW : (rest.map fun v => v.category).sum ≤ 8) (hdg : decode cc pc = .ok (.invokevirtual index, 3)) (hf : cells + mc ≤ R.cells ∧ slots + ms ≤ R.slots)
    (kk : ∀ (r : Int32) (H1 : Heap) (locs1 : List Loc), post r → va_P D vwCl (zw n' ad' f') H1 → va_D A (zw n' ad' f') → va_S A H0 H1 locs1 → W p l e R s m args below meth c H1 locs1 (cells + mc) (slots + ms) Q (F0 m (pc + 3) ls (.int r :: rest))) : W p l e R s m args below meth c H locs cells slots Q (F0 m pc ls st0) := by
  subst hst
  have hF := z_afree (H := H) (q0 := 0) (H1 := H) hD hA hS.1
  refine va_calli (va_runV (g := F0 m pc ls (As.reverse ++ .ref (ad q0) :: rest)) F hM cw ⟨fun a U g mk h => ⟨h.1, h.2.1, z_frameR h.2.2.1, h.2.2.2⟩, va_recv hK hP hc ((zw_at hq).trans (by rw [he])), fun U hU hW1 => ⟨rfl, by rw [hU], ⟨by rw [hU]; exact hP, va_K.moved hW1.alike hK⟩, hD.weaken (fun _ _ _ _ => trivial)⟩⟩ rfl hn hsize rfl (lv_room hW) hdg hf) hS (fun q _ h => hF q h) hF (fun r u t H1 locs1 ht hvm hp hB hz hk hS1 => ?_)
  obtain ⟨⟨hP1, hK1⟩, hD1⟩ := hB
  rw [ht] at hP1
  exact kk r H1 locs1 hp hP1 (hD1.weaken (fun _ q _ h => hF q.1 h)) hS1
/-- .. without one -/
theorem z_mVv {ci : Nat} {qc : vw_C} {fs : List Value} (q0 : Nat) (F : CallFix p m c cc nL s args Ts own) (hM : Met l y ws rm (va_Pc (.ref (ad q0) :: As) (zG D k n ad f H.size)) (zQu D k n' ad' f' (va_A (zw n ad f) H.size)) mc ms (va_A (zw n ad f) H.size)) (cw : CallW R s args own qc.1 index y bytes maxL ret ws rm mc ms na)
    (hK : va_K D vwCl (tyL k) s) (hP : va_P D vwCl (zw n ad f) H) (hD : va_D A (zw n ad f)) (hS : va_S A H0 H locs) (hA : ∀ q, H0.size ≤ q → A q) (hq : q0 < n) (he : f q0 = .inr (ci, fs)) (hc : vwCl[ci]? = some qc) (hn : As.length = na) (hsize : ls.size = nL) (hst : st0 = As.reverse ++ .ref (ad q0) :: rest) (hW : (rest.map fun v => v.category).sum ≤ 8) (hdg : decode cc pc = .ok (.invokevirtual index, 3)) (hf : cells + mc ≤ R.cells ∧ slots + ms ≤ R.slots)
    (kk : ∀ (H1 : Heap) (locs1 : List Loc), va_P D vwCl (zw n' ad' f') H1 → va_D A (zw n' ad' f') → va_S A H0 H1 locs1 → W p l e R s m args below meth c H1 locs1 (cells + mc) (slots + ms) Q (F0 m (pc + 3) ls rest)) : W p l e R s m args below meth c H locs cells slots Q (F0 m pc ls st0) := by
  subst hst
  have hF := z_afree (H := H) (q0 := 0) (H1 := H) hD hA hS.1
  refine va_callv (va_runV (g := F0 m pc ls (As.reverse ++ .ref (ad q0) :: rest)) F hM cw ⟨fun a U g mk h => ⟨h.1, h.2.1, z_frameR h.2.2.1, h.2.2.2⟩, va_recv hK hP hc ((zw_at hq).trans (by rw [he])), fun U hU hW1 => ⟨rfl, by rw [hU], ⟨by rw [hU]; exact hP, va_K.moved hW1.alike hK⟩, hD.weaken (fun _ _ _ _ => trivial)⟩⟩ rfl hn hsize rfl (lv_room hW) hdg hf) hS (fun q _ h => hF q h) hF (fun u t H1 locs1 ht hvm hp hB hz hk hS1 => ?_)
  obtain ⟨⟨hP1, hK1⟩, hD1⟩ := hB
  rw [ht] at hP1
  exact kk H1 locs1 hP1 (hD1.weaken (fun _ q _ h => hF q.1 h)) hS1
theorem z_mmin {a b : Nat} (F : CallFix p m c cc nL s args Ts own) (hsize : ls.size = nL) (hl1 : Cond.methodLink own index Lib.Math.min.name ∈ Ts) (hl2 : Cond.static Lib.Math.min.name ∈ Ts) (hl3 : Cond.initialized "java/lang/Math" ∈ Ts) (hl4 : Cond.code Lib.Math.min.name Lib.Math.min.code 2 (some .int) ∈ Ts) (hR : 1 ≤ R.frames ∧ (rest.map fun v => v.category).sum + 13 ≤ R.locals) (hf : cells ≤ R.cells ∧ slots ≤ R.slots) (ha : a < 2 ^ 31) (hb : b < 2 ^ 31) (hdg : decode cc pc = .ok (.invokestatic index, 3))
    (kk : W p l e R s m args below meth c H locs cells slots Q (F0 m (pc + 3) ls (.int (nI (min a b)) :: rest))) : W p l e R s m args below meth c H locs cells slots Q (F0 m pc ls (.int (nI b) :: .int (nI a) :: rest)) := by
  refine va_mmin F.1 F.2.1 (by rw [hsize, F.2.2.1]) F.2.2.2.1 (F.2.2.2.2 _ hl1) (F.2.2.2.2 _ hl2) (F.2.2.2.2 _ hl3) (F.2.2.2.2 _ hl4) hR.1 hR.2 hf.1 hf.2 hdg ?_
  refine z_top (y := nI (min a b)) ?_ kk
  by_cases h : b < a
  · rw [if_pos ((nI_ltI hb ha).mpr h), Nat.min_eq_right (by omega)]
  · rw [if_neg (fun z => h ((nI_ltI hb ha).mp z)), Nat.min_eq_left (by omega)]
theorem z_mmax {a b : Nat} (F : CallFix p m c cc nL s args Ts own) (hsize : ls.size = nL) (hl1 : Cond.methodLink own index Lib.Math.max.name ∈ Ts) (hl2 : Cond.static Lib.Math.max.name ∈ Ts) (hl3 : Cond.initialized "java/lang/Math" ∈ Ts) (hl4 : Cond.code Lib.Math.max.name Lib.Math.max.code 2 (some .int) ∈ Ts) (hR : 1 ≤ R.frames ∧ (rest.map fun v => v.category).sum + 13 ≤ R.locals) (hf : cells ≤ R.cells ∧ slots ≤ R.slots) (ha : a < 2 ^ 31) (hb : b < 2 ^ 31) (hdg : decode cc pc = .ok (.invokestatic index, 3))
    (kk : W p l e R s m args below meth c H locs cells slots Q (F0 m (pc + 3) ls (.int (nI (max a b)) :: rest))) : W p l e R s m args below meth c H locs cells slots Q (F0 m pc ls (.int (nI b) :: .int (nI a) :: rest)) := by
  refine va_mmax F.1 F.2.1 (by rw [hsize, F.2.2.1]) F.2.2.2.1 (F.2.2.2.2 _ hl1) (F.2.2.2.2 _ hl2) (F.2.2.2.2 _ hl3) (F.2.2.2.2 _ hl4) hR.1 hR.2 hf.1 hf.2 hdg ?_
  refine z_top (y := nI (max a b)) ?_ kk
  by_cases h : a < b
  · rw [if_pos ((nI_ltI ha hb).mpr h), Nat.max_eq_right (by omega)]
  · rw [if_neg (fun z => h ((nI_ltI ha hb).mp z)), Nat.max_eq_left (by omega)]
/-- max (a - b) 0 -/
theorem z_mmax0 {a b : Nat} (F : CallFix p m c cc nL s args Ts own) (hsize : ls.size = nL) (hl1 : Cond.methodLink own index Lib.Math.max.name ∈ Ts) (hl2 : Cond.static Lib.Math.max.name ∈ Ts) (hl3 : Cond.initialized "java/lang/Math" ∈ Ts) (hl4 : Cond.code Lib.Math.max.name Lib.Math.max.code 2 (some .int) ∈ Ts) (hR : 1 ≤ R.frames ∧ (rest.map fun v => v.category).sum + 13 ≤ R.locals) (hf : cells ≤ R.cells ∧ slots ≤ R.slots) (ha : a < 2 ^ 30) (hb : b < 2 ^ 30) (hdg : decode cc pc = .ok (.invokestatic index, 3))
    (kk : W p l e R s m args below meth c H locs cells slots Q (F0 m (pc + 3) ls (.int (nI (a - b)) :: rest))) : W p l e R s m args below meth c H locs cells slots Q (F0 m pc ls (.int (nI 0) :: .int (nI a - nI b) :: rest)) := by
  refine va_mmax F.1 F.2.1 (by rw [hsize, F.2.2.1]) F.2.2.2.1 (F.2.2.2.2 _ hl1) (F.2.2.2.2 _ hl2) (F.2.2.2.2 _ hl3) (F.2.2.2.2 _ hl4) hR.1 hR.2 hf.1 hf.2 hdg ?_
  refine z_top (y := nI (a - b)) ?_ kk
  by_cases h : a < b
  · rw [nI_0, if_pos (pk_sneg hb h), Nat.sub_eq_zero_of_le (by omega), nI_0]
  · have h1 : b ≤ a := by omega
    rw [pk_sub h1, nI_0, if_neg (nI_pos (by omega))]
/-! .. that may throw -/
variable {px px' : String → Prop} {P : Prop} {sa : Nat → Nat} {Qc : Array Value → State → Outcome → State → Prop} {mc' ms' : Nat} {free : Addr → Prop}
theorem z_out {E : String} {ce : Cell} {q : Addr} (hnox : ∀ x ∈ c.exceptionTable.toList, False) (hlocks : meth.locks = false) (hS0 : va_S noA s.heap H locs) (hcell : H[q]? = some ce) (hv : ce.vm = .none) (hcl : s.vm.findClass E = some ce.cls) (hpx : px' E) (hc : cells ≤ mc') (hs : slots ≤ ms') :
    vx_W p l e R s m args below meth c H locs cells slots (vx_MQ below Qc (zX px') args s mc' ms' free) (F0 m pc ls rest) q :=
  vx_out (fun x hx => (hnox x hx).elim) hlocks hcell hv hcl (fun t ht hvm => ⟨(), trivial, hpx, hS0.F ht⟩) (fun z hz => (hS0.2.2 z hz).elim) hc hs
/-- a check: static -/
theorem z_xS (F : CallFix p m c cc nL s args Ts own) (hM : vx_Met l y ws rm (va_Pc As (fun U => zE noA sa U U.heap)) (zQv P) (zX px) mc ms noA) (cw : CallB R s args own index y bytes maxL ret ws rm mc ms na ∧ (Cond.static y).before args s = true)
    (hE : zE A sa s s.heap) (hS0 : va_S noA s.heap H locs) (hnox : ∀ x ∈ c.exceptionTable.toList, False) (hlocks : meth.locks = false) (hn : As.length = na) (hsize : ls.size = nL) (hst : st0 = As.reverse ++ rest) (hW : (rest.map fun v => v.category).sum ≤ 8) (hdg : decode cc pc = .ok (.invokestatic index, 3)) (hf : cells + mc ≤ R.cells ∧ slots + ms ≤ R.slots)
    (hc : cells + mc ≤ mc') (hs : slots + ms ≤ ms') (kx : ∀ E, px E → px' E)
    (kk : P → ∀ (H1 : Heap) (locs1 : List Loc), H.size ≤ H1.size → (∀ q : Nat, q < H.size → ¬ noA q → H1[q]? = H[q]?) → va_S noA s.heap H1 locs1 → W p l e R s m args below meth c H1 locs1 (cells + mc) (slots + ms) (vx_MQ below Qc (zX px') args s mc' ms' free) (F0 m (pc + 3) ls rest)) : W p l e R s m args below meth c H locs cells slots (vx_MQ below Qc (zX px') args s mc' ms' free) (F0 m pc ls st0) := by
  subst hst
  refine vx_callv (vx_runS (g := F0 m pc ls (As.reverse ++ rest)) F hM cw ⟨fun a U g mk h => ⟨h.1, h.2.same rfl⟩, fun U hU hW1 => ⟨rfl, by show zE noA sa U U.heap; rw [hU]; exact hE.go hW1 noA_le (fun q h1 _ => hS0.2.1 q h1 (fun z => z))⟩⟩ rfl hn hsize rfl (lv_room hW) hdg hf) hS0 (fun q _ h => h) (fun q h => h) (fun q _ h => h) (fun E ce q9 u t H1 locs1 ht hvm _ hb _ _ hS1 hce hcv hcl => z_out hnox hlocks hS1 hce hcv hcl (kx E hb) hc hs) (fun u t H1 locs1 ht hvm hp hb hz hk hS1 => kk hp H1 locs1 hz hk hS1)
/-- a look-up, virtual, that may throw -/
theorem z_xVq {ci : Nat} {qc : vw_C} {fs : List Value} {P : Nat → Prop} (q0 : Nat) (F : CallFix p m c cc nL s args Ts own) (hM : vx_Met l y ws rm (va_Pc (.ref (ad q0) :: As) (fun U => zR D k n ad f U ∧ zE noA sa U U.heap)) (zQq P) (zX px) mc ms noA) (cw : CallW R s args own qc.1 index y bytes maxL ret ws rm mc ms na)
    (hK : va_K D vwCl (tyL k) s) (hP : va_P D vwCl (zw n ad f) H) (hq : q0 < n) (he : f q0 = .inr (ci, fs)) (hcl : vwCl[ci]? = some qc) (hE : zE A sa s s.heap) (hS0 : va_S noA s.heap H locs) (hnox : ∀ x ∈ c.exceptionTable.toList, False) (hlocks : meth.locks = false) (hn : As.length = na) (hsize : ls.size = nL) (hst : st0 = As.reverse ++ .ref (ad q0) :: rest) (hW : (rest.map fun v => v.category).sum ≤ 8) (hdg : decode cc pc = .ok (.invokevirtual index, 3)) (hf : cells + mc ≤ R.cells ∧ slots + ms ≤ R.slots)
    (hc : cells + mc ≤ mc') (hs : slots + ms ≤ ms') (kx : ∀ E, px E → px' E)
    (kk : ∀ a : Nat, P a → ∀ (H1 : Heap) (locs1 : List Loc), H.size ≤ H1.size → (∀ q : Nat, q < H.size → ¬ noA q → H1[q]? = H[q]?) → va_S noA s.heap H1 locs1 → W p l e R s m args below meth c H1 locs1 (cells + mc) (slots + ms) (vx_MQ below Qc (zX px') args s mc' ms' free) (F0 m (pc + 3) ls (.ref a :: rest))) : W p l e R s m args below meth c H locs cells slots (vx_MQ below Qc (zX px') args s mc' ms' free) (F0 m pc ls st0) := by
  subst hst
  refine vx_callq (vx_runV (g := F0 m pc ls (As.reverse ++ .ref (ad q0) :: rest)) F hM cw ⟨fun a U g mk h => ⟨h.1, z_frameR h.2.1, h.2.2.same rfl⟩, va_recv hK hP hcl ((zw_at hq).trans (by rw [he])), fun U hU hW1 => ⟨rfl, ⟨by rw [hU]; exact hP, va_K.moved hW1.alike hK⟩, by show zE noA sa U U.heap; rw [hU]; exact hE.go hW1 noA_le (fun q h1 _ => hS0.2.1 q h1 (fun z => z))⟩⟩ rfl hn hsize rfl (lv_room hW) hdg hf) hS0 (fun q _ h => h) (fun q h => h) (fun q _ h => h) (fun E ce q9 u t H1 locs1 ht hvm _ hb _ _ hS1 hce hcv hcl => z_out hnox hlocks hS1 hce hcv hcl (kx E hb) hc hs) (fun r u t H1 locs1 ht hvm hp hb hz hk hS1 => ?_)
  obtain ⟨a, rfl, hp⟩ := hp
  exact kk a hp H1 locs1 hz hk hS1
/-- a throw -/
theorem z_throw {cls text : String} {ik is ic a9 : Nat} (F : CallFix p m c cc nL s args Ts own) (hl : l.stackTraces = false) (hcls : Bundle.fit cls = true) (hk : Cond.classLink own ik cls ∈ Ts) (hini : Cond.initialized cls ∈ Ts) (hstr : vk_R own is text a9 s)
    (hat : ∀ w ∈ (vx_atS own ic cls exN).filter goodWord, w ∈ Ts) (hng : ∀ w ∈ (vx_atS own ic cls exN).filter (fun w => !goodWord w), w ∈ [Cond.castable cls cls]) (hca : va_Nw (.castable cls cls) s) (hgood : ∀ w ∈ Cond.classLink own ik cls :: Cond.initialized cls :: vx_atS own ic cls exN, vx_ot w = true)
    (hE : zE noA sa s s.heap) (hS0 : va_S noA s.heap H locs) (hsize : ls.size = nL)
    (d0 : decode cc pc = .ok (.new ik, 3)) (d3 : decode cc (pc + 3) = .ok (.dup, 1)) (d4 : decode cc (pc + 4) = .ok (.ldc is, 2)) (d6 : decode cc (pc + 6) = .ok (.invokespecial ic, 3)) (d9 : decode cc (pc + 9) = .ok (.athrow, 1))
    (hnox : ∀ x ∈ c.exceptionTable.toList, False) (hlocks : meth.locks = false) (hRf : 5 < R.frames) (hRl : (rest.map fun v => v.category).sum + 82 ≤ R.locals) (hRc : cells + 1 ≤ R.cells) (hRs : slots + 6 ≤ R.slots) (hc : cells + 1 ≤ mc') (hs : slots + 6 ≤ ms') (hpx : px' cls) :
    W p l e R s m args below meth c H locs cells slots (vx_MQ below Qc (zX px') args s mc' ms' free) (F0 m pc ls rest) := by
  refine vx_throwS (names := exN) (A := noA) F.1 F.2.1 hl F.2.2.2.1 hcls (by decide) (F.2.2.2.2 _ hk) (F.2.2.2.2 _ hini) hstr (vx_hat (B := [Cond.castable cls cls]) (fun w hw => F.2.2.2.2 w (hat w hw)) hng (vx_c hca vx_n)) hgood hE.1.1 hE.1.2 hS0 (by rw [hsize, F.2.2.1]) d0 d3 d4 d6 d9 (fun x hx => (hnox x hx).elim) hRf hRl hRc hRs hlocks (fun t hvm hz hk9 => ⟨(), trivial, hpx, Nat.le_trans hS0.1 hz, fun q h1 h2 => (hk9 q (Nat.lt_of_lt_of_le h1 hS0.1)).trans (hS0.2.1 q h1 h2)⟩) (fun z hz => (hS0.2.2 z hz).elim) hc hs
end ZC
end
section
/-! WHAT THE METHODS SAY, over the state. -/
noncomputable def cI (P : Prop) (a b : Nat) : Nat := @ite _ P (Classical.propDecidable P) a b
theorem cI_t {P : Prop} {a b : Nat} (h : P) : cI P a b = a := by unfold cI; exact if_pos h
theorem cI_f {P : Prop} {a b : Nat} (h : ¬ P) : cI P a b = b := by unfold cI; exact if_neg h
abbrev ix (p : Int32) : Nat := p.toNatClampNeg
theorem ix_nI {j : Nat} (h : j < 2 ^ 31) : ix (nI j) = j := nI_clamp h
def zI (N : Nat) (p : Int32) : Prop := ∃ j, j < N ∧ p = nI j
def zB (lo hi : Nat) (p : Int32) : Prop := ∃ j, lo ≤ j ∧ j ≤ hi ∧ p = nI j
theorem zB_iff {lo hi : Nat} (h : lo < 2 ^ 31) (h2 : hi < 2 ^ 31) {p : Int32} : (nI lo ≤ p ∧ p ≤ nI hi) ↔ zB lo hi p := by
  constructor
  · rintro ⟨h3, h4⟩
    have e1 := Int32.le_iff_toInt_le.mp h3
    rw [nI_toInt h] at e1
    have h0 : ¬ p < 0 := by rw [Int32.lt_iff_toInt_lt, Int32.toInt_zero]; omega
    obtain ⟨j, hj, rfl⟩ := nI_of h0
    exact ⟨j, (nI_leI h hj).mp h3, (nI_leI hj h2).mp h4, rfl⟩
  · rintro ⟨j, h3, h4, rfl⟩
    exact ⟨(nI_leI h (by omega)).mpr h3, (nI_leI (by omega) h2).mpr h4⟩
theorem zI_iff {N : Nat} (h : N < 2 ^ 31) {p : Int32} : (0 ≤ p ∧ p < nI N) ↔ zI N p := by
  constructor
  · rintro ⟨h3, h4⟩
    have h0 : ¬ p < 0 := by
      rw [Int32.lt_iff_toInt_lt, Int32.toInt_zero]
      have := Int32.le_iff_toInt_le.mp h3
      rw [Int32.toInt_zero] at this
      omega
    obtain ⟨j, hj, rfl⟩ := nI_of h0
    exact ⟨j, (nI_ltI hj h).mp h4, rfl⟩
  · rintro ⟨j, h3, rfl⟩
    exact ⟨nI_pos' (by omega), (nI_ltI (by omega) h).mpr h3⟩
theorem zI_zB {N : Nat} {p : Int32} (h : 0 < N) : zI N p ↔ zB 0 (N - 1) p := by
  constructor
  · rintro ⟨j, h1, h2⟩; exact ⟨j, by omega, by omega, h2⟩
  · rintro ⟨j, -, h1, h2⟩; exact ⟨j, by omega, h2⟩
/-- the state's bounds -/
def zInv (M : Nat → Nat → Nat) : Prop :=
  M 0 0 ≤ 24000 ∧ M 0 1 ≤ 40 ∧ (∀ i, i < 4 → M 1 i < 128 ∧ M 2 i ≤ M 3 i ∧ M 3 i ≤ 23 ∧ M 7 i ≤ 8) ∧ (∀ j, j < 9 → 1 ≤ M 8 j ∧ M 8 j ≤ 1000) ∧
  (∀ c, c < M 0 1 → M 9 c < 4 ∧ M 10 c < 4 ∧ M 11 c < 3 ∧ M 12 c < 3 ∧ M 13 c ≤ M 0 1 ∧ M 14 c ≤ 1 ∧ M 16 c ≤ 3) ∧ (∀ x, x < 120 → M 15 x ≤ M 0 0) ∧
  (∀ c, c < 40 → M 0 1 ≤ c → M 14 c = 0 ∧ M 16 c = 0 ∧ ∀ s, s < 3 → M 15 (3 * c + s) = 0) ∧
  (∀ i j, i < 4 → j < M 7 i → M 4 (8 * i + j) < 16 ∧ M 5 (8 * i + j) ≤ 1000 ∧ M 6 (8 * i + j) ≤ 1000)
def cov (M : Nat → Nat → Nat) (i kd d : Nat) : Prop := ∃ j, j < M 7 i ∧ (M 4 (8 * i + j)).testBit kd = true ∧ M 5 (8 * i + j) ≤ d ∧ d ≤ M 6 (8 * i + j)
def hrB (M : Nat → Nat → Nat) (i h : Nat) : Bool := (M 1 i).testBit (h / 24 % 7) && (decide (M 2 i ≤ h % 24) && decide (h % 24 ≤ M 3 i))
def hN (M : Nat → Nat → Nat) (i : Nat) : Nat → Nat
  | 0 => 0
  | h + 1 => hN M i h + (if hrB M i h = true then 1 else 0)
theorem hN_le (M : Nat → Nat → Nat) (i : Nat) : ∀ h, hN M i h ≤ h
  | 0 => Nat.le_refl 0
  | h + 1 => by
    have := hN_le M i h
    unfold hN
    by_cases q : hrB M i h = true
    · rw [if_pos q]; omega
    · rw [if_neg q]; omega
theorem hN_mono (M : Nat → Nat → Nat) (i a : Nat) : ∀ n, hN M i a ≤ hN M i (a + n) ∧ hN M i (a + n) ≤ hN M i a + n
  | 0 => ⟨Nat.le_refl _, Nat.le_refl _⟩
  | n + 1 => by
    have := hN_mono M i a n
    have e : hN M i (a + (n + 1)) = hN M i (a + n) + (if hrB M i (a + n) = true then 1 else 0) := rfl
    rw [e]
    by_cases q : hrB M i (a + n) = true
    · rw [if_pos q]; omega
    · rw [if_neg q]; omega
def pc7 (d : Nat) : Nat := (d.testBit 0).toNat + (d.testBit 1).toNat + (d.testBit 2).toNat + (d.testBit 3).toNat + (d.testBit 4).toNat + (d.testBit 5).toNat + (d.testBit 6).toNat
theorem pc7_0 : pc7 0 = 0 := by decide +kernel
theorem pc7_s : ∀ D, D < 128 → ∀ w, w < 7 → pc7 (D % 2 ^ (w + 1)) = pc7 (D % 2 ^ w) + (D.testBit w).toNat := by decide +kernel
theorem pc7_7 : ∀ D, D < 128 → pc7 (D % 2 ^ 7) = pc7 D := by decide +kernel
theorem pc7_le : ∀ D, D < 128 → pc7 D ≤ 7 := by decide +kernel
def wk (D day : Nat) : Nat := day / 7 * pc7 D + pc7 (D % 2 ^ (day % 7))
theorem wk_s {D : Nat} (hD : D < 128) (d : Nat) : wk D (d + 1) = wk D d + (D.testBit (d % 7)).toNat := by
  unfold wk
  by_cases h : d % 7 = 6
  · have h1 : (d + 1) / 7 = d / 7 + 1 := by omega
    have h2 : (d + 1) % 7 = 0 := by omega
    have h3 := pc7_s D hD 6 (by omega)
    rw [pc7_7 D hD] at h3
    rw [h1, h2, h, Nat.add_mul, Nat.one_mul, h3, Nat.pow_zero, Nat.mod_one, pc7_0]
    omega
  · have h1 : (d + 1) / 7 = d / 7 := by omega
    have h2 : (d + 1) % 7 = d % 7 + 1 := by omega
    rw [h1, h2, pc7_s D hD (d % 7) (by omega)]
    omega
theorem hN_closed {M : Nat → Nat → Nat} {i : Nat} (hD : M 1 i < 128) (hf : M 2 i ≤ M 3 i) (hl : M 3 i ≤ 23) : ∀ e, hN M i e = wk (M 1 i) (e / 24) * (M 3 i - M 2 i + 1) + (if (M 1 i).testBit (e / 24 % 7) = true then min (e % 24 - M 2 i) (M 3 i - M 2 i + 1) else 0)
  | 0 => by
    unfold hN wk
    simp [pc7_0, Nat.mod_one]
  | e + 1 => by
    have ih := hN_closed hD hf hl e
    show hN M i e + (if hrB M i e = true then 1 else 0) = _
    rw [ih]
    unfold hrB
    generalize hn : M 3 i - M 2 i + 1 = n
    generalize hw : wk (M 1 i) (e / 24) = w
    by_cases h : e % 24 = 23
    · have h1 : (e + 1) / 24 = e / 24 + 1 := by omega
      have h2 : (e + 1) % 24 = 0 := by omega
      rw [h1, h2, wk_s hD, hw, h, Nat.zero_sub, Nat.zero_min, ite_self, Nat.add_zero, Nat.add_mul]
      cases hb1 : (M 1 i).testBit (e / 24 % 7) with
      | false => simp
      | true =>
        by_cases h3 : M 3 i = 23
        · have h4 : M 2 i ≤ 23 := by omega
          have h5 : 23 ≤ M 3 i := by omega
          simp [h4, h5]
          omega
        · have h5 : ¬ 23 ≤ M 3 i := by omega
          simp [h5]
          omega
    · have h1 : (e + 1) / 24 = e / 24 := by omega
      have h2 : (e + 1) % 24 = e % 24 + 1 := by omega
      rw [h1, h2, hw]
      cases hb1 : (M 1 i).testBit (e / 24 % 7) with
      | false => simp
      | true =>
        by_cases h3 : M 2 i ≤ e % 24
        · by_cases h4 : e % 24 ≤ M 3 i
          · simp [h3, h4]; omega
          · simp [h3, h4]; omega
        · simp [h3]; omega
/-! bits of small numbers -/
theorem bit_shr : ∀ D, D < 128 → ∀ w, w < 7 → (nI D >>> (nI w &&& 31)) &&& nI 1 = nI ((D.testBit w).toNat) := by decide +kernel
theorem bit_and : ∀ D, D < 128 → ∀ w, w < 7 → nI D &&& ((nI 1 <<< (nI w &&& 31)) - nI 1) = nI (D % 2 ^ w) := by decide +kernel
theorem bit_b {b : Bool} : nI b.toNat = bI (b = true) := by
  cases b
  · exact (bI_f (by decide)).symm
  · exact (bI_t rfl).symm
def mN (M : Nat → Nat → Nat) (c : Nat) : Nat → Nat
  | 0 => 0
  | s + 1 => mN M c s + (if s < M 16 c ∧ M 8 (3 * M 11 c + s) < M 15 (3 * c + s) then 1 else 0)
theorem mN_le (M : Nat → Nat → Nat) (c : Nat) : ∀ s, mN M c s ≤ s
  | 0 => Nat.le_refl 0
  | s + 1 => by
    have := mN_le M c s
    unfold mN
    by_cases q : s < M 16 c ∧ M 8 (3 * M 11 c + s) < M 15 (3 * c + s)
    · rw [if_pos q]; omega
    · rw [if_neg q]; omega
def stp (M : Nat → Nat → Nat) (c s : Nat) : Nat :=
  if s < M 16 c then 0 else if 100 * M 8 (3 * M 11 c + s) < 100 * M 15 (3 * c + s) then 3 else if 75 * M 8 (3 * M 11 c + s) ≤ 100 * M 15 (3 * c + s) then 2 else if 50 * M 8 (3 * M 11 c + s) ≤ 100 * M 15 (3 * c + s) then 1 else 0
theorem stp_le (M : Nat → Nat → Nat) (c s : Nat) : stp M c s ≤ 3 := by
  unfold stp
  repeat' split
  all_goals omega
def gS (M : Nat → Nat → Nat) (c : Nat) : Nat → Nat
  | 0 => 0
  | s + 1 => max (gS M c s) (stp M c s)
theorem gS_le (M : Nat → Nat → Nat) (c : Nat) : ∀ s, gS M c s ≤ 3
  | 0 => Nat.zero_le 3
  | s + 1 => by
    have := gS_le M c s
    have := stp_le M c s
    unfold gS
    omega
def jN (M : Nat → Nat → Nat) (h : Nat) : Nat → Nat
  | 0 => 0
  | c + 1 => jN M h c + (if M 12 c = 1 ∧ M 13 c = h + 1 then 1 else 0)
theorem jN_le (M : Nat → Nat → Nat) (h : Nat) : ∀ c, jN M h c ≤ c
  | 0 => Nat.le_refl 0
  | c + 1 => by
    have := jN_le M h c
    unfold jN
    by_cases q : M 12 c = 1 ∧ M 13 c = h + 1
    · rw [if_pos q]; omega
    · rw [if_neg q]; omega
def uB (M : Nat → Nat → Nat) : Nat → Nat
  | 0 => 0
  | c + 1 => if (M 12 c = 0 ∧ M 14 c = 0) ∧ (uB M c = 0 ∨ gS M (uB M c - 1) 3 < gS M c 3 ∨ (gS M (uB M c - 1) 3 = gS M c 3 ∧ M 11 (uB M c - 1) < M 11 c)) then c + 1 else uB M c
theorem uB_le (M : Nat → Nat → Nat) : ∀ c, uB M c ≤ c
  | 0 => Nat.le_refl 0
  | c + 1 => by
    have := uB_le M c
    unfold uB
    split <;> omega
/-- the clock of the stage s of the case c, when the time goes from a to b -/
def rkv (M : Nat → Nat → Nat) (a b c s : Nat) : Nat := if (M 12 c = 0 ∧ M 14 c = 0) ∧ ¬ s < M 16 c then M 15 (3 * c + s) + (hN M (M 9 c) b - hN M (M 9 c) a) else M 15 (3 * c + s)
/-- .. of the case c alone; of the first n cases -/
def rk1 (M : Nat → Nat → Nat) (a b c : Nat) : Nat → Nat → Nat := fun r x => if r = 15 ∧ x / 3 = c then rkv M a b c (x % 3) else M r x
def rkM (M : Nat → Nat → Nat) (a b n : Nat) : Nat → Nat → Nat := fun r x => if r = 15 ∧ x / 3 < n then rkv M a b (x / 3) (x % 3) else M r x
/-- the first n cases that are joined to c are closed -/
def clM (M : Nat → Nat → Nat) (c n : Nat) : Nat → Nat → Nat := fun r x => if r = 12 ∧ x < n ∧ M 12 x = 1 ∧ M 13 x = c + 1 then 2 else M r x
end
section
set_option maxRecDepth 100000 in
set_option maxHeartbeats 4000000 in
/-- Site.countsDay(d) -/
theorem c_X1_countsDay (l : Launch) (D : va_G) (k : Nat → ClassId) (ad : Nat → Nat) (M : Nat → Nat → Nat) (O : Nat → Nat → Int32) (hI : zInv M) (i d : Nat) (hi : i < 4) (hd : d < 2 ^ 31) : Met l yX1_countsDay wsX1_countsDay ({ frames := 0, cells := 0, slots := 0, locals := 0 }) (va_Pc [.ref (ad (4 + 4 * i)), .int (nI d)] (zR D k (20 + 2 * M 0 1) ad (cX k ad M O))) (vp_Si (fun r => r = bI ((M 1 i).testBit (d % 7) = true))) 0 0 (fun _ => False) := by
  refine Met.ofW (cc := cX1_countsDay) (maxL := 2) (ret := (some .boolean)) (by decide) rfl ?_
  intro p e s m args below meth c s₁ B hml hv
  obtain ⟨rfl, hP, hK⟩ := hv
  have hx := B.exec
  have hb := B.bytes
  have hr := B.returns
  have hts := atoms_spec (ws := wsX1_countsDay) B.pre
  have hown : s.vm.findClass RX1 = some m.cls := findClass_of_methodNamed B.named
  have hlocks := B.notSynchronized
  have F : CallFix p m c cX1_countsDay 2 s _ wsX1_countsDay RX1 := ⟨hx, hb, hml, hown, hts⟩
  have hl := lv_entry ([.ref (ad (4 + 4 * i)), .int (nI d)]) (n := 2) (Nat.le_of_ble_eq_true rfl)
  rw [lg_entry_eq]
  generalize (lg_sl ([.ref (ad (4 + 4 * i)), .int (nI d)]) ++ List.replicate (2 - (lg_sl ([.ref (ad (4 + 4 * i)), .int (nI d)])).length) Slot.unset).toArray = ls at hl ⊢
  have hl : lv_has ls 2 [(0, .ref (ad (4 + 4 * i))), (1, .int (nI d))] := hl
  have hi1 : ∀ w ∈ u_ws RX1 TX1 9, w ∈ wsX1_countsDay := by decide +kernel
  obtain ⟨hI1, hI2, hI3, hI4, hI5, hI6, hI7, hI8⟩ := id hI
  obtain ⟨hd1, hd2, hd3, hd4⟩ := hI3 i hi
  refine lv_aload_n hx hb dX1_countsDay_0 rfl (lv_at hl 0 rfl) ?_
  refine z_get (C := RX1) (T := TX1) (N := 9) (ci := 1) (v := .int (nI (M 1 i))) F hK hP hi1 rfl (4 + 4 * i) 0 (by have := hi; omega) (cX_s hi) (by decide) rfl (by decide +kernel) dX1_countsDay_1 ?_
  refine lv_iload_n hx hb dX1_countsDay_4 rfl (lv_at hl 1 rfl) ?_
  refine lv_bipush (v := nI 7) hx hb dX1_countsDay_5 (by decide) ?_
  refine z_rem F (by omega) (by omega) (by omega) dX1_countsDay_7 ?_
  refine lv_ishr hx hb dX1_countsDay_8 ?_
  refine lv_iconst (v := nI 1) hx hb dX1_countsDay_9 (by decide) ?_
  refine lv_iand hx hb dX1_countsDay_10 ?_
  refine z_top (show (nI (M 1 i) >>> (nI (d % 7) &&& 31)) &&& nI 1 = bI ((M 1 i).testBit (d % 7) = true) by rw [bit_shr _ hd1 _ (Nat.mod_lt _ (by decide)), bit_b]) ?_
  refine z_ifb_eq (tgt := 18) F dX1_countsDay_11 (by decide) (fun c1 => ?_) (fun c1 => ?_)
  · refine lv_iconst (v := nI 0) hx hb dX1_countsDay_18 (by decide) ?_
    exact W.zret (v := nI 0) hx hb hr rfl (fun t ht hW => ⟨nI 0, rfl, (bI_f c1).symm, ht⟩) (fun q h => by cases h) dX1_countsDay_19
  · refine lv_iconst (v := nI 1) hx hb dX1_countsDay_14 (by decide) ?_
    refine lv_goto (tgt := 19) hx hb dX1_countsDay_15 (by decide) ?_
    exact W.zret (v := nI 1) hx hb hr rfl (fun t ht hW => ⟨nI 1, rfl, (bI_t c1).symm, ht⟩) (fun q h => by cases h) dX1_countsDay_19
set_option maxRecDepth 100000 in
set_option maxHeartbeats 4000000 in
/-- Site.counts(h) -/
theorem c_X1_counts (l : Launch) (D : va_G) (k : Nat → ClassId) (ad : Nat → Nat) (M : Nat → Nat → Nat) (O : Nat → Nat → Int32) (hI : zInv M) (i h : Nat) (hi : i < 4) (hh : h < 2 ^ 31) : Met l yX1_counts wsX1_counts ({ frames := 1, cells := 0, slots := 0, locals := 21 }) (va_Pc [.ref (ad (4 + 4 * i)), .int (nI h)] (zR D k (20 + 2 * M 0 1) ad (cX k ad M O))) (vp_Si (fun r => r = bI (hrB M i h = true))) 0 0 (fun _ => False) := by
  refine Met.ofW (cc := cX1_counts) (maxL := 3) (ret := (some .boolean)) (by decide) rfl ?_
  intro p e s m args below meth c s₁ B hml hv
  obtain ⟨rfl, hP, hK⟩ := hv
  have hx := B.exec
  have hb := B.bytes
  have hr := B.returns
  have hts := atoms_spec (ws := wsX1_counts) B.pre
  have hown : s.vm.findClass RX1 = some m.cls := findClass_of_methodNamed B.named
  have hlocks := B.notSynchronized
  have F : CallFix p m c cX1_counts 3 s _ wsX1_counts RX1 := ⟨hx, hb, hml, hown, hts⟩
  have hl := lv_entry ([.ref (ad (4 + 4 * i)), .int (nI h)]) (n := 3) (Nat.le_of_ble_eq_true rfl)
  rw [lg_entry_eq]
  generalize (lg_sl ([.ref (ad (4 + 4 * i)), .int (nI h)]) ++ List.replicate (3 - (lg_sl ([.ref (ad (4 + 4 * i)), .int (nI h)])).length) Slot.unset).toArray = ls at hl ⊢
  have hl : lv_has ls 3 [(0, .ref (ad (4 + 4 * i))), (1, .int (nI h))] := hl
  have hi1 : ∀ w ∈ u_ws RX1 TX1 9, w ∈ wsX1_counts := by decide +kernel
  obtain ⟨hI1, hI2, hI3, hI4, hI5, hI6, hI7, hI8⟩ := id hI
  obtain ⟨hd1, hd2, hd3, hd4⟩ := hI3 i hi
  refine lv_iload_n hx hb dX1_counts_0 rfl (lv_at hl 1 rfl) ?_
  refine lv_bipush (v := nI 24) hx hb dX1_counts_1 (by decide) ?_
  refine z_rem F (by omega) (by omega) (by omega) dX1_counts_3 ?_
  refine lv_istore_n (lv' := [(2, .int (nI (h % 24))), (0, .ref (ad (4 + 4 * i))), (1, .int (nI h))]) hx hb dX1_counts_4 rfl hl (by decide) rfl (fun ls hl => ?_)
  refine lv_aload_n hx hb dX1_counts_5 rfl (lv_at hl 1 rfl) ?_
  refine lv_iload_n hx hb dX1_counts_6 rfl (lv_at hl 2 rfl) ?_
  refine lv_bipush (v := nI 24) hx hb dX1_counts_7 (by decide) ?_
  refine z_div F (by omega) (by omega) (by omega) dX1_counts_9 ?_
  refine z_cV (qc := (RX1, TX1, 9)) (As := [.int (nI (h / 24))]) (rest := []) (4 + 4 * i) F (c_X1_countsDay l D k ad M O hI i (h / 24) hi (by omega)) (cwV 1 hts gX1_counts_X1_countsDay rfl rfl rfl (by decide +kernel) ⟨Nat.le_of_ble_eq_true rfl, Nat.le_of_ble_eq_true rfl⟩) hK hP (by have := hi; omega) (cX_s hi) rfl rfl hl.1 rfl (Nat.le_of_ble_eq_true rfl) dX1_counts_10 ⟨Nat.le_of_ble_eq_true rfl, Nat.le_of_ble_eq_true rfl⟩ (fun r hr => ?_)
  subst hr
  refine z_ifb_eq (tgt := 36) F dX1_counts_13 (by decide) (fun c2 => ?_) (fun c2 => ?_)
  · refine lv_iconst (v := nI 0) hx hb dX1_counts_36 (by decide) ?_
    exact W.zret (v := nI 0) hx hb hr rfl (fun t ht hW => ⟨nI 0, rfl, (bI_f (fun z => c2 (by unfold hrB at z; simp only [Bool.and_eq_true] at z; exact z.1))).symm, ht⟩) (fun q h => by cases h) dX1_counts_37
  · refine lv_aload_n hx hb dX1_counts_16 rfl (lv_at hl 1 rfl) ?_
    refine z_get (C := RX1) (T := TX1) (N := 9) (ci := 1) (v := .int (nI (M 2 i))) F hK hP hi1 rfl (4 + 4 * i) 1 (by have := hi; omega) (cX_s hi) (by decide) rfl (by decide +kernel) dX1_counts_17 ?_
    refine lv_iload_n hx hb dX1_counts_20 rfl (lv_at hl 0 rfl) ?_
    refine z_icmp_gt (tgt := 36) F (by omega) (by omega) dX1_counts_21 (by decide) (fun c3 => ?_) (fun c3 => ?_)
    · refine lv_iconst (v := nI 0) hx hb dX1_counts_36 (by decide) ?_
      exact W.zret (v := nI 0) hx hb hr rfl (fun t ht hW => ⟨nI 0, rfl, (bI_f (fun z => by unfold hrB at z; simp only [Bool.and_eq_true, decide_eq_true_eq] at z; omega)).symm, ht⟩) (fun q h => by cases h) dX1_counts_37
    · refine lv_iload_n hx hb dX1_counts_24 rfl (lv_at hl 0 rfl) ?_
      refine lv_aload_n hx hb dX1_counts_25 rfl (lv_at hl 1 rfl) ?_
      refine z_get (C := RX1) (T := TX1) (N := 9) (ci := 1) (v := .int (nI (M 3 i))) F hK hP hi1 rfl (4 + 4 * i) 2 (by have := hi; omega) (cX_s hi) (by decide) rfl (by decide +kernel) dX1_counts_26 ?_
      refine z_icmp_gt (tgt := 36) F (by omega) (by omega) dX1_counts_29 (by decide) (fun c4 => ?_) (fun c4 => ?_)
      · refine lv_iconst (v := nI 0) hx hb dX1_counts_36 (by decide) ?_
        exact W.zret (v := nI 0) hx hb hr rfl (fun t ht hW => ⟨nI 0, rfl, (bI_f (fun z => by unfold hrB at z; simp only [Bool.and_eq_true, decide_eq_true_eq] at z; omega)).symm, ht⟩) (fun q h => by cases h) dX1_counts_37
      · refine lv_iconst (v := nI 1) hx hb dX1_counts_32 (by decide) ?_
        refine lv_goto (tgt := 37) hx hb dX1_counts_33 (by decide) ?_
        exact W.zret (v := nI 1) hx hb hr rfl (fun t ht hW => ⟨nI 1, rfl, (bI_t (by unfold hrB; rw [c2]; simp only [decide_eq_true c3, decide_eq_true c4]; rfl)).symm, ht⟩) (fun q h => by cases h) dX1_counts_37
/-- Integer.bitCount, step by step -/
def bc1 (x : Int32) : Int32 := x - ((x.toUInt32 >>> ((nI 1).toUInt32 &&& Int32.toUInt32 31)).toInt32 &&& 1431655765)
def bc2 (x : Int32) : Int32 := (x &&& 858993459) + ((x.toUInt32 >>> ((nI 2).toUInt32 &&& Int32.toUInt32 31)).toInt32 &&& 858993459)
def bc3 (x : Int32) : Int32 := (x + (x.toUInt32 >>> ((nI 4).toUInt32 &&& Int32.toUInt32 31)).toInt32) &&& 252645135
def bc4 (x : Int32) : Int32 := x + (x.toUInt32 >>> ((nI 8).toUInt32 &&& Int32.toUInt32 31)).toInt32
def bc5 (x : Int32) : Int32 := x + (x.toUInt32 >>> ((nI 16).toUInt32 &&& Int32.toUInt32 31)).toInt32
def bcF (x : Int32) : Int32 := bc5 (bc4 (bc3 (bc2 (bc1 x)))) &&& nI 63
theorem bcF_7 : ∀ D, D < 128 → bcF (nI D) = nI (pc7 D) := by decide +kernel
set_option maxRecDepth 100000 in
set_option maxHeartbeats 4000000 in
theorem c_bitCount (l : Launch) (x0 : Int32) : Met l yJ6_bitCount_0f7a4 wsJ6_bitCount_0f7a4 ({ frames := 0, cells := 0, slots := 0, locals := 0 }) (va_Pc [.int x0] (fun _ => True)) (vp_Si (fun r => r = bcF x0)) 0 0 (fun _ => False) := by
  refine Met.ofW (cc := cJ6_bitCount_0f7a4) (maxL := 1) (ret := (some .int)) (by decide) rfl ?_
  intro p e s m args below meth c s₁ B hml hv
  obtain ⟨rfl, -⟩ := hv
  have hx := B.exec
  have hb := B.bytes
  have hr := B.returns
  have hts := atoms_spec (ws := wsJ6_bitCount_0f7a4) B.pre
  have hown : s.vm.findClass RJ6 = some m.cls := findClass_of_methodNamed B.named
  have hlocks := B.notSynchronized
  have F : CallFix p m c cJ6_bitCount_0f7a4 1 s _ wsJ6_bitCount_0f7a4 RJ6 := ⟨hx, hb, hml, hown, hts⟩
  have hl := lv_entry ([.int x0]) (n := 1) (Nat.le_of_ble_eq_true rfl)
  rw [lg_entry_eq]
  generalize (lg_sl ([.int x0]) ++ List.replicate (1 - (lg_sl ([.int x0])).length) Slot.unset).toArray = ls at hl ⊢
  have hl : lv_has ls 1 [(0, .int x0)] := hl
  refine lv_iload_n hx hb dJ6_bitCount_0f7a4_0 rfl (lv_at hl 0 rfl) ?_
  refine lv_iload_n hx hb dJ6_bitCount_0f7a4_1 rfl (lv_at hl 0 rfl) ?_
  refine lv_iconst (v := nI 1) hx hb dJ6_bitCount_0f7a4_2 (by decide) ?_
  refine lv_iushr (v := (x0.toUInt32 >>> ((nI 1).toUInt32 &&& Int32.toUInt32 31)).toInt32) hx hb dJ6_bitCount_0f7a4_3 rfl ?_
  refine lv_ldcw (v := 1431655765) hx hb hown (hts (.constant RJ6 265 (1431655765)) (by decide +kernel)) dJ6_bitCount_0f7a4_4 ?_
  refine lv_iand hx hb dJ6_bitCount_0f7a4_7 ?_
  refine lv_isub hx hb dJ6_bitCount_0f7a4_8 ?_
  refine z_top (show _ = bc1 x0 from rfl) ?_
  refine lv_topi (fun x1 ex1 => ?_)
  refine lv_istore_n (lv' := [(0, .int x1)]) hx hb dJ6_bitCount_0f7a4_9 rfl hl (by decide) rfl (fun ls hl => ?_)
  refine lv_iload_n hx hb dJ6_bitCount_0f7a4_10 rfl (lv_at hl 0 rfl) ?_
  refine lv_ldcw (v := 858993459) hx hb hown (hts (.constant RJ6 266 (858993459)) (by decide +kernel)) dJ6_bitCount_0f7a4_11 ?_
  refine lv_iand hx hb dJ6_bitCount_0f7a4_14 ?_
  refine lv_iload_n hx hb dJ6_bitCount_0f7a4_15 rfl (lv_at hl 0 rfl) ?_
  refine lv_iconst (v := nI 2) hx hb dJ6_bitCount_0f7a4_16 (by decide) ?_
  refine lv_iushr (v := (x1.toUInt32 >>> ((nI 2).toUInt32 &&& Int32.toUInt32 31)).toInt32) hx hb dJ6_bitCount_0f7a4_17 rfl ?_
  refine lv_ldcw (v := 858993459) hx hb hown (hts (.constant RJ6 266 (858993459)) (by decide +kernel)) dJ6_bitCount_0f7a4_18 ?_
  refine lv_iand hx hb dJ6_bitCount_0f7a4_21 ?_
  refine lv_iadd hx hb dJ6_bitCount_0f7a4_22 ?_
  refine z_top (show _ = bc2 x1 from rfl) ?_
  refine lv_topi (fun x2 ex2 => ?_)
  refine lv_istore_n (lv' := [(0, .int x2)]) hx hb dJ6_bitCount_0f7a4_23 rfl hl (by decide) rfl (fun ls hl => ?_)
  refine lv_iload_n hx hb dJ6_bitCount_0f7a4_24 rfl (lv_at hl 0 rfl) ?_
  refine lv_iload_n hx hb dJ6_bitCount_0f7a4_25 rfl (lv_at hl 0 rfl) ?_
  refine lv_iconst (v := nI 4) hx hb dJ6_bitCount_0f7a4_26 (by decide) ?_
  refine lv_iushr (v := (x2.toUInt32 >>> ((nI 4).toUInt32 &&& Int32.toUInt32 31)).toInt32) hx hb dJ6_bitCount_0f7a4_27 rfl ?_
  refine lv_iadd hx hb dJ6_bitCount_0f7a4_28 ?_
  refine lv_ldcw (v := 252645135) hx hb hown (hts (.constant RJ6 267 (252645135)) (by decide +kernel)) dJ6_bitCount_0f7a4_29 ?_
  refine lv_iand hx hb dJ6_bitCount_0f7a4_32 ?_
  refine z_top (show _ = bc3 x2 from rfl) ?_
  refine lv_topi (fun x3 ex3 => ?_)
  refine lv_istore_n (lv' := [(0, .int x3)]) hx hb dJ6_bitCount_0f7a4_33 rfl hl (by decide) rfl (fun ls hl => ?_)
  refine lv_iload_n hx hb dJ6_bitCount_0f7a4_34 rfl (lv_at hl 0 rfl) ?_
  refine lv_iload_n hx hb dJ6_bitCount_0f7a4_35 rfl (lv_at hl 0 rfl) ?_
  refine lv_bipush (v := nI 8) hx hb dJ6_bitCount_0f7a4_36 (by decide) ?_
  refine lv_iushr (v := (x3.toUInt32 >>> ((nI 8).toUInt32 &&& Int32.toUInt32 31)).toInt32) hx hb dJ6_bitCount_0f7a4_38 rfl ?_
  refine lv_iadd hx hb dJ6_bitCount_0f7a4_39 ?_
  refine z_top (show _ = bc4 x3 from rfl) ?_
  refine lv_topi (fun x4 ex4 => ?_)
  refine lv_istore_n (lv' := [(0, .int x4)]) hx hb dJ6_bitCount_0f7a4_40 rfl hl (by decide) rfl (fun ls hl => ?_)
  refine lv_iload_n hx hb dJ6_bitCount_0f7a4_41 rfl (lv_at hl 0 rfl) ?_
  refine lv_iload_n hx hb dJ6_bitCount_0f7a4_42 rfl (lv_at hl 0 rfl) ?_
  refine lv_bipush (v := nI 16) hx hb dJ6_bitCount_0f7a4_43 (by decide) ?_
  refine lv_iushr (v := (x4.toUInt32 >>> ((nI 16).toUInt32 &&& Int32.toUInt32 31)).toInt32) hx hb dJ6_bitCount_0f7a4_45 rfl ?_
  refine lv_iadd hx hb dJ6_bitCount_0f7a4_46 ?_
  refine z_top (show _ = bc5 x4 from rfl) ?_
  refine lv_topi (fun x5 ex5 => ?_)
  refine lv_istore_n (lv' := [(0, .int x5)]) hx hb dJ6_bitCount_0f7a4_47 rfl hl (by decide) rfl (fun ls hl => ?_)
  refine lv_iload_n hx hb dJ6_bitCount_0f7a4_48 rfl (lv_at hl 0 rfl) ?_
  refine lv_bipush (v := nI 63) hx hb dJ6_bitCount_0f7a4_49 (by decide) ?_
  refine lv_iand hx hb dJ6_bitCount_0f7a4_51 ?_
  exact W.iret (v := x5 &&& (nI 63)) hx hb hr (fun t ht hW => ⟨x5 &&& (nI 63), rfl, by rw [ex5, ex4, ex3, ex2, ex1]; rfl, ht⟩) (fun q h => by cases h) dJ6_bitCount_0f7a4_52
set_option maxRecDepth 100000 in
set_option maxHeartbeats 4000000 in
/-- Site.countBefore(e0) -/
theorem c_X1_countBefore (l : Launch) (D : va_G) (k : Nat → ClassId) (ad : Nat → Nat) (M : Nat → Nat → Nat) (O : Nat → Nat → Int32) (hI : zInv M) (i e0 : Nat) (hi : i < 4) (he0 : e0 ≤ 24000) : Met l yX1_countBefore wsX1_countBefore ({ frames := 1, cells := 0, slots := 0, locals := 21 }) (va_Pc [.ref (ad (4 + 4 * i)), .int (nI e0)] (zR D k (20 + 2 * M 0 1) ad (cX k ad M O))) (vp_Si (fun r => r = nI (hN M i e0))) 0 0 (fun _ => False) := by
  refine Met.ofW (cc := cX1_countBefore) (maxL := 7) (ret := (some .int)) (by decide) rfl ?_
  intro p e s m args below meth c s₁ B hml hv
  obtain ⟨rfl, hP, hK⟩ := hv
  have hx := B.exec
  have hb := B.bytes
  have hr := B.returns
  have hts := atoms_spec (ws := wsX1_countBefore) B.pre
  have hown : s.vm.findClass RX1 = some m.cls := findClass_of_methodNamed B.named
  have hlocks := B.notSynchronized
  have F : CallFix p m c cX1_countBefore 7 s _ wsX1_countBefore RX1 := ⟨hx, hb, hml, hown, hts⟩
  have hl := lv_entry ([.ref (ad (4 + 4 * i)), .int (nI e0)]) (n := 7) (Nat.le_of_ble_eq_true rfl)
  rw [lg_entry_eq]
  generalize (lg_sl ([.ref (ad (4 + 4 * i)), .int (nI e0)]) ++ List.replicate (7 - (lg_sl ([.ref (ad (4 + 4 * i)), .int (nI e0)])).length) Slot.unset).toArray = ls at hl ⊢
  have hl : lv_has ls 7 [(0, .ref (ad (4 + 4 * i))), (1, .int (nI e0))] := hl
  have hi1 : ∀ w ∈ u_ws RX1 TX1 9, w ∈ wsX1_countBefore := by decide +kernel
  obtain ⟨hI1, hI2, hI3, hI4, hI5, hI6, hI7, hI8⟩ := id hI
  obtain ⟨hd1, hd2, hd3, hd4⟩ := hI3 i hi
  refine lv_iload_n hx hb dX1_countBefore_0 rfl (lv_at hl 1 rfl) ?_
  refine lv_bipush (v := nI 24) hx hb dX1_countBefore_1 (by decide) ?_
  refine z_div F (by omega) (by omega) (by omega) dX1_countBefore_3 ?_
  refine lv_istore_n (lv' := [(2, .int (nI (e0 / 24))), (0, .ref (ad (4 + 4 * i))), (1, .int (nI e0))]) hx hb dX1_countBefore_4 rfl hl (by decide) rfl (fun ls hl => ?_)
  refine lv_aload_n hx hb dX1_countBefore_5 rfl (lv_at hl 1 rfl) ?_
  refine z_get (C := RX1) (T := TX1) (N := 9) (ci := 1) (v := .int (nI (M 1 i))) F hK hP hi1 rfl (4 + 4 * i) 0 (by have := hi; omega) (cX_s hi) (by decide) rfl (by decide +kernel) dX1_countBefore_6 ?_
  refine lv_iconst (v := nI 1) hx hb dX1_countBefore_9 (by decide) ?_
  refine lv_iload_n hx hb dX1_countBefore_10 rfl (lv_at hl 0 rfl) ?_
  refine lv_bipush (v := nI 7) hx hb dX1_countBefore_11 (by decide) ?_
  refine z_rem F (by omega) (by omega) (by omega) dX1_countBefore_13 ?_
  refine lv_ishl hx hb dX1_countBefore_14 ?_
  refine lv_iconst (v := nI 1) hx hb dX1_countBefore_15 (by decide) ?_
  refine lv_isub hx hb dX1_countBefore_16 ?_
  refine lv_iand hx hb dX1_countBefore_17 ?_
  refine z_top (bit_and _ hd1 _ (Nat.mod_lt _ (by decide))) ?_
  refine lv_istore_n (lv' := [(3, .int (nI (M 1 i % 2 ^ (e0 / 24 % 7)))), (2, .int (nI (e0 / 24))), (0, .ref (ad (4 + 4 * i))), (1, .int (nI e0))]) hx hb dX1_countBefore_18 rfl hl (by decide) rfl (fun ls hl => ?_)
  refine lv_iload_n hx hb dX1_countBefore_19 rfl (lv_at hl 1 rfl) ?_
  refine lv_bipush (v := nI 7) hx hb dX1_countBefore_20 (by decide) ?_
  refine z_div F (by omega) (by omega) (by omega) dX1_countBefore_22 ?_
  refine lv_aload_n hx hb dX1_countBefore_23 rfl (lv_at hl 2 rfl) ?_
  refine z_get (C := RX1) (T := TX1) (N := 9) (ci := 1) (v := .int (nI (M 1 i))) F hK hP hi1 rfl (4 + 4 * i) 0 (by have := hi; omega) (cX_s hi) (by decide) rfl (by decide +kernel) dX1_countBefore_24 ?_
  refine z_cS (As := [.int (nI (M 1 i))]) (rest := [.int (nI ((e0 / 24) / 7))]) F (c_bitCount l (nI (M 1 i))) (va_cwS 1 hts gX1_countBefore_J6_bitCount_0f7a4 rfl rfl rfl (by decide +kernel) ⟨Nat.le_of_ble_eq_true rfl, Nat.le_of_ble_eq_true rfl⟩) rfl hl.1 rfl (Nat.le_of_ble_eq_true rfl) dX1_countBefore_27 ⟨Nat.le_of_ble_eq_true rfl, Nat.le_of_ble_eq_true rfl⟩ (fun r hr => ?_)
  subst hr
  refine z_top (bcF_7 _ hd1) ?_
  refine z_mul F dX1_countBefore_30 ?_
  refine lv_iload_n hx hb dX1_countBefore_31 rfl (lv_at hl 0 rfl) ?_
  refine z_cS (As := [.int (nI (M 1 i % 2 ^ (e0 / 24 % 7)))]) (rest := [.int (nI (((e0 / 24) / 7) * (pc7 (M 1 i))))]) F (c_bitCount l (nI (M 1 i % 2 ^ (e0 / 24 % 7)))) (va_cwS 1 hts gX1_countBefore_J6_bitCount_0f7a4 rfl rfl rfl (by decide +kernel) ⟨Nat.le_of_ble_eq_true rfl, Nat.le_of_ble_eq_true rfl⟩) rfl hl.1 rfl (Nat.le_of_ble_eq_true rfl) dX1_countBefore_32 ⟨Nat.le_of_ble_eq_true rfl, Nat.le_of_ble_eq_true rfl⟩ (fun r hr => ?_)
  subst hr
  refine z_top (bcF_7 _ (Nat.lt_of_le_of_lt (Nat.mod_le _ _) hd1)) ?_
  refine z_add F dX1_countBefore_35 ?_
  refine lv_istore (lv' := [(4, .int (nI ((((e0 / 24) / 7) * (pc7 (M 1 i))) + (pc7 (M 1 i % 2 ^ (e0 / 24 % 7)))))), (3, .int (nI (M 1 i % 2 ^ (e0 / 24 % 7)))), (2, .int (nI (e0 / 24))), (0, .ref (ad (4 + 4 * i))), (1, .int (nI e0))]) hx hb dX1_countBefore_36 hl (by decide) rfl (fun ls hl => ?_)
  refine lv_aload_n hx hb dX1_countBefore_38 rfl (lv_at hl 3 rfl) ?_
  refine z_get (C := RX1) (T := TX1) (N := 9) (ci := 1) (v := .int (nI (M 3 i))) F hK hP hi1 rfl (4 + 4 * i) 2 (by have := hi; omega) (cX_s hi) (by decide) rfl (by decide +kernel) dX1_countBefore_39 ?_
  refine lv_aload_n hx hb dX1_countBefore_42 rfl (lv_at hl 3 rfl) ?_
  refine z_get (C := RX1) (T := TX1) (N := 9) (ci := 1) (v := .int (nI (M 2 i))) F hK hP hi1 rfl (4 + 4 * i) 1 (by have := hi; omega) (cX_s hi) (by decide) rfl (by decide +kernel) dX1_countBefore_43 ?_
  refine z_sub F (by omega) dX1_countBefore_46 ?_
  refine lv_iconst (v := nI 1) hx hb dX1_countBefore_47 (by decide) ?_
  refine z_add F dX1_countBefore_48 ?_
  refine lv_istore (lv' := [(5, .int (nI (((M 3 i) - (M 2 i)) + 1))), (4, .int (nI ((((e0 / 24) / 7) * (pc7 (M 1 i))) + (pc7 (M 1 i % 2 ^ (e0 / 24 % 7)))))), (3, .int (nI (M 1 i % 2 ^ (e0 / 24 % 7)))), (2, .int (nI (e0 / 24))), (0, .ref (ad (4 + 4 * i))), (1, .int (nI e0))]) hx hb dX1_countBefore_49 hl (by decide) rfl (fun ls hl => ?_)
  refine lv_iload hx hb dX1_countBefore_51 (lv_at hl 1 rfl) ?_
  refine lv_iload hx hb dX1_countBefore_53 (lv_at hl 0 rfl) ?_
  refine z_mul F dX1_countBefore_55 ?_
  refine lv_istore (lv' := [(6, .int (nI (((((e0 / 24) / 7) * (pc7 (M 1 i))) + (pc7 (M 1 i % 2 ^ (e0 / 24 % 7)))) * (((M 3 i) - (M 2 i)) + 1)))), (5, .int (nI (((M 3 i) - (M 2 i)) + 1))), (4, .int (nI ((((e0 / 24) / 7) * (pc7 (M 1 i))) + (pc7 (M 1 i % 2 ^ (e0 / 24 % 7)))))), (3, .int (nI (M 1 i % 2 ^ (e0 / 24 % 7)))), (2, .int (nI (e0 / 24))), (0, .ref (ad (4 + 4 * i))), (1, .int (nI e0))]) hx hb dX1_countBefore_56 hl (by decide) rfl (fun ls hl => ?_)
  refine lv_aload_n hx hb dX1_countBefore_58 rfl (lv_at hl 5 rfl) ?_
  refine lv_iload_n hx hb dX1_countBefore_59 rfl (lv_at hl 4 rfl) ?_
  refine z_cV (qc := (RX1, TX1, 9)) (As := [.int (nI (e0 / 24))]) (rest := []) (4 + 4 * i) F (c_X1_countsDay l D k ad M O hI i (e0 / 24) hi (by omega)) (cwV 1 hts gX1_countBefore_X1_countsDay rfl rfl rfl (by decide +kernel) ⟨Nat.le_of_ble_eq_true rfl, Nat.le_of_ble_eq_true rfl⟩) hK hP (by have := hi; omega) (cX_s hi) rfl rfl hl.1 rfl (Nat.le_of_ble_eq_true rfl) dX1_countBefore_60 ⟨Nat.le_of_ble_eq_true rfl, Nat.le_of_ble_eq_true rfl⟩ (fun r hr => ?_)
  subst hr
  refine z_ifb_eq (tgt := 89) F dX1_countBefore_63 (by decide) (fun c5 => ?_) (fun c5 => ?_)
  · refine lv_iload hx hb dX1_countBefore_89 (lv_at hl 0 rfl) ?_
    exact W.iret (v := nI (((((e0 / 24) / 7) * (pc7 (M 1 i))) + (pc7 (M 1 i % 2 ^ (e0 / 24 % 7)))) * (((M 3 i) - (M 2 i)) + 1))) hx hb hr (fun t ht hW => ⟨nI (((((e0 / 24) / 7) * (pc7 (M 1 i))) + (pc7 (M 1 i % 2 ^ (e0 / 24 % 7)))) * (((M 3 i) - (M 2 i)) + 1)), rfl, (by rw [hN_closed hd1 hd2 hd3, if_neg c5, Nat.add_zero]; unfold wk; rfl), ht⟩) (fun q h => by cases h) dX1_countBefore_91
  · refine lv_iload hx hb dX1_countBefore_66 (lv_at hl 0 rfl) ?_
    refine lv_iload_n hx hb dX1_countBefore_68 rfl (lv_at hl 6 rfl) ?_
    refine lv_bipush (v := nI 24) hx hb dX1_countBefore_69 (by decide) ?_
    refine z_rem F (by omega) (by omega) (by omega) dX1_countBefore_71 ?_
    refine lv_aload_n hx hb dX1_countBefore_72 rfl (lv_at hl 5 rfl) ?_
    refine z_get (C := RX1) (T := TX1) (N := 9) (ci := 1) (v := .int (nI (M 2 i))) F hK hP hi1 rfl (4 + 4 * i) 1 (by have := hi; omega) (cX_s hi) (by decide) rfl (by decide +kernel) dX1_countBefore_73 ?_
    refine lv_isub hx hb dX1_countBefore_76 ?_
    refine lv_iconst (v := nI 0) hx hb dX1_countBefore_77 (by decide) ?_
    refine z_mmax0 F hl.1 (by decide +kernel) (by decide +kernel) (by decide +kernel) (by decide +kernel) ⟨Nat.le_of_ble_eq_true rfl, Nat.le_of_ble_eq_true rfl⟩ ⟨Nat.le_of_ble_eq_true rfl, Nat.le_of_ble_eq_true rfl⟩ (by omega) (by omega) dX1_countBefore_78 ?_
    refine lv_iload hx hb dX1_countBefore_81 (lv_at hl 1 rfl) ?_
    refine z_mmin F hl.1 (by decide +kernel) (by decide +kernel) (by decide +kernel) (by decide +kernel) ⟨Nat.le_of_ble_eq_true rfl, Nat.le_of_ble_eq_true rfl⟩ ⟨Nat.le_of_ble_eq_true rfl, Nat.le_of_ble_eq_true rfl⟩ (by omega) (by omega) dX1_countBefore_83 ?_
    refine z_add F dX1_countBefore_86 ?_
    refine lv_istore (lv' := [(6, .int (nI ((((((e0 / 24) / 7) * (pc7 (M 1 i))) + (pc7 (M 1 i % 2 ^ (e0 / 24 % 7)))) * (((M 3 i) - (M 2 i)) + 1)) + (min (e0 % 24 - M 2 i) (((M 3 i) - (M 2 i)) + 1))))), (5, .int (nI (((M 3 i) - (M 2 i)) + 1))), (4, .int (nI ((((e0 / 24) / 7) * (pc7 (M 1 i))) + (pc7 (M 1 i % 2 ^ (e0 / 24 % 7)))))), (3, .int (nI (M 1 i % 2 ^ (e0 / 24 % 7)))), (2, .int (nI (e0 / 24))), (0, .ref (ad (4 + 4 * i))), (1, .int (nI e0))]) hx hb dX1_countBefore_87 hl (by decide) rfl (fun ls hl => ?_)
    refine lv_iload hx hb dX1_countBefore_89 (lv_at hl 0 rfl) ?_
    exact W.iret (v := nI ((((((e0 / 24) / 7) * (pc7 (M 1 i))) + (pc7 (M 1 i % 2 ^ (e0 / 24 % 7)))) * (((M 3 i) - (M 2 i)) + 1)) + (min (e0 % 24 - M 2 i) (((M 3 i) - (M 2 i)) + 1)))) hx hb hr (fun t ht hW => ⟨nI ((((((e0 / 24) / 7) * (pc7 (M 1 i))) + (pc7 (M 1 i % 2 ^ (e0 / 24 % 7)))) * (((M 3 i) - (M 2 i)) + 1)) + (min (e0 % 24 - M 2 i) (((M 3 i) - (M 2 i)) + 1))), rfl, (by rw [hN_closed hd1 hd2 hd3, if_pos c5]; unfold wk; rfl), ht⟩) (fun q h => by cases h) dX1_countBefore_91
set_option maxRecDepth 100000 in
set_option maxHeartbeats 4000000 in
/-- Site.countHours(a, b) -/
theorem c_X1_countHours (l : Launch) (D : va_G) (k : Nat → ClassId) (ad : Nat → Nat) (M : Nat → Nat → Nat) (O : Nat → Nat → Int32) (hI : zInv M) (i a b : Nat) (hi : i < 4) (hab : a ≤ b) (hb0 : b ≤ 24000) : Met l yX1_countHours wsX1_countHours ({ frames := 2, cells := 0, slots := 0, locals := 47 }) (va_Pc [.ref (ad (4 + 4 * i)), .int (nI a), .int (nI b)] (zR D k (20 + 2 * M 0 1) ad (cX k ad M O))) (vp_Si (fun r => r = nI (hN M i b - hN M i a))) 0 0 (fun _ => False) := by
  refine Met.ofW (cc := cX1_countHours) (maxL := 3) (ret := (some .int)) (by decide) rfl ?_
  intro p e s m args below meth c s₁ B hml hv
  obtain ⟨rfl, hP, hK⟩ := hv
  have hx := B.exec
  have hb := B.bytes
  have hr := B.returns
  have hts := atoms_spec (ws := wsX1_countHours) B.pre
  have hown : s.vm.findClass RX1 = some m.cls := findClass_of_methodNamed B.named
  have hlocks := B.notSynchronized
  have F : CallFix p m c cX1_countHours 3 s _ wsX1_countHours RX1 := ⟨hx, hb, hml, hown, hts⟩
  have hl := lv_entry ([.ref (ad (4 + 4 * i)), .int (nI a), .int (nI b)]) (n := 3) (Nat.le_of_ble_eq_true rfl)
  rw [lg_entry_eq]
  generalize (lg_sl ([.ref (ad (4 + 4 * i)), .int (nI a), .int (nI b)]) ++ List.replicate (3 - (lg_sl ([.ref (ad (4 + 4 * i)), .int (nI a), .int (nI b)])).length) Slot.unset).toArray = ls at hl ⊢
  have hl : lv_has ls 3 [(0, .ref (ad (4 + 4 * i))), (1, .int (nI a)), (2, .int (nI b))] := hl
  obtain ⟨hI1, hI2, hI3, hI4, hI5, hI6, hI7, hI8⟩ := id hI
  obtain ⟨hd1, hd2, hd3, hd4⟩ := hI3 i hi
  refine lv_aload_n hx hb dX1_countHours_0 rfl (lv_at hl 0 rfl) ?_
  refine lv_iload_n hx hb dX1_countHours_1 rfl (lv_at hl 2 rfl) ?_
  refine z_cV (qc := (RX1, TX1, 9)) (As := [.int (nI b)]) (rest := []) (4 + 4 * i) F (c_X1_countBefore l D k ad M O hI i (b) hi (by omega)) (cwV 1 hts gX1_countHours_X1_countBefore rfl rfl rfl (by decide +kernel) ⟨Nat.le_of_ble_eq_true rfl, Nat.le_of_ble_eq_true rfl⟩) hK hP (by have := hi; omega) (cX_s hi) rfl rfl hl.1 rfl (Nat.le_of_ble_eq_true rfl) dX1_countHours_2 ⟨Nat.le_of_ble_eq_true rfl, Nat.le_of_ble_eq_true rfl⟩ (fun r hr => ?_)
  subst hr
  refine lv_aload_n hx hb dX1_countHours_5 rfl (lv_at hl 0 rfl) ?_
  refine lv_iload_n hx hb dX1_countHours_6 rfl (lv_at hl 1 rfl) ?_
  refine z_cV (qc := (RX1, TX1, 9)) (As := [.int (nI a)]) (rest := [.int (nI (hN M i b))]) (4 + 4 * i) F (c_X1_countBefore l D k ad M O hI i (a) hi (by omega)) (cwV 1 hts gX1_countHours_X1_countBefore rfl rfl rfl (by decide +kernel) ⟨Nat.le_of_ble_eq_true rfl, Nat.le_of_ble_eq_true rfl⟩) hK hP (by have := hi; omega) (cX_s hi) rfl rfl hl.1 rfl (Nat.le_of_ble_eq_true rfl) dX1_countHours_7 ⟨Nat.le_of_ble_eq_true rfl, Nat.le_of_ble_eq_true rfl⟩ (fun r hr => ?_)
  subst hr
  refine z_sub F (by have := hN_mono M i a (b - a); rw [show a + (b - a) = b by omega] at this; exact this.1) dX1_countHours_10 ?_
  exact W.iret (v := nI ((hN M i b) - (hN M i a))) hx hb hr (fun t ht hW => ⟨nI ((hN M i b) - (hN M i a)), rfl, rfl, ht⟩) (fun q h => by cases h) dX1_countHours_11
theorem cov_bit : ∀ D, D < 16 → ∀ w, w < 4 → (nI D >>> (nI w &&& 31)) &&& nI 1 = nI ((D.testBit w).toNat) := by decide +kernel
set_option maxRecDepth 100000 in
set_option maxHeartbeats 4000000 in
theorem lp_covers {p : Program} {l : Launch} {e : Env} {s : State} {m : MethodId} {args : Array Value} {below : List Frame} {meth : Method} {c : Code} {H : Heap} {locs : List Loc} {cells slots : Nat} {Q : State → Prop} {D : va_G} {k : Nat → ClassId} {ad : Nat → Nat} {M : Nat → Nat → Nat} {O : Nat → Nat → Int32} (F : CallFix p m c cX1_covers 4 s args wsX1_covers RX1) (hK : va_K D vwCl (tyL k) s)
    (hI : zInv M) {i kd d : Nat} (hi : i < 4) (hkd : kd < 4) (hd : d ≤ 1000)
    (hP : va_P D vwCl (zw (20 + 2 * M 0 1) ad (cX k ad M O)) H)
    (k1 : cov M i kd d → ∀ (ls : Array Slot), W p l e (headSpec wsX1_covers ({ frames := 0, cells := 0, slots := 0, locals := 0 })).room s m args below meth c H locs cells slots Q (F0 m 43 ls []))
    (k0 : ¬ cov M i kd d → ∀ (ls : Array Slot), W p l e (headSpec wsX1_covers ({ frames := 0, cells := 0, slots := 0, locals := 0 })).room s m args below meth c H locs cells slots Q (F0 m 51 ls [])) :
    ∀ (fu j : Nat), j ≤ M 7 i → M 7 i < j + fu → (∀ x, x < j → ¬ (x < M 7 i ∧ (M 4 (8 * i + x)).testBit kd = true ∧ M 5 (8 * i + x) ≤ d ∧ d ≤ M 6 (8 * i + x))) → ∀ (ls : Array Slot), lv_has ls 4 [(3, .int (nI j)), (0, .ref (ad (4 + 4 * i))), (1, .int (nI kd)), (2, .int (nI d))] → W p l e (headSpec wsX1_covers ({ frames := 0, cells := 0, slots := 0, locals := 0 })).room s m args below meth c H locs cells slots Q (F0 m 2 ls []) := by
  have hx := F.1
  have hb := F.2.1
  have hts := F.2.2.2.2
  have hown := F.2.2.2.1
  have hi1 : ∀ w ∈ u_ws RX1 TX1 9, w ∈ wsX1_covers := by decide +kernel
  intro fu
  induction fu with
  | zero => intro j h1 h2; omega
  | succ fu ih =>
    intro j h1 h2 hno ls hl
    obtain ⟨hI1, hI2, hI3, hI4, hI5, hI6, hI7, hI8⟩ := id hI
    obtain ⟨hd1, hd2, hd3, hd4⟩ := hI3 i hi
    refine lv_iload_n hx hb dX1_covers_2 rfl (lv_at hl 0 rfl) ?_
    refine lv_aload_n hx hb dX1_covers_3 rfl (lv_at hl 1 rfl) ?_
    refine z_get (C := RX1) (T := TX1) (N := 9) (ci := 1) (v := .int (nI (M 7 i))) F hK hP hi1 rfl (4 + 4 * i) 6 (by have := hi; omega) (cX_s hi) (by decide) rfl (by decide +kernel) dX1_covers_4 ?_
    refine z_icmp_ge (tgt := 51) F (by omega) (by omega) dX1_covers_7 (by decide) (fun c6 => ?_) (fun c6 => ?_)
    · exact k0 (fun ⟨xx, zq1, zq2⟩ => hno xx (by omega) ⟨zq1, zq2⟩) ls
    · refine lv_aload_n hx hb dX1_covers_10 rfl (lv_at hl 1 rfl) ?_
      refine z_get (C := RX1) (T := TX1) (N := 9) (ci := 1) (v := .ref (ad (5 + 4 * i))) F hK hP hi1 rfl (4 + 4 * i) 3 (by have := hi; omega) (cX_s hi) (by decide) rfl (by decide +kernel) dX1_covers_11 ?_
      refine lv_iload_n hx hb dX1_covers_14 rfl (lv_at hl 0 rfl) ?_
      refine z_iald (v := nI (M 4 (8 * i + j))) F hK hP (5 + 4 * i) 0 (by have := hi; omega) (cX_a0 hi) rfl (i := nI j) j rfl (by omega) (by decide) (rw0_at (by omega)) dX1_covers_15 ?_
      refine lv_iload_n hx hb dX1_covers_16 rfl (lv_at hl 2 rfl) ?_
      refine lv_ishr hx hb dX1_covers_17 ?_
      refine lv_iconst (v := nI 1) hx hb dX1_covers_18 (by decide) ?_
      refine lv_iand hx hb dX1_covers_19 ?_
      obtain ⟨hj1, hj2, hj3⟩ := hI8 i j hi (by omega)
      refine z_top ((cov_bit _ hj1 kd hkd).trans bit_b) ?_
      refine z_ifb_eq (tgt := 45) F dX1_covers_20 (by decide) (fun c7 => ?_) (fun c7 => ?_)
      · refine lv_iinc (v := nI (j + 1)) (lv' := [(3, .int (nI (j + 1))), (0, .ref (ad (4 + 4 * i))), (1, .int (nI kd)), (2, .int (nI d))]) hx hb dX1_covers_45 hl (k := 0) rfl (nI_1 j) (by decide) rfl (fun ls hl => ?_)
        refine lv_goto (tgt := 2) hx hb dX1_covers_48 (by decide) ?_
        refine ih (j + 1) (by omega) (by omega) (fun xx zq1 zq => ?_) ls (lv_sub hl [0, 1, 2, 3] rfl)
        obtain ⟨zq2, zq3⟩ := zq
        rcases Nat.lt_or_ge xx j with zq4 | zq4
        · exact hno xx zq4 ⟨zq2, zq3⟩
        · obtain rfl : xx = j := by omega
          exact c7 zq3.1
      · refine lv_aload_n hx hb dX1_covers_23 rfl (lv_at hl 1 rfl) ?_
        refine z_get (C := RX1) (T := TX1) (N := 9) (ci := 1) (v := .ref (ad (6 + 4 * i))) F hK hP hi1 rfl (4 + 4 * i) 4 (by have := hi; omega) (cX_s hi) (by decide) rfl (by decide +kernel) dX1_covers_24 ?_
        refine lv_iload_n hx hb dX1_covers_27 rfl (lv_at hl 0 rfl) ?_
        refine z_iald (v := nI (M 5 (8 * i + j))) F hK hP (6 + 4 * i) 0 (by have := hi; omega) (cX_a1 hi) rfl (i := nI j) j rfl (by omega) (by decide) (rw0_at (by omega)) dX1_covers_28 ?_
        refine lv_iload_n hx hb dX1_covers_29 rfl (lv_at hl 3 rfl) ?_
        refine z_icmp_gt (tgt := 45) F (by omega) (by omega) dX1_covers_30 (by decide) (fun c8 => ?_) (fun c8 => ?_)
        · refine lv_iinc (v := nI (j + 1)) (lv' := [(3, .int (nI (j + 1))), (0, .ref (ad (4 + 4 * i))), (1, .int (nI kd)), (2, .int (nI d))]) hx hb dX1_covers_45 hl (k := 0) rfl (nI_1 j) (by decide) rfl (fun ls hl => ?_)
          refine lv_goto (tgt := 2) hx hb dX1_covers_48 (by decide) ?_
          refine ih (j + 1) (by omega) (by omega) (fun xx zq1 zq => ?_) ls (lv_sub hl [0, 1, 2, 3] rfl)
          obtain ⟨zq2, zq3⟩ := zq
          rcases Nat.lt_or_ge xx j with zq4 | zq4
          · exact hno xx zq4 ⟨zq2, zq3⟩
          · obtain rfl : xx = j := by omega
            exact absurd zq3.2.1 (by omega)
        · refine lv_iload_n hx hb dX1_covers_33 rfl (lv_at hl 3 rfl) ?_
          refine lv_aload_n hx hb dX1_covers_34 rfl (lv_at hl 1 rfl) ?_
          refine z_get (C := RX1) (T := TX1) (N := 9) (ci := 1) (v := .ref (ad (7 + 4 * i))) F hK hP hi1 rfl (4 + 4 * i) 5 (by have := hi; omega) (cX_s hi) (by decide) rfl (by decide +kernel) dX1_covers_35 ?_
          refine lv_iload_n hx hb dX1_covers_38 rfl (lv_at hl 0 rfl) ?_
          refine z_iald (v := nI (M 6 (8 * i + j))) F hK hP (7 + 4 * i) 0 (by have := hi; omega) (cX_a2 hi) rfl (i := nI j) j rfl (by omega) (by decide) (rw0_at (by omega)) dX1_covers_39 ?_
          refine z_icmp_gt (tgt := 45) F (by omega) (by omega) dX1_covers_40 (by decide) (fun c9 => ?_) (fun c9 => ?_)
          · refine lv_iinc (v := nI (j + 1)) (lv' := [(3, .int (nI (j + 1))), (0, .ref (ad (4 + 4 * i))), (1, .int (nI kd)), (2, .int (nI d))]) hx hb dX1_covers_45 hl (k := 0) rfl (nI_1 j) (by decide) rfl (fun ls hl => ?_)
            refine lv_goto (tgt := 2) hx hb dX1_covers_48 (by decide) ?_
            refine ih (j + 1) (by omega) (by omega) (fun xx zq1 zq => ?_) ls (lv_sub hl [0, 1, 2, 3] rfl)
            obtain ⟨zq2, zq3⟩ := zq
            rcases Nat.lt_or_ge xx j with zq4 | zq4
            · exact hno xx zq4 ⟨zq2, zq3⟩
            · obtain rfl : xx = j := by omega
              exact absurd zq3.2.2 (by omega)
          · exact k1 ⟨j, c6, c7, c8, c9⟩ ls
set_option maxRecDepth 100000 in
set_option maxHeartbeats 4000000 in
/-- Site.covers(kd, d) -/
theorem c_X1_covers (l : Launch) (D : va_G) (k : Nat → ClassId) (ad : Nat → Nat) (M : Nat → Nat → Nat) (O : Nat → Nat → Int32) (hI : zInv M) (i kd d : Nat) (hi : i < 4) (hkd : kd < 4) (hd : d ≤ 1000) : Met l yX1_covers wsX1_covers ({ frames := 0, cells := 0, slots := 0, locals := 0 }) (va_Pc [.ref (ad (4 + 4 * i)), .int (nI kd), .int (nI d)] (zR D k (20 + 2 * M 0 1) ad (cX k ad M O))) (vp_Si (fun r => r = bI (cov M i kd d))) 0 0 (fun _ => False) := by
  refine Met.ofW (cc := cX1_covers) (maxL := 4) (ret := (some .boolean)) (by decide) rfl ?_
  intro p e s m args below meth c s₁ B hml hv
  obtain ⟨rfl, hP, hK⟩ := hv
  have hx := B.exec
  have hb := B.bytes
  have hr := B.returns
  have hts := atoms_spec (ws := wsX1_covers) B.pre
  have hown : s.vm.findClass RX1 = some m.cls := findClass_of_methodNamed B.named
  have hlocks := B.notSynchronized
  have F : CallFix p m c cX1_covers 4 s _ wsX1_covers RX1 := ⟨hx, hb, hml, hown, hts⟩
  have hl := lv_entry ([.ref (ad (4 + 4 * i)), .int (nI kd), .int (nI d)]) (n := 4) (Nat.le_of_ble_eq_true rfl)
  rw [lg_entry_eq]
  generalize (lg_sl ([.ref (ad (4 + 4 * i)), .int (nI kd), .int (nI d)]) ++ List.replicate (4 - (lg_sl ([.ref (ad (4 + 4 * i)), .int (nI kd), .int (nI d)])).length) Slot.unset).toArray = ls at hl ⊢
  have hl : lv_has ls 4 [(0, .ref (ad (4 + 4 * i))), (1, .int (nI kd)), (2, .int (nI d))] := hl
  obtain ⟨hI1, hI2, hI3, hI4, hI5, hI6, hI7, hI8⟩ := id hI
  obtain ⟨hd1, hd2, hd3, hd4⟩ := hI3 i hi
  refine lv_iconst (v := nI 0) hx hb dX1_covers_0 (by decide) ?_
  refine lv_istore_n (lv' := [(3, .int (nI 0)), (0, .ref (ad (4 + 4 * i))), (1, .int (nI kd)), (2, .int (nI d))]) hx hb dX1_covers_1 rfl hl (by decide) rfl (fun ls hl => ?_)
  refine lp_covers F hK hI hi hkd hd hP (fun hc ls => ?_) (fun hc ls => ?_) (M 7 i + 1) 0 (Nat.zero_le _) (by omega) (fun xx zq => absurd zq (Nat.not_lt_zero xx)) ls (lv_sub hl [0, 1, 2, 3] rfl)
  · refine lv_iconst (v := nI 1) hx hb dX1_covers_43 (by decide) ?_
    exact W.zret (v := nI 1) hx hb hr rfl (fun t ht hW => ⟨nI 1, rfl, (bI_t hc).symm, ht⟩) (fun q h => by cases h) dX1_covers_44
  · refine lv_iconst (v := nI 0) hx hb dX1_covers_51 (by decide) ?_
    exact W.zret (v := nI 0) hx hb hr rfl (fun t ht hW => ⟨nI 0, rfl, (bI_f hc).symm, ht⟩) (fun q h => by cases h) dX1_covers_52
set_option maxRecDepth 100000 in
set_option maxHeartbeats 4000000 in
/-- Case.isRunning() -/
theorem c_X0_isRunning (l : Launch) (D : va_G) (k : Nat → ClassId) (ad : Nat → Nat) (M : Nat → Nat → Nat) (O : Nat → Nat → Int32) (hI : zInv M) (a : Nat) (ha : a < M 0 1) : Met l yX0_isRunning wsX0_isRunning ({ frames := 0, cells := 0, slots := 0, locals := 0 }) (va_Pc [.ref (ad (20 + 2 * a))] (zR D k (20 + 2 * M 0 1) ad (cX k ad M O))) (vp_Si (fun r => r = bI (M 12 a = 0 ∧ M 14 a = 0))) 0 0 (fun _ => False) := by
  refine Met.ofW (cc := cX0_isRunning) (maxL := 1) (ret := (some .boolean)) (by decide) rfl ?_
  intro p e s m args below meth c s₁ B hml hv
  obtain ⟨rfl, hP, hK⟩ := hv
  have hx := B.exec
  have hb := B.bytes
  have hr := B.returns
  have hts := atoms_spec (ws := wsX0_isRunning) B.pre
  have hown : s.vm.findClass RX0 = some m.cls := findClass_of_methodNamed B.named
  have hlocks := B.notSynchronized
  have F : CallFix p m c cX0_isRunning 1 s _ wsX0_isRunning RX0 := ⟨hx, hb, hml, hown, hts⟩
  have hl := lv_entry ([.ref (ad (20 + 2 * a))]) (n := 1) (Nat.le_of_ble_eq_true rfl)
  rw [lg_entry_eq]
  generalize (lg_sl ([.ref (ad (20 + 2 * a))]) ++ List.replicate (1 - (lg_sl ([.ref (ad (20 + 2 * a))])).length) Slot.unset).toArray = ls at hl ⊢
  have hl : lv_has ls 1 [(0, .ref (ad (20 + 2 * a)))] := hl
  have hi0 : ∀ w ∈ u_ws RX0 TX0 8, w ∈ wsX0_isRunning := by decide +kernel
  obtain ⟨hI1, hI2, hI3, hI4, hI5, hI6, hI7, hI8⟩ := id hI
  obtain ⟨hc1, hc2, hc3, hc4, hc5, hc6, hc7⟩ := hI5 a ha
  refine lv_aload_n hx hb dX0_isRunning_0 rfl (lv_at hl 0 rfl) ?_
  refine z_get (C := RX0) (T := TX0) (N := 8) (ci := 0) (v := .int (nI (M 12 a))) F hK hP hi0 rfl (20 + 2 * a) 3 (by have := ha; omega) cX_c (by decide) rfl (by decide +kernel) dX0_isRunning_1 ?_
  refine z_ifn_ne (tgt := 18) F (by omega) dX0_isRunning_4 (by decide) (fun c10 => ?_) (fun c10 => ?_)
  · refine lv_iconst (v := nI 0) hx hb dX0_isRunning_18 (by decide) ?_
    exact W.zret (v := nI 0) hx hb hr rfl (fun t ht hW => ⟨nI 0, rfl, (bI_f (fun z => c10 z.1)).symm, ht⟩) (fun q h => by cases h) dX0_isRunning_19
  · refine lv_aload_n hx hb dX0_isRunning_7 rfl (lv_at hl 0 rfl) ?_
    refine z_get (C := RX0) (T := TX0) (N := 8) (ci := 0) (v := .int (nI (M 14 a))) F hK hP hi0 rfl (20 + 2 * a) 4 (by have := ha; omega) cX_c (by decide) rfl (by decide +kernel) dX0_isRunning_8 ?_
    refine z_ifn_ne (tgt := 18) F (by omega) dX0_isRunning_11 (by decide) (fun c11 => ?_) (fun c11 => ?_)
    · refine lv_iconst (v := nI 0) hx hb dX0_isRunning_18 (by decide) ?_
      exact W.zret (v := nI 0) hx hb hr rfl (fun t ht hW => ⟨nI 0, rfl, (bI_f (fun z => c11 z.2)).symm, ht⟩) (fun q h => by cases h) dX0_isRunning_19
    · refine lv_iconst (v := nI 1) hx hb dX0_isRunning_14 (by decide) ?_
      refine lv_goto (tgt := 19) hx hb dX0_isRunning_15 (by decide) ?_
      exact W.zret (v := nI 1) hx hb hr rfl (fun t ht hW => ⟨nI 1, rfl, (bI_t ⟨c10, c11⟩).symm, ht⟩) (fun q h => by cases h) dX0_isRunning_19
set_option maxRecDepth 100000 in
set_option maxHeartbeats 4000000 in
/-- Case.hasReached(st) -/
theorem c_X0_hasReached (l : Launch) (D : va_G) (k : Nat → ClassId) (ad : Nat → Nat) (M : Nat → Nat → Nat) (O : Nat → Nat → Int32) (hI : zInv M) (a st : Nat) (ha : a < M 0 1) (hs : st < 2 ^ 31) : Met l yX0_hasReached wsX0_hasReached ({ frames := 0, cells := 0, slots := 0, locals := 0 }) (va_Pc [.ref (ad (20 + 2 * a)), .int (nI st)] (zR D k (20 + 2 * M 0 1) ad (cX k ad M O))) (vp_Si (fun r => r = bI (st < M 16 a))) 0 0 (fun _ => False) := by
  refine Met.ofW (cc := cX0_hasReached) (maxL := 2) (ret := (some .boolean)) (by decide) rfl ?_
  intro p e s m args below meth c s₁ B hml hv
  obtain ⟨rfl, hP, hK⟩ := hv
  have hx := B.exec
  have hb := B.bytes
  have hr := B.returns
  have hts := atoms_spec (ws := wsX0_hasReached) B.pre
  have hown : s.vm.findClass RX0 = some m.cls := findClass_of_methodNamed B.named
  have hlocks := B.notSynchronized
  have F : CallFix p m c cX0_hasReached 2 s _ wsX0_hasReached RX0 := ⟨hx, hb, hml, hown, hts⟩
  have hl := lv_entry ([.ref (ad (20 + 2 * a)), .int (nI st)]) (n := 2) (Nat.le_of_ble_eq_true rfl)
  rw [lg_entry_eq]
  generalize (lg_sl ([.ref (ad (20 + 2 * a)), .int (nI st)]) ++ List.replicate (2 - (lg_sl ([.ref (ad (20 + 2 * a)), .int (nI st)])).length) Slot.unset).toArray = ls at hl ⊢
  have hl : lv_has ls 2 [(0, .ref (ad (20 + 2 * a))), (1, .int (nI st))] := hl
  have hi0 : ∀ w ∈ u_ws RX0 TX0 8, w ∈ wsX0_hasReached := by decide +kernel
  obtain ⟨hI1, hI2, hI3, hI4, hI5, hI6, hI7, hI8⟩ := id hI
  obtain ⟨hc1, hc2, hc3, hc4, hc5, hc6, hc7⟩ := hI5 a ha
  refine lv_iload_n hx hb dX0_hasReached_0 rfl (lv_at hl 1 rfl) ?_
  refine lv_aload_n hx hb dX0_hasReached_1 rfl (lv_at hl 0 rfl) ?_
  refine z_get (C := RX0) (T := TX0) (N := 8) (ci := 0) (v := .int (nI (M 16 a))) F hK hP hi0 rfl (20 + 2 * a) 6 (by have := ha; omega) cX_c (by decide) rfl (by decide +kernel) dX0_hasReached_2 ?_
  refine z_icmp_ge (tgt := 12) F (by omega) (by omega) dX0_hasReached_5 (by decide) (fun c12 => ?_) (fun c12 => ?_)
  · refine lv_iconst (v := nI 0) hx hb dX0_hasReached_12 (by decide) ?_
    exact W.zret (v := nI 0) hx hb hr rfl (fun t ht hW => ⟨nI 0, rfl, (bI_f (Nat.not_lt.mpr c12)).symm, ht⟩) (fun q h => by cases h) dX0_hasReached_13
  · refine lv_iconst (v := nI 1) hx hb dX0_hasReached_8 (by decide) ?_
    refine lv_goto (tgt := 13) hx hb dX0_hasReached_9 (by decide) ?_
    exact W.zret (v := nI 1) hx hb hr rfl (fun t ht hW => ⟨nI 1, rfl, (bI_t c12).symm, ht⟩) (fun q h => by cases h) dX0_hasReached_13
theorem hdR_eq {ad : Nat → Nat} {M : Nat → Nat → Nat} {x h : Nat} (hj : ∀ i j, i < 20 + 2 * M 0 1 → j < 20 + 2 * M 0 1 → ad i = ad j → i = j) (hx : x ≤ M 0 1) (hh : h < M 0 1) : hdR ad x = some (ad (20 + 2 * h)) ↔ x = h + 1 := by
  unfold hdR
  by_cases h0 : x = 0
  · rw [if_pos h0]
    exact ⟨fun z => (by cases z), fun z => absurd z (by omega)⟩
  · rw [if_neg h0]
    constructor
    · intro z
      have := hj _ _ (by omega) (by omega) (Option.some.inj z)
      omega
    · rintro rfl
      rfl
set_option maxRecDepth 100000 in
set_option maxHeartbeats 4000000 in
/-- Case.isJoinedTo(other) -/
theorem c_X0_isJoinedTo (l : Launch) (D : va_G) (k : Nat → ClassId) (ad : Nat → Nat) (M : Nat → Nat → Nat) (O : Nat → Nat → Int32) (hI : zInv M) (hj : ∀ i j, i < 20 + 2 * M 0 1 → j < 20 + 2 * M 0 1 → ad i = ad j → i = j) (a h : Nat) (ha : a < M 0 1) (hh : h < M 0 1) : Met l yX0_isJoinedTo wsX0_isJoinedTo ({ frames := 0, cells := 0, slots := 0, locals := 0 }) (va_Pc [.ref (ad (20 + 2 * a)), .ref (ad (20 + 2 * h))] (zR D k (20 + 2 * M 0 1) ad (cX k ad M O))) (vp_Si (fun r => r = bI (M 12 a = 1 ∧ M 13 a = h + 1))) 0 0 (fun _ => False) := by
  refine Met.ofW (cc := cX0_isJoinedTo) (maxL := 2) (ret := (some .boolean)) (by decide) rfl ?_
  intro p e s m args below meth c s₁ B hml hv
  obtain ⟨rfl, hP, hK⟩ := hv
  have hx := B.exec
  have hb := B.bytes
  have hr := B.returns
  have hts := atoms_spec (ws := wsX0_isJoinedTo) B.pre
  have hown : s.vm.findClass RX0 = some m.cls := findClass_of_methodNamed B.named
  have hlocks := B.notSynchronized
  have F : CallFix p m c cX0_isJoinedTo 2 s _ wsX0_isJoinedTo RX0 := ⟨hx, hb, hml, hown, hts⟩
  have hl := lv_entry ([.ref (ad (20 + 2 * a)), .ref (ad (20 + 2 * h))]) (n := 2) (Nat.le_of_ble_eq_true rfl)
  rw [lg_entry_eq]
  generalize (lg_sl ([.ref (ad (20 + 2 * a)), .ref (ad (20 + 2 * h))]) ++ List.replicate (2 - (lg_sl ([.ref (ad (20 + 2 * a)), .ref (ad (20 + 2 * h))])).length) Slot.unset).toArray = ls at hl ⊢
  have hl : lv_has ls 2 [(0, .ref (ad (20 + 2 * a))), (1, .ref (ad (20 + 2 * h)))] := hl
  have hi0 : ∀ w ∈ u_ws RX0 TX0 8, w ∈ wsX0_isJoinedTo := by decide +kernel
  obtain ⟨hI1, hI2, hI3, hI4, hI5, hI6, hI7, hI8⟩ := id hI
  obtain ⟨hc1, hc2, hc3, hc4, hc5, hc6, hc7⟩ := hI5 a ha
  have hb5 := hc5
  refine lv_aload_n hx hb dX0_isJoinedTo_0 rfl (lv_at hl 0 rfl) ?_
  refine z_get (C := RX0) (T := TX0) (N := 8) (ci := 0) (v := .int (nI (M 12 a))) F hK hP hi0 rfl (20 + 2 * a) 3 (by have := ha; omega) cX_c (by decide) rfl (by decide +kernel) dX0_isJoinedTo_1 ?_
  refine lv_iconst (v := nI 1) hx hb dX0_isJoinedTo_4 (by decide) ?_
  refine z_icmp_ne (tgt := 20) F (by omega) (by omega) dX0_isJoinedTo_5 (by decide) (fun c13 => ?_) (fun c13 => ?_)
  · refine lv_iconst (v := nI 0) hx hb dX0_isJoinedTo_20 (by decide) ?_
    exact W.zret (v := nI 0) hx hb hr rfl (fun t ht hW => ⟨nI 0, rfl, (bI_f (fun z => c13 z.1)).symm, ht⟩) (fun q h => by cases h) dX0_isJoinedTo_21
  · refine lv_aload_n hx hb dX0_isJoinedTo_8 rfl (lv_at hl 0 rfl) ?_
    refine z_get (C := RX0) (T := TX0) (N := 8) (ci := 0) (v := va_rf (hdR ad (M 13 a))) F hK hP hi0 rfl (20 + 2 * a) 5 (by have := ha; omega) cX_c (by decide) rfl (by decide +kernel) dX0_isJoinedTo_9 ?_
    refine lv_aload_n hx hb dX0_isJoinedTo_12 rfl (lv_at hl 1 rfl) ?_
    refine lv_acmp_ne (rx := hdR ad (M 13 a)) (ry := some (ad (20 + 2 * h))) (tgt := 20) hx hb dX0_isJoinedTo_13 (by decide) (fun c14 => ?_) (fun c14 => ?_)
    · refine lv_iconst (v := nI 0) hx hb dX0_isJoinedTo_20 (by decide) ?_
      exact W.zret (v := nI 0) hx hb hr rfl (fun t ht hW => ⟨nI 0, rfl, (bI_f (fun z => c14 ((hdR_eq hj hb5 (by omega)).mpr z.2))).symm, ht⟩) (fun q h => by cases h) dX0_isJoinedTo_21
    · refine lv_iconst (v := nI 1) hx hb dX0_isJoinedTo_16 (by decide) ?_
      refine lv_goto (tgt := 21) hx hb dX0_isJoinedTo_17 (by decide) ?_
      exact W.zret (v := nI 1) hx hb hr rfl (fun t ht hW => ⟨nI 1, rfl, (bI_t ⟨c13, (hdR_eq hj hb5 (by omega)).mp c14⟩).symm, ht⟩) (fun q h => by cases h) dX0_isJoinedTo_21
end
section
theorem zz_look : True := trivial
end
