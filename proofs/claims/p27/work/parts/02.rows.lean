/-! WORLDS AS FUNCTIONS OF THE PLACE, and rows over them: zw n ad f is the world of n cells, the place q at the address ad q, holding f q. -/
theorem z_ofI (x : Nat) : Int32.ofNat x = nI x := rfl
def zw (n : Nat) (ad : Nat → Nat) (f : Nat → va_E) : va_W := (List.range n).map fun k => (ad k, f k)
theorem zw_at {n : Nat} {ad : Nat → Nat} {f : Nat → va_E} {k : Nat} (h : k < n) : (zw n ad f)[k]? = some (ad k, f k) := by
  simp [zw, h]
theorem zw_none {n : Nat} {ad : Nat → Nat} {f : Nat → va_E} {k : Nat} (h : ¬ k < n) : (zw n ad f)[k]? = none :=
  List.getElem?_eq_none (by simp [zw]; omega)
theorem zw_some {n : Nat} {ad : Nat → Nat} {f : Nat → va_E} {k : Nat} {q : Nat × va_E} (h : (zw n ad f)[k]? = some q) : k < n ∧ q = (ad k, f k) := by
  by_cases hk : k < n
  · rw [zw_at hk] at h; exact ⟨hk, (Option.some.inj h).symm⟩
  · rw [zw_none hk] at h; cases h
theorem zw_set {n : Nat} {ad : Nat → Nat} {f : Nat → va_E} (k : Nat) (e : va_E) : (zw n ad f).set k (ad k, e) = zw n ad (va_up f k e) := by
  apply List.ext_getElem?
  intro i
  rw [List.getElem?_set]
  by_cases hi : i < n
  · rw [zw_at hi]
    by_cases hk : k = i
    · subst hk
      simp [zw, hi, va_up]
    · simp [hk, zw_at hi, va_up, Ne.symm hk]
  · rw [zw_none hi]
    by_cases hk : k = i
    · subst hk
      simp [zw, hi]
    · simp [hk, zw_none hi]
theorem zw_push {n : Nat} {ad : Nat → Nat} {f : Nat → va_E} (a : Nat) (e : va_E) : zw n ad f ++ [(a, e)] = zw (n + 1) (va_up ad n a) (va_up f n e) := by
  simp only [zw, List.range_succ, List.map_append, List.map_cons, List.map_nil, va_up_self]
  congr 1
  apply List.map_congr_left
  intro k hk
  have := List.mem_range.mp hk
  rw [va_up_ne _ _ (Nat.ne_of_lt this), va_up_ne _ _ (Nat.ne_of_lt this)]
theorem zw_congr {n : Nat} {ad : Nat → Nat} {f g : Nat → va_E} (h : ∀ k, k < n → f k = g k) : zw n ad f = zw n ad g := List.map_congr_left (fun k hk => by rw [h k (List.mem_range.mp hk)])
theorem zw_adcongr {n : Nat} {ad ae : Nat → Nat} {f g : Nat → va_E} (ha : ∀ k, k < n → ad k = ae k) (h : ∀ k, k < n → f k = g k) : zw n ad f = zw n ae g := List.map_congr_left (fun k hk => by rw [h k (List.mem_range.mp hk), ha k (List.mem_range.mp hk)])
/-- the array classes, by their places: int, int again, Site, Case -/
abbrev tyL (k : Nat → ClassId) : List (ClassId × FieldType) := [(k 0, .int), (k 1, .int), (k 2, .object RX1), (k 3, .object RX0)]
/-- no cell at all -/
def noA : Nat → Prop := fun _ => False
theorem z_keptP {D : va_G} {cl : List vw_C} {ws : va_W} {H H1 : Heap} (h : va_P D cl ws H) (hk : ∀ q : Nat, q < H.size → ¬ noA q → H1[q]? = H[q]?) : va_P D cl ws H1 := h.kept (fun k q hq => hk q.1 (h k q hq).lt (fun z => z))
section ZR
variable {p : Program} {l : Launch} {e : Env} {R : Room} {s : State} {m : MethodId} {args : Array Value} {below : List Frame} {meth : Method} {c : Code} {H : Heap} {locs : List Loc} {cells slots : Nat} {Q : State → Prop}
variable {cc : ByteArray} {nL : Nat} {Ts : List Cond} {own : String} {pc : Nat} {ls : Array Slot} {rest : List Value} {D : va_G} {cl : List vw_C} {A : Nat → Prop} {tys : List (ClassId × FieldType)} {H0 : Heap} {n : Nat} {ad : Nat → Nat} {f : Nat → va_E}
theorem z_top {x y : Int32} (h : x = y) (k : W p l e R s m args below meth c H locs cells slots Q (F0 m pc ls (.int y :: rest))) : W p l e R s m args below meth c H locs cells slots Q (F0 m pc ls (.int x :: rest)) := h ▸ k
theorem z_rf {x : Nat} (k : W p l e R s m args below meth c H locs cells slots Q (F0 m pc ls (.ref x :: rest))) : W p l e R s m args below meth c H locs cells slots Q (F0 m pc ls (va_rf (some x) :: rest)) := k
theorem z_rn (k : W p l e R s m args below meth c H locs cells slots Q (F0 m pc ls (.null :: rest))) : W p l e R s m args below meth c H locs cells slots Q (F0 m pc ls (va_rf none :: rest)) := k
theorem z_get (F : CallFix p m c cc nL s args Ts own) (hK : va_K D cl tys s) (hP : va_P D cl (zw n ad f) H) {C : String} {T : u_T} {N ci index : Nat} (hin : ∀ w ∈ u_ws C T N, w ∈ Ts) (hc : cl[ci]? = some (C, T, N)) (q0 k : Nat) {fs : List Value} {v : Value} (hq : q0 < n) (he : f q0 = .inr (ci, fs)) (hk : k < N) (hv : fs[k]? = some v) (hlk : Cond.fieldLink own index (T k).1 (T k).2.1 (T k).2.2.1 ∈ Ts) (hdg : decode cc pc = .ok (.getfield index, 3))
    (kk : W p l e R s m args below meth c H locs cells slots Q (F0 m (pc + 3) ls (v :: rest))) : W p l e R s m args below meth c H locs cells slots Q (F0 m pc ls (.ref (ad q0) :: rest)) :=
  va_get F.1 F.2.1 F.2.2.2.2 hin F.2.2.2.1 hK hP q0 ((zw_at hq).trans (by rw [he])) hc k hk (F.2.2.2.2 _ hlk) (fun _ h => h) hv hdg kk
theorem z_put (F : CallFix p m c cc nL s args Ts own) (hK : va_K D cl tys s) (hP : va_P D cl (zw n ad f) H) (hD : va_D A (zw n ad f)) (hS : va_S A H0 H locs) {C : String} {T : u_T} {N ci index : Nat} (hin : ∀ w ∈ u_ws C T N, w ∈ Ts) (hc : cl[ci]? = some (C, T, N)) (ty0 : Nat → FieldType) (hty : ∀ k, k < N → parseFieldDescriptor (T k).2.2.1 = some (ty0 k)) (hnm : ∀ a, a < N → ∀ b, b < N → a ≠ b → (T a).2.1 ≠ (T b).2.1) (q0 k : Nat) {fs : List Value} {v : Value} {f' : Nat → va_E} (hq : q0 < n) (he : f q0 = .inr (ci, fs)) (hk : k < N) (hl : k < fs.length) (hlk : Cond.fieldLink own index (T k).1 (T k).2.1 (T k).2.2.1 ∈ Ts) (hfin : (T k).2.2.2 = false) {ty : FieldType} (hd : ty0 k = ty) (hn : narrow ty v = v) (hfit : fits ty v = true) (hf : va_up f q0 (.inr (ci, fs.set k v)) = f') (hdg : decode cc pc = .ok (.putfield index, 3))
    (kk : ∀ (H1 : Heap) (locs1 : List Loc), va_P D cl (zw n ad f') H1 → va_D A (zw n ad f') → va_S A H0 H1 locs1 → W p l e R s m args below meth c H1 locs1 cells slots Q (F0 m (pc + 3) ls rest)) : W p l e R s m args below meth c H locs cells slots Q (F0 m pc ls (v :: .ref (ad q0) :: rest)) := by
  subst hd
  refine va_put F.1 F.2.1 F.2.2.2.2 hin ty0 hty hnm F.2.2.2.1 hK hP hD hS q0 ((zw_at hq).trans (by rw [he])) hc k hk (F.2.2.2.2 _ hlk) (fun _ h => h) hfin (hty k hk) hn hfit hl hdg fun H1 locs1 h1 h2 h3 => ?_
  rw [zw_set, hf] at h1 h2
  exact kk H1 locs1 h1 h2 h3
theorem z_putF (F : CallFix p m c cc nL s args Ts own) (hK : va_K D cl tys s) (hP : va_P D cl (zw n ad f) H) (hD : va_D A (zw n ad f)) (hS : va_S A H0 H locs) {C : String} {T : u_T} {N ci index : Nat} (hin : ∀ w ∈ u_ws C T N, w ∈ Ts) (hc : cl[ci]? = some (C, T, N)) (ty0 : Nat → FieldType) (hty : ∀ k, k < N → parseFieldDescriptor (T k).2.2.1 = some (ty0 k)) (hnm : ∀ a, a < N → ∀ b, b < N → a ≠ b → (T a).2.1 ≠ (T b).2.1) (hin2 : meth.name = "<init>") (q0 k : Nat) {fs : List Value} {v : Value} {f' : Nat → va_E} (hq : q0 < n) (he : f q0 = .inr (ci, fs)) (hk : k < N) (hl : k < fs.length) (hlk : Cond.fieldLink own index (T k).1 (T k).2.1 (T k).2.2.1 ∈ Ts) (hfin : (T k).2.2.2 = true) (hdecl : (T k).1 = own) {ty : FieldType} (hd : ty0 k = ty) (hn : narrow ty v = v) (hfit : fits ty v = true) (hf : va_up f q0 (.inr (ci, fs.set k v)) = f') (hdg : decode cc pc = .ok (.putfield index, 3))
    (kk : ∀ (H1 : Heap) (locs1 : List Loc), va_P D cl (zw n ad f') H1 → va_D A (zw n ad f') → va_S A H0 H1 locs1 → W p l e R s m args below meth c H1 locs1 cells slots Q (F0 m (pc + 3) ls rest)) : W p l e R s m args below meth c H locs cells slots Q (F0 m pc ls (v :: .ref (ad q0) :: rest)) := by
  subst hd
  refine va_putF F.1 F.2.1 F.2.2.2.2 hin ty0 hty hnm F.2.2.2.1 hK hP hD hS q0 ((zw_at hq).trans (by rw [he])) hc k hk (F.2.2.2.2 _ hlk) (fun _ h => h) hfin hin2 hdecl (hty k hk) hn hfit hl hdg fun H1 locs1 h1 h2 h3 => ?_
  rw [zw_set, hf] at h1 h2
  exact kk H1 locs1 h1 h2 h3
theorem z_iald (F : CallFix p m c cc nL s args Ts own) (hK : va_K D cl tys s) (hP : va_P D cl (zw n ad f) H) (q0 t0 : Nat) {cA : ClassId} {len : Nat} {g : Nat → Int32} (hq : q0 < n) (he : f q0 = .inl (cA, len, .inl g)) (ht : tys[t0]? = some (cA, .int)) {i : Int32} (j : Nat) (hi : i = nI j) (hj : j < len) (hlen : len < 2 ^ 31) {v : Int32} (hv : g j = v) (hdg : decode cc pc = .ok (.iaload, 1))
    (kk : W p l e R s m args below meth c H locs cells slots Q (F0 m (pc + 1) ls (.int v :: rest))) : W p l e R s m args below meth c H locs cells slots Q (F0 m pc ls (.int i :: .ref (ad q0) :: rest)) := by
  subst hi
  refine va_iald F.1 F.2.1 hK hP q0 t0 ((zw_at hq).trans (by rw [he])) ht (vp_in_nI hj hlen) hdg ?_
  rw [nI_clamp (by omega), hv]
  exact kk
theorem z_zald (F : CallFix p m c cc nL s args Ts own) (hK : va_K D cl tys s) (hP : va_P D cl (zw n ad f) H) (q0 t0 : Nat) {cA : ClassId} {len : Nat} {g : Nat → Int32} (hq : q0 < n) (he : f q0 = .inl (cA, len, .inl g)) (ht : tys[t0]? = some (cA, .boolean)) {i : Int32} (j : Nat) (hi : i = nI j) (hj : j < len) (hlen : len < 2 ^ 31) {v : Int32} (hv : g j = v) (hdg : decode cc pc = .ok (.baload, 1))
    (kk : W p l e R s m args below meth c H locs cells slots Q (F0 m (pc + 1) ls (.int v :: rest))) : W p l e R s m args below meth c H locs cells slots Q (F0 m pc ls (.int i :: .ref (ad q0) :: rest)) := by
  subst hi
  refine va_zald F.1 F.2.1 hK hP q0 t0 ((zw_at hq).trans (by rw [he])) ht (vp_in_nI hj hlen) hdg ?_
  rw [nI_clamp (by omega), hv]
  exact kk
theorem z_lald (F : CallFix p m c cc nL s args Ts own) (hK : va_K D cl tys s) (hP : va_P D cl (zw n ad f) H) (q0 t0 : Nat) {cA : ClassId} {len : Nat} {g : Nat → Int64} (hq : q0 < n) (he : f q0 = .inl (cA, len, .inr (.inl g))) (ht : tys[t0]? = some (cA, .long)) {i : Int32} (j : Nat) (hi : i = nI j) (hj : j < len) (hlen : len < 2 ^ 31) {v : Int64} (hv : g j = v) (hdg : decode cc pc = .ok (.laload, 1))
    (kk : W p l e R s m args below meth c H locs cells slots Q (F0 m (pc + 1) ls (.long v :: rest))) : W p l e R s m args below meth c H locs cells slots Q (F0 m pc ls (.int i :: .ref (ad q0) :: rest)) := by
  subst hi
  refine va_lald F.1 F.2.1 hK hP q0 t0 ((zw_at hq).trans (by rw [he])) ht (vp_in_nI hj hlen) hdg ?_
  rw [nI_clamp (by omega), hv]
  exact kk
theorem z_aldq (F : CallFix p m c cc nL s args Ts own) (hK : va_K D cl tys s) (hP : va_P D cl (zw n ad f) H) (q0 t0 : Nat) {cA : ClassId} {C : String} {len : Nat} {g : Nat → Option Nat} (hq : q0 < n) (he : f q0 = .inl (cA, len, .inr (.inr (.inr (.inr g))))) (ht : tys[t0]? = some (cA, .object C)) {i : Int32} (j : Nat) (hi : i = nI j) (hj : j < len) (hlen : len < 2 ^ 31) {v : Option Nat} (hv : g j = v) (hdg : decode cc pc = .ok (.aaload, 1))
    (kk : W p l e R s m args below meth c H locs cells slots Q (F0 m (pc + 1) ls (va_rf v :: rest))) : W p l e R s m args below meth c H locs cells slots Q (F0 m pc ls (.int i :: .ref (ad q0) :: rest)) := by
  subst hi
  refine va_aldq F.1 F.2.1 hK hP q0 t0 ((zw_at hq).trans (by rw [he])) ht (vp_in_nI hj hlen) hdg ?_
  rw [nI_clamp (by omega), hv]
  exact kk
theorem z_iast (F : CallFix p m c cc nL s args Ts own) (hK : va_K D cl tys s) (hP : va_P D cl (zw n ad f) H) (hD : va_D A (zw n ad f)) (hS : va_S A H0 H locs) (q0 t0 : Nat) {cA : ClassId} {len : Nat} {g : Nat → Int32} {f' : Nat → va_E} (hq : q0 < n) (he : f q0 = .inl (cA, len, .inl g)) (ht : tys[t0]? = some (cA, .int)) {i x : Int32} (j : Nat) (hi : i = nI j) (hj : j < len) (hlen : len < 2 ^ 31) (hf : va_up f q0 (.inl (cA, len, .inl (upd g j x))) = f') (hdg : decode cc pc = .ok (.iastore, 1))
    (kk : ∀ (H1 : Heap) (locs1 : List Loc), va_P D cl (zw n ad f') H1 → va_D A (zw n ad f') → va_S A H0 H1 locs1 → W p l e R s m args below meth c H1 locs1 cells slots Q (F0 m (pc + 1) ls rest)) : W p l e R s m args below meth c H locs cells slots Q (F0 m pc ls (.int x :: .int i :: .ref (ad q0) :: rest)) := by
  subst hi
  refine va_iast F.1 F.2.1 hK hP hD hS q0 t0 ((zw_at hq).trans (by rw [he])) ht (vp_in_nI hj hlen) hdg fun H1 locs1 h1 h2 h3 => ?_
  rw [nI_clamp (by omega), zw_set] at h1 h2
  first
    | (rw [hf] at h1 h2; exact kk H1 locs1 h1 h2 h3)
    | (rw [show vp_nar .int x = x from rfl, hf] at h1 h2; exact kk H1 locs1 h1 h2 h3)
theorem z_zast (F : CallFix p m c cc nL s args Ts own) (hK : va_K D cl tys s) (hP : va_P D cl (zw n ad f) H) (hD : va_D A (zw n ad f)) (hS : va_S A H0 H locs) (q0 t0 : Nat) {cA : ClassId} {len : Nat} {g : Nat → Int32} {f' : Nat → va_E} (hq : q0 < n) (he : f q0 = .inl (cA, len, .inl g)) (ht : tys[t0]? = some (cA, .boolean)) {i x : Int32} (j : Nat) (hi : i = nI j) (hj : j < len) (hlen : len < 2 ^ 31) (hx : vp_nar .boolean x = x) (hf : va_up f q0 (.inl (cA, len, .inl (upd g j x))) = f') (hdg : decode cc pc = .ok (.bastore, 1))
    (kk : ∀ (H1 : Heap) (locs1 : List Loc), va_P D cl (zw n ad f') H1 → va_D A (zw n ad f') → va_S A H0 H1 locs1 → W p l e R s m args below meth c H1 locs1 cells slots Q (F0 m (pc + 1) ls rest)) : W p l e R s m args below meth c H locs cells slots Q (F0 m pc ls (.int x :: .int i :: .ref (ad q0) :: rest)) := by
  subst hi
  refine va_zast F.1 F.2.1 hK hP hD hS q0 t0 ((zw_at hq).trans (by rw [he])) ht (vp_in_nI hj hlen) hdg fun H1 locs1 h1 h2 h3 => ?_
  rw [nI_clamp (by omega), zw_set, hx, hf] at h1 h2
  exact kk H1 locs1 h1 h2 h3
theorem z_last (F : CallFix p m c cc nL s args Ts own) (hK : va_K D cl tys s) (hP : va_P D cl (zw n ad f) H) (hD : va_D A (zw n ad f)) (hS : va_S A H0 H locs) (q0 t0 : Nat) {cA : ClassId} {len : Nat} {g : Nat → Int64} {f' : Nat → va_E} (hq : q0 < n) (he : f q0 = .inl (cA, len, .inr (.inl g))) (ht : tys[t0]? = some (cA, .long)) {i : Int32} {x : Int64} (j : Nat) (hi : i = nI j) (hj : j < len) (hlen : len < 2 ^ 31) (hf : va_up f q0 (.inl (cA, len, .inr (.inl (vp_updL g j x)))) = f') (hdg : decode cc pc = .ok (.lastore, 1))
    (kk : ∀ (H1 : Heap) (locs1 : List Loc), va_P D cl (zw n ad f') H1 → va_D A (zw n ad f') → va_S A H0 H1 locs1 → W p l e R s m args below meth c H1 locs1 cells slots Q (F0 m (pc + 1) ls rest)) : W p l e R s m args below meth c H locs cells slots Q (F0 m pc ls (.long x :: .int i :: .ref (ad q0) :: rest)) := by
  subst hi
  refine va_last F.1 F.2.1 hK hP hD hS q0 t0 ((zw_at hq).trans (by rw [he])) ht (vp_in_nI hj hlen) hdg fun H1 locs1 h1 h2 h3 => ?_
  rw [nI_clamp (by omega), zw_set, hf] at h1 h2
  exact kk H1 locs1 h1 h2 h3
theorem z_astq (F : CallFix p m c cc nL s args Ts own) (hK : va_K D cl tys s) (hP : va_P D cl (zw n ad f) H) (hD : va_D A (zw n ad f)) (hS : va_S A H0 H locs) (q0 t0 qk ci : Nat) {cA : ClassId} {r : vw_C} {len : Nat} {vs : List Value} {g : Nat → Option Nat} {f' : Nat → va_E} (hq : q0 < n) (he : f q0 = .inl (cA, len, .inr (.inr (.inr (.inr g))))) (ht : tys[t0]? = some (cA, .object r.1)) (hqk : qk < n) (hev : f qk = .inr (ci, vs)) (hc : cl[ci]? = some r) {i : Int32} (j : Nat) (hi : i = nI j) (hj : j < len) (hlen : len < 2 ^ 31) (hf : va_up f q0 (.inl (cA, len, .inr (.inr (.inr (.inr (va_up g j (some (ad qk)))))))) = f') (hdg : decode cc pc = .ok (.aastore, 1))
    (kk : ∀ (H1 : Heap) (locs1 : List Loc), va_P D cl (zw n ad f') H1 → va_D A (zw n ad f') → va_S A H0 H1 locs1 → W p l e R s m args below meth c H1 locs1 cells slots Q (F0 m (pc + 1) ls rest)) : W p l e R s m args below meth c H locs cells slots Q (F0 m pc ls (.ref (ad qk) :: .int i :: .ref (ad q0) :: rest)) := by
  subst hi
  refine va_astq F.1 F.2.1 hK hP hD hS q0 t0 qk ci ((zw_at hq).trans (by rw [he])) ht ((zw_at hqk).trans (by rw [hev])) hc (vp_in_nI hj hlen) hdg fun H1 locs1 h1 h2 h3 => ?_
  rw [nI_clamp (by omega), zw_set, hf] at h1 h2
  exact kk H1 locs1 h1 h2 h3
theorem z_alen (F : CallFix p m c cc nL s args Ts own) (hK : va_K D cl tys s) (hP : va_P D cl (zw n ad f) H) (q0 t0 : Nat) {cA : ClassId} {x : vp_A} (hq : q0 < n) (he : f q0 = .inl (cA, x)) {ty : FieldType} (ht : tys[t0]? = some (cA, ty)) (len : Nat) (hv : x.1 = len) (hdg : decode cc pc = .ok (.arraylength, 1))
    (kk : W p l e R s m args below meth c H locs cells slots Q (F0 m (pc + 1) ls (.int (nI len) :: rest))) : W p l e R s m args below meth c H locs cells slots Q (F0 m pc ls (.ref (ad q0) :: rest)) :=
  va_alen F.1 F.2.1 hK hP q0 t0 ((zw_at hq).trans (by rw [he])) ht (v := nI len) (by rw [hv]; rfl) hdg kk
/-! arithmetic over naturals -/
theorem z_add (F : CallFix p m c cc nL s args Ts own) {a b : Nat} (hdg : decode cc pc = .ok (.iadd, 1)) (k : W p l e R s m args below meth c H locs cells slots Q (F0 m (pc + 1) ls (.int (nI (a + b)) :: rest))) : W p l e R s m args below meth c H locs cells slots Q (F0 m pc ls (.int (nI b) :: .int (nI a) :: rest)) :=
  lv_iadd F.1 F.2.1 hdg (z_top (nI_add a b) k)
theorem z_sub (F : CallFix p m c cc nL s args Ts own) {a b : Nat} (h : b ≤ a) (hdg : decode cc pc = .ok (.isub, 1)) (k : W p l e R s m args below meth c H locs cells slots Q (F0 m (pc + 1) ls (.int (nI (a - b)) :: rest))) : W p l e R s m args below meth c H locs cells slots Q (F0 m pc ls (.int (nI b) :: .int (nI a) :: rest)) :=
  lv_isub F.1 F.2.1 hdg (z_top (pk_sub h) k)
theorem z_mul (F : CallFix p m c cc nL s args Ts own) {a b : Nat} (hdg : decode cc pc = .ok (.imul, 1)) (k : W p l e R s m args below meth c H locs cells slots Q (F0 m (pc + 1) ls (.int (nI (a * b)) :: rest))) : W p l e R s m args below meth c H locs cells slots Q (F0 m pc ls (.int (nI b) :: .int (nI a) :: rest)) :=
  lv_imul F.1 F.2.1 hdg (z_top (pk_mul a b) k)
theorem z_div (F : CallFix p m c cc nL s args Ts own) {a b : Nat} (ha : a < 2 ^ 31) (h0 : 0 < b) (hb : b < 2 ^ 31) (hdg : decode cc pc = .ok (.idiv, 1)) (k : W p l e R s m args below meth c H locs cells slots Q (F0 m (pc + 1) ls (.int (nI (a / b)) :: rest))) : W p l e R s m args below meth c H locs cells slots Q (F0 m pc ls (.int (nI b) :: .int (nI a) :: rest)) :=
  lv_idiv F.1 F.2.1 hdg (nI_ne0 h0 hb) (z_top (pk_div ha h0 hb) k)
theorem z_rem (F : CallFix p m c cc nL s args Ts own) {a b : Nat} (ha : a < 2 ^ 31) (h0 : 0 < b) (hb : b < 2 ^ 31) (hdg : decode cc pc = .ok (.irem, 1)) (k : W p l e R s m args below meth c H locs cells slots Q (F0 m (pc + 1) ls (.int (nI (a % b)) :: rest))) : W p l e R s m args below meth c H locs cells slots Q (F0 m pc ls (.int (nI b) :: .int (nI a) :: rest)) :=
  lv_irem F.1 F.2.1 hdg (nI_ne0 h0 hb) (z_top (pk_rem ha h0 hb) k)
/-! branches over naturals and truths -/
theorem z_icmp_eq {a b : Nat} {off : Int} {tgt : Nat} (F : CallFix p m c cc nL s args Ts own) (ha : a < 2 ^ 31) (hb : b < 2 ^ 31) (hdg : decode cc pc = .ok (.if_icmp .eq off, 3)) (ht : (pc : Int) + off = (tgt : Int))
    (kt : a = b → W p l e R s m args below meth c H locs cells slots Q (F0 m tgt ls rest)) (kf : a ≠ b → W p l e R s m args below meth c H locs cells slots Q (F0 m (pc + 3) ls rest)) : W p l e R s m args below meth c H locs cells slots Q (F0 m pc ls (.int (nI b) :: .int (nI a) :: rest)) :=
  lv_icmp_eq F.1 F.2.1 hdg ht (fun q => kt ((nI_eq ha hb).mp q)) (fun q => kf (fun z => q ((nI_eq ha hb).mpr z)))
theorem z_icmp_ne {a b : Nat} {off : Int} {tgt : Nat} (F : CallFix p m c cc nL s args Ts own) (ha : a < 2 ^ 31) (hb : b < 2 ^ 31) (hdg : decode cc pc = .ok (.if_icmp .ne off, 3)) (ht : (pc : Int) + off = (tgt : Int))
    (kt : a ≠ b → W p l e R s m args below meth c H locs cells slots Q (F0 m tgt ls rest)) (kf : a = b → W p l e R s m args below meth c H locs cells slots Q (F0 m (pc + 3) ls rest)) : W p l e R s m args below meth c H locs cells slots Q (F0 m pc ls (.int (nI b) :: .int (nI a) :: rest)) :=
  lv_icmp_ne F.1 F.2.1 hdg ht (fun q => kt (fun z => q ((nI_eq ha hb).mpr z))) (fun q => kf ((nI_eq ha hb).mp (by first | exact q | exact Decidable.not_not.mp q)))
theorem z_icmp_lt {a b : Nat} {off : Int} {tgt : Nat} (F : CallFix p m c cc nL s args Ts own) (ha : a < 2 ^ 31) (hb : b < 2 ^ 31) (hdg : decode cc pc = .ok (.if_icmp .lt off, 3)) (ht : (pc : Int) + off = (tgt : Int))
    (kt : a < b → W p l e R s m args below meth c H locs cells slots Q (F0 m tgt ls rest)) (kf : b ≤ a → W p l e R s m args below meth c H locs cells slots Q (F0 m (pc + 3) ls rest)) : W p l e R s m args below meth c H locs cells slots Q (F0 m pc ls (.int (nI b) :: .int (nI a) :: rest)) :=
  lv_icmp_lt F.1 F.2.1 hdg ht (fun q => kt ((nI_ltI ha hb).mp q)) (fun q => kf (Nat.not_lt.mp (fun z => q ((nI_ltI ha hb).mpr z))))
theorem z_icmp_ge {a b : Nat} {off : Int} {tgt : Nat} (F : CallFix p m c cc nL s args Ts own) (ha : a < 2 ^ 31) (hb : b < 2 ^ 31) (hdg : decode cc pc = .ok (.if_icmp .ge off, 3)) (ht : (pc : Int) + off = (tgt : Int))
    (kt : b ≤ a → W p l e R s m args below meth c H locs cells slots Q (F0 m tgt ls rest)) (kf : a < b → W p l e R s m args below meth c H locs cells slots Q (F0 m (pc + 3) ls rest)) : W p l e R s m args below meth c H locs cells slots Q (F0 m pc ls (.int (nI b) :: .int (nI a) :: rest)) :=
  lv_icmp_ge F.1 F.2.1 hdg ht (fun q => kt ((nI_leI hb ha).mp q)) (fun q => kf (Nat.not_le.mp (fun z => q ((nI_leI hb ha).mpr z))))
theorem z_icmp_gt {a b : Nat} {off : Int} {tgt : Nat} (F : CallFix p m c cc nL s args Ts own) (ha : a < 2 ^ 31) (hb : b < 2 ^ 31) (hdg : decode cc pc = .ok (.if_icmp .gt off, 3)) (ht : (pc : Int) + off = (tgt : Int))
    (kt : b < a → W p l e R s m args below meth c H locs cells slots Q (F0 m tgt ls rest)) (kf : a ≤ b → W p l e R s m args below meth c H locs cells slots Q (F0 m (pc + 3) ls rest)) : W p l e R s m args below meth c H locs cells slots Q (F0 m pc ls (.int (nI b) :: .int (nI a) :: rest)) :=
  lv_icmp_gt F.1 F.2.1 hdg ht (fun q => kt ((nI_ltI hb ha).mp q)) (fun q => kf (Nat.not_lt.mp (fun z => q ((nI_ltI hb ha).mpr z))))
theorem z_icmp_le {a b : Nat} {off : Int} {tgt : Nat} (F : CallFix p m c cc nL s args Ts own) (ha : a < 2 ^ 31) (hb : b < 2 ^ 31) (hdg : decode cc pc = .ok (.if_icmp .le off, 3)) (ht : (pc : Int) + off = (tgt : Int))
    (kt : a ≤ b → W p l e R s m args below meth c H locs cells slots Q (F0 m tgt ls rest)) (kf : b < a → W p l e R s m args below meth c H locs cells slots Q (F0 m (pc + 3) ls rest)) : W p l e R s m args below meth c H locs cells slots Q (F0 m pc ls (.int (nI b) :: .int (nI a) :: rest)) :=
  lv_icmp_le F.1 F.2.1 hdg ht (fun q => kt ((nI_leI ha hb).mp q)) (fun q => kf (Nat.not_le.mp (fun z => q ((nI_leI ha hb).mpr z))))
theorem z_n0 {a : Nat} (ha : a < 2 ^ 31) : nI a = 0 ↔ a = 0 := by
  rw [← nI_0, nI_eq ha (by decide)]
theorem z_ifn_eq {a : Nat} {off : Int} {tgt : Nat} (F : CallFix p m c cc nL s args Ts own) (ha : a < 2 ^ 31) (hdg : decode cc pc = .ok (.ifCond .eq off, 3)) (ht : (pc : Int) + off = (tgt : Int)) (kt : a = 0 → W p l e R s m args below meth c H locs cells slots Q (F0 m tgt ls rest)) (kf : a ≠ 0 → W p l e R s m args below meth c H locs cells slots Q (F0 m (pc + 3) ls rest)) : W p l e R s m args below meth c H locs cells slots Q (F0 m pc ls (.int (nI a) :: rest)) :=
  lv_if_eq F.1 F.2.1 hdg ht (fun q => kt ((z_n0 ha).mp q)) (fun q => kf (fun z => q ((z_n0 ha).mpr z)))
theorem z_ifn_ne {a : Nat} {off : Int} {tgt : Nat} (F : CallFix p m c cc nL s args Ts own) (ha : a < 2 ^ 31) (hdg : decode cc pc = .ok (.ifCond .ne off, 3)) (ht : (pc : Int) + off = (tgt : Int)) (kt : a ≠ 0 → W p l e R s m args below meth c H locs cells slots Q (F0 m tgt ls rest)) (kf : a = 0 → W p l e R s m args below meth c H locs cells slots Q (F0 m (pc + 3) ls rest)) : W p l e R s m args below meth c H locs cells slots Q (F0 m pc ls (.int (nI a) :: rest)) :=
  lv_if_ne F.1 F.2.1 hdg ht (fun q => kt (fun z => q ((z_n0 ha).mpr z))) (fun q => kf ((z_n0 ha).mp (by first | exact q | exact Decidable.not_not.mp q)))
theorem z_ifn_eqT {off : Int} {tgt : Nat} (F : CallFix p m c cc nL s args Ts own) (hdg : decode cc pc = .ok (.ifCond .eq off, 3)) (ht : (pc : Int) + off = (tgt : Int)) (k : W p l e R s m args below meth c H locs cells slots Q (F0 m tgt ls rest)) : W p l e R s m args below meth c H locs cells slots Q (F0 m pc ls (.int (nI 0) :: rest)) :=
  lv_if_eq F.1 F.2.1 hdg ht (fun _ => k) (fun q => absurd nI_0 q)
theorem z_ifn_eqF {x : Int32} {off : Int} (F : CallFix p m c cc nL s args Ts own) (h : ¬ x = 0) (hdg : decode cc pc = .ok (.ifCond .eq off, 3)) {tgt : Nat} (ht : (pc : Int) + off = (tgt : Int)) (k : W p l e R s m args below meth c H locs cells slots Q (F0 m (pc + 3) ls rest)) : W p l e R s m args below meth c H locs cells slots Q (F0 m pc ls (.int x :: rest)) :=
  lv_if_eq F.1 F.2.1 hdg ht (fun q => absurd q h) (fun _ => k)
theorem z_ifn_neT {x : Int32} {off : Int} {tgt : Nat} (F : CallFix p m c cc nL s args Ts own) (h : ¬ x = 0) (hdg : decode cc pc = .ok (.ifCond .ne off, 3)) (ht : (pc : Int) + off = (tgt : Int)) (k : W p l e R s m args below meth c H locs cells slots Q (F0 m tgt ls rest)) : W p l e R s m args below meth c H locs cells slots Q (F0 m pc ls (.int x :: rest)) :=
  lv_if_ne F.1 F.2.1 hdg ht (fun _ => k) (fun q => absurd q (by first | exact h | exact fun z => z h))
theorem z_ifn_neF {off : Int} {tgt : Nat} (F : CallFix p m c cc nL s args Ts own) (hdg : decode cc pc = .ok (.ifCond .ne off, 3)) (ht : (pc : Int) + off = (tgt : Int)) (k : W p l e R s m args below meth c H locs cells slots Q (F0 m (pc + 3) ls rest)) : W p l e R s m args below meth c H locs cells slots Q (F0 m pc ls (.int (nI 0) :: rest)) :=
  lv_if_ne F.1 F.2.1 hdg ht (fun q => absurd nI_0 q) (fun _ => k)
end ZR
