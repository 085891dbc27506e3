/-! MAKING objects and arrays: the next cell lies at the heap's end, so the addresses to come are known beforehand. -/
theorem up_id (ad : Nat → Nat) (n : Nat) : va_up ad n (ad n) = ad := by
  funext zq
  by_cases h : zq = n
  · subst h; rw [va_up_self]
  · rw [va_up_ne _ _ h]
theorem up_up {α : Type} (f : Nat → α) (n : Nat) (a b : α) : va_up (va_up f n a) n b = va_up f n b := by
  funext zq
  by_cases h : zq = n
  · subst h; rw [va_up_self, va_up_self]
  · rw [va_up_ne _ _ h, va_up_ne _ _ h, va_up_ne _ _ h]
theorem up_sw {α : Type} (f : Nat → α) {n k : Nat} (a b : α) (h : k ≠ n) : va_up (va_up f n a) k b = va_up (va_up f k b) n a := by
  funext zq
  by_cases h1 : zq = n
  · subst h1; rw [va_up_ne _ _ (Ne.symm h), va_up_self, va_up_self]
  · by_cases h2 : zq = k
    · subst h2; rw [va_up_self, va_up_ne _ _ h1, va_up_self]
    · rw [va_up_ne _ _ h2, va_up_ne _ _ h1, va_up_ne _ _ h1, va_up_ne _ _ h2]
theorem zw_pushA {n : Nat} {ad : Nat → Nat} {f : Nat → va_E} (e : va_E) : zw n ad f ++ [(ad n, e)] = zw (n + 1) ad (va_up f n e) := by rw [zw_push, up_id]
theorem arrV_cg {cA : ClassId} {n : Nat} {f g : Nat → Value} (h : ∀ j, j < n → f j = g j) : arrV cA n f = arrV cA n g := by
  unfold arrV
  congr 1
  apply Array.ext
  · simp
  · intro i h1 h2
    simp at h1 ⊢
    exact h i h1
/-- the tables give the array class back -/
theorem z_cls {s : State} {D : va_G} {cl : List vw_C} {tys : List (ClassId × FieldType)} (hK : va_K D cl tys s) {t0 : Nat} {cB cA : ClassId} {ty : FieldType} (ht : tys[t0]? = some (cB, ty)) (h : s.vm.findClass ("[" ++ ty.toString) = some cA) : cA = cB := by
  have h1 := (hK.2 t0 _ ht).2
  have h2 : s.vm.findClass ("[" ++ ty.toString) = some cB := by
    cases ty with
    | object C =>
      obtain ⟨_, _, _, _, _, h3⟩ := h1
      exact h3
    | _ => exact h1
  exact Option.some.inj (h.symm.trans h2)
/-- no answer, a new world of a known size -/
abbrev zQn (D : va_G) (k : Nat → ClassId) (n : Nat) (ad : Nat → Nat) (f : Nat → va_E) (sz : Nat) (A : Nat → Prop) : Array Value → State → Outcome → State → Prop := va_Qv (S := Unit) (fun _ => True) (fun _ t => t.heap.size = sz ∧ zR D k n ad f t ∧ va_D A (zw n ad f)) A
section ZM
variable {p : Program} {l : Launch} {e : Env} {R : Room} {s : State} {m : MethodId} {args : Array Value} {below : List Frame} {meth : Method} {c : Code} {H : Heap} {locs : List Loc} {cells slots : Nat} {Q : State → Prop}
variable {cc bytes : ByteArray} {nL maxL index na mc ms : Nat} {Ts ws : List Cond} {own C host : String} {y : MethodName} {rm : Room} {pc : Nat} {ls : Array Slot} {As rest st0 : List Value} {D : va_G} {k : Nat → ClassId} {cl : List vw_C} {A : Nat → Prop} {H0 : Heap} {n n' : Nat} {ad : Nat → Nat} {f f' : Nat → va_E}
theorem z_made (hP : va_P D cl (zw n ad f) H) (hD : va_D A (zw n ad f)) (hS : va_S A H0 H locs) (hA : ∀ q, H0.size ≤ q → A q) (hq : ad n = H.size) {H1 : Heap} {v : va_E} (z1 : H1.size = H.size + 1) (o1 : ∀ q : Nat, q < H.size → H1[q]? = H[q]?) (he : va_P D cl [(ad n, v)] H1) :
    va_P D cl (zw (n + 1) ad (va_up f n v)) H1 ∧ va_D A (zw (n + 1) ad (va_up f n v)) ∧ va_S A H0 H1 locs := by
  have hk : ∀ (k : Nat) (x : Nat × va_E), (zw n ad f)[k]? = some x → H1[x.1]? = H[x.1]? := fun k x hx => o1 x.1 ((hP k x hx).lt)
  rw [← zw_pushA]
  exact ⟨(hP.kept hk).app he, hD.push hP hq (hA _ (by rw [hq]; exact hS.1)), Nat.le_trans hS.1 (by omega), fun x h1 h2 => (o1 x (Nat.lt_of_lt_of_le h1 hS.1)).trans (hS.2.1 x h1 h2), hS.2.2⟩
theorem z_one {H1 : Heap} {a : Nat} {cA : ClassId} {v : vp_A} (h : H1[a]? = some (vp_cell cA v)) : va_P D cl [(a, .inl (cA, v))] H1 := by
  intro j x hx
  have hz : j < 1 := (List.getElem?_eq_some_iff.mp hx).1
  rw [show j = 0 by omega] at hx
  cases hx
  exact h
/-- new, of a class -/
theorem z_new (F : CallFix p m c cc nL s args Ts own) {T : u_T} {N ci : Nat} (hin : ∀ w ∈ u_ws C T N, w ∈ Ts) (ty : Nat → FieldType) (hty : ∀ k, k < N → parseFieldDescriptor (T k).2.2.1 = some (ty k)) (hcl : Cond.classLink own index C ∈ Ts) (hinst : Cond.instantiable C N ∈ Ts) (hini : Cond.initialized C ∈ Ts)
    (hK : va_K D cl (tyL k) s) (hP : va_P D cl (zw n ad f) H) (hD : va_D A (zw n ad f)) (hS : va_S A H0 H locs) (hA : ∀ q, H0.size ≤ q → A q) (hc : cl[ci]? = some (C, T, N)) {fs : List Value} (hfs : ∀ j, j < N → defaultValue (ty j) = vp_V fs j) (hq : ad n = H.size) (hcells : cells + 1 ≤ R.cells) (hslots : slots + N ≤ R.slots) (hdg : decode cc pc = .ok (.new index, 3))
    (kk : ∀ H1 : Heap, H1.size = H.size + 1 → va_P D cl (zw (n + 1) ad (va_up f n (.inr (ci, fs)))) H1 → va_D A (zw (n + 1) ad (va_up f n (.inr (ci, fs)))) → va_S A H0 H1 locs →
      W p l e R s m args below meth c H1 locs (cells + 1) (slots + N) Q (F0 m (pc + 3) ls (.ref (ad n) :: rest))) : W p l e R s m args below meth c H locs cells slots Q (F0 m pc ls rest) := by
  have hKn := hK.1 ci _ hc
  refine W.newcK F.1 F.2.1 F.2.2.2.1 (F.2.2.2.2 _ hcl) (F.2.2.2.2 _ hinst) (F.2.2.2.2 _ hini) rfl hdg hcells hslots hKn.2.1 rfl fun H1 kC hkC e1 z1 o1 => ?_
  obtain ⟨h1, h2, h3⟩ := z_made (v := .inr (ci, fs)) hP hD hS hA hq z1 o1 (by
    intro j x hx
    have hz : j < 1 := (List.getElem?_eq_some_iff.mp hx).1
    rw [show j = 0 by omega] at hx
    cases hx
    rw [hq]
    exact ⟨_, hc, (u_born ty F.2.2.2.2 hin hKn hkC e1 hty).to hfs⟩)
  have h4 := kk H1 z1 h1 h2 h3
  rw [hq] at h4
  exact h4
/-- newarray -/
theorem z_newa (F : CallFix p m c cc nL s args Ts own) {atype : ArrayType} {ty : FieldType} (hty : newarray.typeOf atype = ty) (harr : Cond.arrayClass ty ∈ Ts) (hK : va_K D cl (tyL k) s) (hP : va_P D cl (zw n ad f) H) (hD : va_D A (zw n ad f)) (hS : va_S A H0 H locs) (hA : ∀ q, H0.size ≤ q → A q)
    (t0 : Nat) {cB : ClassId} (ht : (tyL k)[t0]? = some (cB, ty)) {N : Nat} {a0 : vp_A} (ha : ∀ cA : ClassId, vp_cell cA a0 = arrV cA N (fun _ => defaultValue ty)) (hN : N < 2 ^ 31) (hbytes : N * componentBytes ty ≤ 536870912) (hq : ad n = H.size) (hcells : cells + 1 ≤ R.cells) (hslots : slots + N ≤ R.slots) (hdg : decode cc pc = .ok (.newarray atype, 2))
    (kk : ∀ H1 : Heap, H1.size = H.size + 1 → va_P D cl (zw (n + 1) ad (va_up f n (.inl (cB, a0)))) H1 → va_D A (zw (n + 1) ad (va_up f n (.inl (cB, a0)))) → va_S A H0 H1 locs →
      W p l e R s m args below meth c H1 locs (cells + 1) (slots + N) Q (F0 m (pc + 2) ls (.ref (ad n) :: rest))) : W p l e R s m args below meth c H locs cells slots Q (F0 m pc ls (.int (nI N) :: rest)) := by
  subst hty
  refine va_newaK F.1 F.2.1 (F.2.2.2.2 _ harr) rfl hdg rfl (nI_pos (by omega)) (nI_clamp hN) hbytes hcells hslots rfl fun H1 cA e1 z1 o1 hAr hNm => ?_
  obtain rfl := z_cls hK ht hNm
  obtain ⟨h1, h2, h3⟩ := z_made (v := .inl (cA, a0)) hP hD hS hA hq z1 o1 (z_one (by rw [hq, ha]; exact e1))
  have h4 := kk H1 z1 h1 h2 h3
  rw [hq] at h4
  exact h4
/-- anewarray -/
theorem z_newq (F : CallFix p m c cc nL s args Ts own) (hcl : Cond.classLink own index C ∈ Ts) (hover : va_AO C s) (hK : va_K D cl (tyL k) s) (hP : va_P D cl (zw n ad f) H) (hD : va_D A (zw n ad f)) (hS : va_S A H0 H locs) (hA : ∀ q, H0.size ≤ q → A q)
    (t0 : Nat) {cB : ClassId} (ht : (tyL k)[t0]? = some (cB, .object C)) {N : Nat} (hN : N < 2 ^ 31) (hbytes : N * 4 ≤ 536870912) (hq : ad n = H.size) (hcells : cells + 1 ≤ R.cells) (hslots : slots + N ≤ R.slots) (hdg : decode cc pc = .ok (.anewarray index, 3))
    (kk : ∀ H1 : Heap, H1.size = H.size + 1 → va_P D cl (zw (n + 1) ad (va_up f n (.inl (cB, N, .inr (.inr (.inr (.inr (fun _ => none)))))))) H1 → va_D A (zw (n + 1) ad (va_up f n (.inl (cB, N, .inr (.inr (.inr (.inr (fun _ => none)))))))) → va_S A H0 H1 locs →
      W p l e R s m args below meth c H1 locs (cells + 1) (slots + N) Q (F0 m (pc + 3) ls (.ref (ad n) :: rest))) : W p l e R s m args below meth c H locs cells slots Q (F0 m pc ls (.int (nI N) :: rest)) := by
  have hcl2 := nI_clamp hN
  refine W.anew F.1 F.2.1 F.2.2.2.1 (F.2.2.2.2 _ hcl) (va_AO.use hover) rfl hdg rfl (nI_pos (by omega)) (by rw [hcl2]; exact hbytes) hcells (by rw [hcl2]; exact hslots) fun cA kA comp f1 f2 f3 f4 => ?_
  rw [hcl2]
  obtain rfl := z_cls hK ht f1
  generalize hH1 : H.push ({ cls := cA, slots := Array.replicate N .null, vm := .none } : Cell) = H1
  have z1 : H1.size = H.size + 1 := by rw [← hH1, Array.size_push]
  have e1 : H1[H.size]? = some (arrV cA N (fun _ => .null)) := by rw [← hH1, Array.getElem?_push_size, ← arrV_new]
  have o1 : ∀ q : Nat, q < H.size → H1[q]? = H[q]? := fun q hq => by rw [← hH1, Array.getElem?_push, if_neg (Nat.ne_of_lt hq)]
  obtain ⟨h1, h2, h3⟩ := z_made (v := .inl (cA, N, .inr (.inr (.inr (.inr (fun _ => none)))))) hP hD hS hA hq z1 o1 (z_one (by rw [hq, vp_cell_q]; exact e1))
  have h4 := kk H1 z1 h1 h2 h3
  rw [hq] at h4
  exact h4
/-- a constructor -/
theorem z_mI {sz' : Nat} (q0 : Nat) (F : CallFix p m c cc nL s args Ts own) (hM : Met l y ws rm (va_Pc (.ref (ad q0) :: As) (zG D k n ad f H.size)) (zQn D k n' ad f' sz' (va_A (zw n ad f) H.size)) mc ms (va_A (zw n ad f) H.size)) (cw : CallB R s args own index y bytes maxL none ws rm mc ms na ∧ y.name = "<init>" ∧ (Cond.instanceMethod y).before args s = true)
    (hK : va_K D vwCl (tyL k) s) (hP : va_P D vwCl (zw n ad f) H) (hD : va_D A (zw n ad f)) (hS : va_S A H0 H locs) (hA : ∀ q, H0.size ≤ q → A q) (hn : As.length = na) (hsize : ls.size = nL) (hst : st0 = As.reverse ++ .ref (ad q0) :: rest) (hW : (rest.map fun v => v.category).sum ≤ 8) (hdg : decode cc pc = .ok (.invokespecial index, 3)) (hf : cells + mc ≤ R.cells ∧ slots + ms ≤ R.slots)
    (kk : ∀ (H1 : Heap) (locs1 : List Loc), H1.size = sz' → va_P D vwCl (zw n' ad f') H1 → va_D A (zw n' ad f') → va_S A H0 H1 locs1 → W p l e R s m args below meth c H1 locs1 (cells + mc) (slots + ms) Q (F0 m (pc + 3) ls rest)) : W p l e R s m args below meth c H locs cells slots Q (F0 m pc ls st0) := by
  subst hst
  have hF := z_afree (H := H) (q0 := 0) (H1 := H) hD hA hS.1
  refine va_callv (va_runI (g := F0 m pc ls (As.reverse ++ .ref (ad q0) :: rest)) F hM cw ⟨fun a U g mk h => ⟨h.1, h.2.1, z_frameR h.2.2.1, h.2.2.2⟩, fun U hU hW1 => ⟨rfl, by rw [hU], ⟨by rw [hU]; exact hP, va_K.moved hW1.alike hK⟩, hD.weaken (fun _ _ _ _ => trivial)⟩⟩ rfl hn hsize rfl (lv_room hW) hdg hf) hS (fun q _ h => hF q h) hF (fun u t H1 locs1 ht hvm hp hB hz hk hS1 => ?_)
  obtain ⟨hz1, ⟨hP1, hK1⟩, hD1⟩ := hB
  rw [ht] at hP1 hz1
  exact kk H1 locs1 hz1 hP1 (hD1.weaken (fun _ q _ h => hF q.1 h)) hS1
/-- .. of a nest mate, private -/
theorem z_mIN {sz' : Nat} (q0 : Nat) (F : CallFix p m c cc nL s args Ts own) (hM : Met l y ws rm (va_Pc (.ref (ad q0) :: As) (zG D k n ad f H.size)) (zQn D k n' ad f' sz' (va_A (zw n ad f) H.size)) mc ms (va_A (zw n ad f) H.size)) (cw : va_CN R s args own index y host bytes maxL none ws rm mc ms na ∧ y.name = "<init>" ∧ (Cond.instanceMethod y).before args s = true)
    (hK : va_K D vwCl (tyL k) s) (hP : va_P D vwCl (zw n ad f) H) (hD : va_D A (zw n ad f)) (hS : va_S A H0 H locs) (hA : ∀ q, H0.size ≤ q → A q) (hn : As.length = na) (hsize : ls.size = nL) (hst : st0 = As.reverse ++ .ref (ad q0) :: rest) (hW : (rest.map fun v => v.category).sum ≤ 8) (hdg : decode cc pc = .ok (.invokespecial index, 3)) (hf : cells + mc ≤ R.cells ∧ slots + ms ≤ R.slots)
    (kk : ∀ (H1 : Heap) (locs1 : List Loc), H1.size = sz' → va_P D vwCl (zw n' ad f') H1 → va_D A (zw n' ad f') → va_S A H0 H1 locs1 → W p l e R s m args below meth c H1 locs1 (cells + mc) (slots + ms) Q (F0 m (pc + 3) ls rest)) : W p l e R s m args below meth c H locs cells slots Q (F0 m pc ls st0) := by
  subst hst
  have hF := z_afree (H := H) (q0 := 0) (H1 := H) hD hA hS.1
  refine va_callv (va_runIN (g := F0 m pc ls (As.reverse ++ .ref (ad q0) :: rest)) F hM cw ⟨fun a U g mk h => ⟨h.1, h.2.1, z_frameR h.2.2.1, h.2.2.2⟩, fun U hU hW1 => ⟨rfl, by rw [hU], ⟨by rw [hU]; exact hP, va_K.moved hW1.alike hK⟩, hD.weaken (fun _ _ _ _ => trivial)⟩⟩ rfl hn hsize rfl (lv_room hW) hdg hf) hS (fun q _ h => hF q h) hF (fun u t H1 locs1 ht hvm hp hB hz hk hS1 => ?_)
  obtain ⟨hz1, ⟨hP1, hK1⟩, hD1⟩ := hB
  rw [ht] at hP1 hz1
  exact kk H1 locs1 hz1 hP1 (hD1.weaken (fun _ q _ h => hF q.1 h)) hS1
/-! the writing rows once more, with the heap's size -/
theorem z_putS (F : CallFix p m c cc nL s args Ts own) (hK : va_K D cl (tyL k) s) (hP : va_P D cl (zw n ad f) H) (hD : va_D A (zw n ad f)) (hS0 : va_S A H0 H locs) {T : u_T} {N ci : Nat} (hin : ∀ w ∈ u_ws C T N, w ∈ Ts) (hc : cl[ci]? = some (C, T, N)) (ty0 : Nat → FieldType) (hty : ∀ k, k < N → parseFieldDescriptor (T k).2.2.1 = some (ty0 k)) (hnm : ∀ a, a < N → ∀ b, b < N → a ≠ b → (T a).2.1 ≠ (T b).2.1) (q0 j : Nat) {fs : List Value} {v : Value} (hq : q0 < n) (he : f q0 = .inr (ci, fs)) (hk : j < N) (hl : j < fs.length) (hlk : Cond.fieldLink own index (T j).1 (T j).2.1 (T j).2.2.1 ∈ Ts) (hfin : (T j).2.2.2 = false) {ty : FieldType} (hd : ty0 j = ty) (hn : narrow ty v = v) (hfit : fits ty v = true) (hf : va_up f q0 (.inr (ci, fs.set j v)) = f') (hdg : decode cc pc = .ok (.putfield index, 3))
    (kk : ∀ (H1 : Heap) (locs1 : List Loc), H1.size = H.size → va_P D cl (zw n ad f') H1 → va_D A (zw n ad f') → va_S A H0 H1 locs1 → W p l e R s m args below meth c H1 locs1 cells slots Q (F0 m (pc + 3) ls rest)) : W p l e R s m args below meth c H locs cells slots Q (F0 m pc ls (v :: .ref (ad q0) :: rest)) := by
  subst hd
  have hap := va_apart (own := own) F.2.2.2.2 hin ty0 hty hnm hK hc
  have he' := (zw_at (ad := ad) (f := f) hq).trans (by rw [he])
  obtain ⟨r, h1, cell, q1, q2, q3, q4⟩ := hP q0 _ he'
  have hr : r = (C, T, N) := Option.some.inj (h1.symm.trans hc)
  subst hr
  obtain ⟨hS, hfc, kC, hkC, hkind⟩ := hK.1 ci _ hc
  obtain ⟨cf, kf, fi, fl, hi, hsl⟩ := hS j hk
  have hlay := F.2.2.2.2 _ (hin _ (u_in_lay hk))
  unfold u_lay at hlay
  rw [if_neg (by rw [hfin]; decide)] at hlay
  have hst := (u_facts hfc hkC (u_lays F.2.2.2.2 hin hk) hi).1
  have h6 := u_store hfc hkC hkind hlay hi (hty j hk) hn hfit
  refine W.putK F.1 F.2.1 (f := fl) ⟨F.2.2.2.1, F.2.2.2.2 _ hlk, ⟨_, _, _, hi⟩, hst⟩ (by rw [q2]; exact h6) q1 q3 (by rw [hsl]; exact k2_hasslot (q4 j hk)) rfl rfl hdg fun H' e1 e2 e3 => ?_
  rw [hsl] at e1 ⊢
  have g1 := hP.set hD he' (e := .inr (ci, fs.set j v)) ⟨_, hc, t_OB.to (V := updV (vp_V fs) j v) ⟨_, e1, q2, q3, t_set q4 hap hk v⟩ (fun j _ => vp_updV_set hl v j)⟩ e3
  have g2 := hD.set he' (e := .inr (ci, fs.set j v))
  rw [zw_set, hf] at g1 g2
  exact kk H' _ e2 g1 g2 (hS0.put e2 e3 (hD.2 q0 _ he'))
theorem z_putFS (F : CallFix p m c cc nL s args Ts own) (hK : va_K D cl (tyL k) s) (hP : va_P D cl (zw n ad f) H) (hD : va_D A (zw n ad f)) (hS0 : va_S A H0 H locs) {T : u_T} {N ci : Nat} (hin : ∀ w ∈ u_ws C T N, w ∈ Ts) (hc : cl[ci]? = some (C, T, N)) (ty0 : Nat → FieldType) (hty : ∀ k, k < N → parseFieldDescriptor (T k).2.2.1 = some (ty0 k)) (hnm : ∀ a, a < N → ∀ b, b < N → a ≠ b → (T a).2.1 ≠ (T b).2.1) (hin2 : meth.name = "<init>") (q0 j : Nat) {fs : List Value} {v : Value} (hq : q0 < n) (he : f q0 = .inr (ci, fs)) (hk : j < N) (hl : j < fs.length) (hlk : Cond.fieldLink own index (T j).1 (T j).2.1 (T j).2.2.1 ∈ Ts) (hfin : (T j).2.2.2 = true) (hdecl : (T j).1 = own) {ty : FieldType} (hd : ty0 j = ty) (hn : narrow ty v = v) (hfit : fits ty v = true) (hf : va_up f q0 (.inr (ci, fs.set j v)) = f') (hdg : decode cc pc = .ok (.putfield index, 3))
    (kk : ∀ (H1 : Heap) (locs1 : List Loc), H1.size = H.size → va_P D cl (zw n ad f') H1 → va_D A (zw n ad f') → va_S A H0 H1 locs1 → W p l e R s m args below meth c H1 locs1 cells slots Q (F0 m (pc + 3) ls rest)) : W p l e R s m args below meth c H locs cells slots Q (F0 m pc ls (v :: .ref (ad q0) :: rest)) := by
  subst hd
  have hap := va_apart (own := own) F.2.2.2.2 hin ty0 hty hnm hK hc
  have he' := (zw_at (ad := ad) (f := f) hq).trans (by rw [he])
  obtain ⟨r, h1, cell, q1, q2, q3, q4⟩ := hP q0 _ he'
  have hr : r = (C, T, N) := Option.some.inj (h1.symm.trans hc)
  subst hr
  obtain ⟨hS, hfc, kC, hkC, hkind⟩ := hK.1 ci _ hc
  obtain ⟨cf, kf, fi, fl, hi, hsl⟩ := hS j hk
  have hlay := F.2.2.2.2 _ (hin _ (u_in_lay hk))
  unfold u_lay at hlay
  rw [if_pos hfin] at hlay
  have hst := (u_facts hfc hkC (u_lays F.2.2.2.2 hin hk) hi).1
  have hcf : m.cls = cf := by
    obtain ⟨_, _, c', _, _, _, -, -, hf', -, -, -, hown2, -⟩ := Cond.laysFinal_spec hlay
    have e1 : c' = cf := by have := hi.symm.trans hf'; simp at this; exact this.1.symm
    rw [hdecl] at hown2
    rw [← e1]; exact Option.some.inj (F.2.2.2.1.symm.trans hown2)
  have h6 := u_fits hfc hkC hkind (Or.inr hlay) hi (hty j hk) hn hfit
  refine W.putFinK F.1 F.2.1 F.2.2.2.1 (F.2.2.2.2 _ hlk) hi hst hcf hin2 (by rw [q2]; exact h6) q1 q3 (by rw [hsl]; exact k2_hasslot (q4 j hk)) rfl rfl hdg fun H' e1 e2 e3 => ?_
  rw [hsl] at e1 ⊢
  have g1 := hP.set hD he' (e := .inr (ci, fs.set j v)) ⟨_, hc, t_OB.to (V := updV (vp_V fs) j v) ⟨_, e1, q2, q3, t_set q4 hap hk v⟩ (fun j _ => vp_updV_set hl v j)⟩ e3
  have g2 := hD.set he' (e := .inr (ci, fs.set j v))
  rw [zw_set, hf] at g1 g2
  exact kk H' _ e2 g1 g2 (hS0.put e2 e3 (hD.2 q0 _ he'))
theorem z_iastS (F : CallFix p m c cc nL s args Ts own) (hK : va_K D cl (tyL k) s) (hP : va_P D cl (zw n ad f) H) (hD : va_D A (zw n ad f)) (hS : va_S A H0 H locs) (q0 t0 : Nat) {cA : ClassId} {len : Nat} {g : Nat → Int32} (hq : q0 < n) (he : f q0 = .inl (cA, len, .inl g)) (ht : (tyL k)[t0]? = some (cA, .int)) {i x : Int32} (j : Nat) (hi : i = nI j) (hj : j < len) (hlen : len < 2 ^ 31) (hf : va_up f q0 (.inl (cA, len, .inl (upd g j x))) = f') (hdg : decode cc pc = .ok (.iastore, 1))
    (kk : ∀ (H1 : Heap) (locs1 : List Loc), H1.size = H.size → va_P D cl (zw n ad f') H1 → va_D A (zw n ad f') → va_S A H0 H1 locs1 → W p l e R s m args below meth c H1 locs1 cells slots Q (F0 m (pc + 1) ls rest)) : W p l e R s m args below meth c H locs cells slots Q (F0 m pc ls (.int x :: .int i :: .ref (ad q0) :: rest)) := by
  subst hi
  have ha := (zw_at (ad := ad) (f := f) hq).trans (by rw [he])
  have hin := vp_in_nI hj hlen
  refine W.iast F.1 F.2.1 (hP q0 _ ha) ((hK.2 t0 _ ht).1 len (fun j => .int (g j))) (fun q => by cases q) (by show ¬ (nI j < 0 ∨ (arrV _ _ _).slots.size ≤ _); rw [arrV_size]; exact hin) rfl rfl hdg fun H1 e z oq => ?_
  have g1 := hP.set hD ha (e := .inl (cA, len, .inl (upd g j x))) (by
    show H1[ad q0]? = some (vp_cell _ _)
    rw [e, vp_cell_i, vp_cell_i, arrV_store, nI_clamp (by omega)]
    congr 2
    funext q
    by_cases hq : q = j
    · subst hq
      simp [updV, upd]
    · simp [updV, upd, hq]) oq
  have g2 := hD.set ha (e := .inl (cA, len, .inl (upd g j x)))
  rw [zw_set, hf] at g1 g2
  exact kk H1 _ z g1 g2 (hS.put z oq (hD.2 q0 _ ha))
theorem z_astqS (F : CallFix p m c cc nL s args Ts own) (hK : va_K D cl (tyL k) s) (hP : va_P D cl (zw n ad f) H) (hD : va_D A (zw n ad f)) (hS : va_S A H0 H locs) (q0 t0 qk ci : Nat) {cA : ClassId} {r : vw_C} {len : Nat} {vs : List Value} {g : Nat → Option Nat} (hq : q0 < n) (he : f q0 = .inl (cA, len, .inr (.inr (.inr (.inr g))))) (ht : (tyL k)[t0]? = some (cA, .object r.1)) (hqk : qk < n) (hev : f qk = .inr (ci, vs)) (hc : cl[ci]? = some r) {i : Int32} (j : Nat) (hi : i = nI j) (hj : j < len) (hlen : len < 2 ^ 31) (hf : va_up f q0 (.inl (cA, len, .inr (.inr (.inr (.inr (va_up g j (some (ad qk)))))))) = f') (hdg : decode cc pc = .ok (.aastore, 1))
    (kk : ∀ (H1 : Heap) (locs1 : List Loc), H1.size = H.size → va_P D cl (zw n ad f') H1 → va_D A (zw n ad f') → va_S A H0 H1 locs1 → W p l e R s m args below meth c H1 locs1 cells slots Q (F0 m (pc + 1) ls rest)) : W p l e R s m args below meth c H locs cells slots Q (F0 m pc ls (.ref (ad qk) :: .int i :: .ref (ad q0) :: rest)) := by
  subst hi
  have ha := (zw_at (ad := ad) (f := f) hq).trans (by rw [he])
  have hv := (zw_at (ad := ad) (f := f) hqk).trans (by rw [hev])
  have hin := vp_in_nI hj hlen
  obtain ⟨r', hr', cellV, g1, g2, g3, -⟩ := hP qk _ hv
  have hcls := (hK.1 ci r hc).2
  obtain ⟨kA, comp, k1, k2, k3, -⟩ := (hK.2 t0 _ ht).2
  have hcomp : comp = D.1 ci := Option.some.inj (k3.symm.trans hcls.1)
  subst hcomp
  obtain ⟨kC, hkC, -⟩ := hcls.2
  have hjc : (nI j).toNatClampNeg = j := nI_clamp (by omega)
  refine W.aast F.1 F.2.1 (hP q0 _ ha) (fun q h => by cases h) (fun h => by cases h) k1 k2 rfl hkC ⟨fun q => hin (Or.inl q), by show _ < (arrV _ _ _).slots.size; rw [arrV_size, hjc]; exact hj⟩ g1 (fun q h => by rw [g3] at h; cases h) (by rw [g2]; exact hkC) (by rw [g2]; exact va_assign hcls) rfl rfl hdg fun H1 e z oq => ?_
  have g4 := hP.set hD ha (e := .inl (cA, len, .inr (.inr (.inr (.inr (va_up g j (some (ad qk)))))))) (by
    show H1[ad q0]? = some (vp_cell _ _)
    rw [e, vp_cell_q, vp_cell_q, arrV_store, hjc]
    congr 2
    funext q
    by_cases hq : q = j
    · subst hq
      simp [updV, va_up, va_rf]
    · simp [updV, va_up, hq]) oq
  have g5 := hD.set ha (e := .inl (cA, len, .inr (.inr (.inr (.inr (va_up g j (some (ad qk))))))))
  rw [zw_set, hf] at g4 g5
  exact kk H1 _ z g4 g5 (hS.put z oq (hD.2 q0 _ ha))
theorem z_stk (h : st0 = rest) (kk : W p l e R s m args below meth c H locs cells slots Q (F0 m pc ls rest)) : W p l e R s m args below meth c H locs cells slots Q (F0 m pc ls st0) := h ▸ kk
end ZM
