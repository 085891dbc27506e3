/-! TWO DESKS SIDE BY SIDE. -/
theorem wP_l {D : va_G} {cl : List vw_C} {wa wb : va_W} {H : Heap} (h : va_P D cl (wa ++ wb) H) : va_P D cl wa H := fun i q hi => h i q (by rw [List.getElem?_append_left (List.getElem?_eq_some_iff.mp hi).1]; exact hi)
theorem wP_r {D : va_G} {cl : List vw_C} {wa wb : va_W} {H : Heap} (h : va_P D cl (wa ++ wb) H) : va_P D cl wb H := fun i q hi => h (wa.length + i) q (by rw [List.getElem?_append_right (Nat.le_add_right _ _), Nat.add_sub_cancel_left]; exact hi)
theorem wD_l {A : Nat → Prop} {wa wb : va_W} (h : va_D A (wa ++ wb)) : va_D A wa := by
  have key : ∀ (i : Nat) (q : Nat × va_E), wa[i]? = some q → (wa ++ wb)[i]? = some q := fun i q hi => by rw [List.getElem?_append_left (List.getElem?_eq_some_iff.mp hi).1]; exact hi
  exact ⟨fun i j p q hi hj e => h.1 i j p q (key i p hi) (key j q hj) e, fun i q hi => h.2 i q (key i q hi)⟩
theorem wD_r {A : Nat → Prop} {wa wb : va_W} (h : va_D A (wa ++ wb)) : va_D A wb := by
  have key : ∀ (i : Nat) (q : Nat × va_E), wb[i]? = some q → (wa ++ wb)[wa.length + i]? = some q := fun i q hi => by rw [List.getElem?_append_right (Nat.le_add_right _ _), Nat.add_sub_cancel_left]; exact hi
  exact ⟨fun i j p q hi hj e => Nat.add_left_cancel (h.1 _ _ p q (key i p hi) (key j q hj) e), fun i q hi => h.2 _ q (key i q hi)⟩
theorem wD_x {A : Nat → Prop} {wa wb : va_W} (h : va_D A (wa ++ wb)) {i j : Nat} {p q : Nat × va_E} (hi : wa[i]? = some p) (hj : wb[j]? = some q) : p.1 ≠ q.1 := fun e => by
  have h1 := (List.getElem?_eq_some_iff.mp hi).1
  have h2 := h.1 i (wa.length + j) p q (by rw [List.getElem?_append_left h1]; exact hi) (by rw [List.getElem?_append_right (Nat.le_add_right _ _), Nat.add_sub_cancel_left]; exact hj) e
  omega
theorem wPs {D : va_G} {cl : List vw_C} {wa wb : va_W} {H : Heap} (h : va_P D cl (wa ++ wb) H) : va_P D cl (wb ++ wa) H := (wP_r h).app (wP_l h)
theorem wDs {A : Nat → Prop} {wa wb : va_W} (h : va_D A (wa ++ wb)) : va_D A (wb ++ wa) := va_D.app (wD_r h) (wD_l h) (fun _ _ _ _ hi hj e => wD_x h hj hi e.symm)
theorem wA {A : Nat → Prop} {wa : va_W} {H0 H : Heap} (h : va_D A wa) (hA : ∀ q, H0.size ≤ q → A q) (hz : H0.size ≤ H.size) : ∀ q, va_A wa H.size q → A q := by
  intro q zz1
  rcases zz1 with ⟨i, e, zz2⟩ | zz2
  · exact h.2 i (q, e) zz2
  · exact hA q (Nat.le_trans hz zz2)
/-- behind a call that had the world wa alone -/
theorem wF {A : Nat → Prop} {D : va_G} {cl : List vw_C} {wa wc wb : va_W} {H0 H H1 : Heap} (hP : va_P D cl (wa ++ wb) H) (hD : va_D A (wa ++ wb)) (hA : ∀ q, H0.size ≤ q → A q) (hz : H0.size ≤ H.size) (hP1 : va_P D cl wc H1) (hD1 : va_D (va_A wa H.size) wc)
    (hk : ∀ q : Nat, q < H.size → ¬ va_A wa H.size q → H1[q]? = H[q]?) : va_P D cl (wc ++ wb) H1 ∧ va_D A (wc ++ wb) := by
  have hn : ∀ (j : Nat) (q : Nat × va_E), wb[j]? = some q → q.1 < H.size ∧ ¬ va_A wa H.size q.1 := fun j q hj => by
    have h1 : q.1 < H.size := (wP_r hP j q hj).lt
    refine ⟨h1, fun zz1 => ?_⟩
    rcases zz1 with ⟨i, e, hi⟩ | zz2
    · exact wD_x hD hi hj rfl
    · omega
  refine ⟨hP1.app ((wP_r hP).kept fun j q hj => hk q.1 (hn j q hj).1 (hn j q hj).2), va_D.app (hD1.weaken fun i q hi zz1 => wA (wD_l hD) hA hz _ zz1) (wD_r hD) fun i j p q hi hj e => ?_⟩
  exact (hn j q hj).2 (by rw [← e]; exact hD1.2 i p hi)
def lwN (U : State) : Prop := va_Nc exA exI U ∧ va_Nc exS exI U ∧ va_Nc exS exA U
theorem lwN.moved {u U : State} (hvm : u.vm.Alike U.vm) (h : lwN u) : lwN U := ⟨h.1.moved hvm, h.2.1.moved hvm, h.2.2.moved hvm⟩
/-- what a helper of the law answers: the call's answer, or one number for each exception -/
def rV (x : Nat) (r : Int32) : Int32 := if x = 0 then r else -3000000
def fB (r : Int32) : Int32 := if r = 0 then nI 0 else nI 1
theorem rV_0 {x : Nat} {r : Int32} (h : x = 0) : r = rV x r := (if_pos h).symm
theorem rV_x {x : Nat} {r : Int32} (h : x ≠ 0) : (-3000000 : Int32) = rV x r := (if_neg h).symm
theorem fB_0 {x : Nat} {r : Int32} (h : x = 0) (h0 : r = 0) : nI 0 = rV x (fB r) := by
  unfold rV fB
  rw [if_pos h, if_pos h0]
theorem fB_1 {x : Nat} {r : Int32} (h : x = 0) (h0 : ¬ r = 0) : nI 1 = rV x (fB r) := by
  unfold rV fB
  rw [if_pos h, if_neg h0]
def tPre (D : va_G) (k : Nat → ClassId) (ad : Nat → Nat) (M : Nat → Nat → Nat) (O : Nat → Nat → Int32) (sz : Nat) (sa : Nat → Nat) (U : State) : Prop := zPre D k ad M O sz sa U ∧ lwN U
abbrev tQ (D : va_G) (k : Nat → ClassId) (ad : Nat → Nat) (M M1 : Nat → Nat → Nat) (O1 : Nat → Nat → Int32) (A : Nat → Prop) (v : Int32) : Array Value → State → Outcome → State → Prop :=
  va_Qi (S := Nat → Nat) (fun r _ => r = v) (fun ad' t => (zR D k (20 + 2 * M1 0 1) ad' (cX k ad' M1 O1) t ∧ va_D A (zw (20 + 2 * M1 0 1) ad' (cX k ad' M1 O1))) ∧ ∀ j, j < 20 + 2 * M 0 1 → ad' j = ad j) A
section ZL
variable {p : Program} {l : Launch} {e : Env} {R : Room} {s : State} {m : MethodId} {args : Array Value} {below : List Frame} {meth : Method} {c : Code} {H : Heap} {locs : List Loc} {cells slots : Nat} {Q : State → Prop}
variable {cc bytes : ByteArray} {nL maxL index na mc ms : Nat} {Ts ws : List Cond} {own C : String} {y : MethodName} {ret : Option FieldType} {rm : Room} {pc : Nat} {ls : Array Slot} {As rest st0 : List Value} {D : va_G} {k : Nat → ClassId} {A : Nat → Prop} {H0 : Heap} {ad bd : Nat → Nat} {M M' M1 : Nat → Nat → Nat} {O O' O1 : Nat → Nat → Int32} {o xq km : Nat} {g : Nat → Int64} {v : Int64} {rr th th1 : Int32} {sa : Nat → Nat} {wb : va_W} {hh : List (Nat × Nat × Nat × Nat)} {post : Int32 → Prop}
/-- a call of the class's face, from a world that holds more -/
theorem lx_call (F : CallFix p m c cc nL s args Ts own) (hM : vx_Met l y ws rm (va_Pc (.ref (ad 0) :: As) (zPre D k ad M O H.size sa)) (zQop D k ad M M' O' (va_A (zw (20 + 2 * M 0 1) ad (cX k ad M O)) H.size) xq rr) (zX (fun E => exC E xq)) mc ms (va_A (zw (20 + 2 * M 0 1) ad (cX k ad M O)) H.size)) (cw : CallW R s args own RX2 index y bytes maxL ret ws rm mc ms na)
    (hK : va_K D vwCl (tyL k) s) (hP : va_P D vwCl (zw (20 + 2 * M 0 1) ad (cX k ad M O) ++ wb) H) (hD : va_D A (zw (20 + 2 * M 0 1) ad (cX k ad M O) ++ wb)) (hS : va_S A s.heap H locs) (hA : ∀ q, s.heap.size ≤ q → A q) (hE : zE A sa s s.heap) (hn : As.length = na) (hsize : ls.size = nL) (hst : st0 = As.reverse ++ .ref (ad 0) :: rest) (hW : (rest.map fun v => v.category).sum ≤ 8) (hdg : decode cc pc = .ok (.invokevirtual index, 3)) (hf : cells + mc ≤ R.cells ∧ slots + ms ≤ R.slots)
    (kx : ∀ (E : String) (ce : Cell) (q9 : Addr) (H1 : Heap) (locs1 : List Loc), exC E xq → va_P D vwCl (zw (20 + 2 * M 0 1) ad (cX k ad M O) ++ wb) H1 → va_S A s.heap H1 locs1 → H1[q9]? = some ce → ce.vm = .none → s.vm.findClass E = some ce.cls → vx_W p l e R s m args below meth c H1 locs1 (cells + mc) (slots + ms) Q (F0 m pc ls rest) q9)
    (kk : ∀ (ad1 : Nat → Nat) (H1 : Heap) (locs1 : List Loc), xq = 0 → (∀ j, j < 20 + 2 * M 0 1 → ad1 j = ad j) → va_P D vwCl (zw (20 + 2 * M' 0 1) ad1 (cX k ad1 M' O') ++ wb) H1 → va_D A (zw (20 + 2 * M' 0 1) ad1 (cX k ad1 M' O') ++ wb) → va_S A s.heap H1 locs1 → W p l e R s m args below meth c H1 locs1 (cells + mc) (slots + ms) Q (F0 m (pc + 3) ls (.int rr :: rest))) : W p l e R s m args below meth c H locs cells slots Q (F0 m pc ls st0) := by
  subst hst
  have hPx := wP_l hP
  have hDx := wD_l hD
  have hle := wA hDx hA hS.1
  refine vx_calli (vx_runV (g := F0 m pc ls (As.reverse ++ .ref (ad 0) :: rest)) F hM cw ⟨fun a U g mk h => ⟨h.1, ⟨h.2.1.1, z_frameR h.2.1.2.1, h.2.1.2.2⟩, h.2.2.same rfl⟩, va_recv (q := (RX2, TX2, 5)) hK hPx (ci := 2) (q0 := 0) rfl ((zw_at (by omega)).trans (by rw [cX_0])), fun U hU hW1 => ⟨rfl, ⟨by rw [hU], ⟨by rw [hU]; exact hPx, va_K.moved hW1.alike hK⟩, hDx.weaken (fun _ _ _ _ => trivial)⟩, by rw [hU]; exact hE.go hW1 hle hS.2.1⟩⟩ rfl hn hsize rfl (lv_room hW) hdg hf) hS (fun q _ h => hle q h) hle (fun q _ h => (h : noA q).elim) (fun E ce q9 u t H1 locs1 ht hvm _ hb _ hk hS1 hce hcv hcl => kx E ce q9 H1 locs1 hb (hP.kept fun i q hi => hk q.1 (hP i q hi).lt (fun zz1 => zz1)) hS1 hce hcv hcl) (fun r ad1 t H1 locs1 ht hvm hp hb hz hk hS1 => ?_)
  obtain ⟨h0, rfl⟩ := hp
  obtain ⟨⟨⟨hP1, hK1⟩, hD1⟩, hadq⟩ := hb
  rw [ht] at hP1
  obtain ⟨h3, h4⟩ := wF hP hD hA hS.1 hP1 hD1 hk
  exact kk ad1 H1 locs1 h0 hadq h3 h4 hS1
/-- a call of a helper of the law, from a world that holds more -/
theorem tw_call (F : CallFix p m c cc nL s args Ts own) (hM : vx_Met l y ws rm (va_Pc As (tPre D k ad M O H.size sa)) (tQ D k ad M M1 O1 (va_A (zw (20 + 2 * M 0 1) ad (cX k ad M O)) H.size) rr) (zX (fun _ => False)) mc ms (va_A (zw (20 + 2 * M 0 1) ad (cX k ad M O)) H.size)) (cw : vx_CSW R s args own index y bytes maxL ret hh ws rm mc ms na)
    (hK : va_K D vwCl (tyL k) s) (hN : lwN s) (hE : zE A sa s s.heap) (hP : va_P D vwCl (zw (20 + 2 * M 0 1) ad (cX k ad M O) ++ wb) H) (hD : va_D A (zw (20 + 2 * M 0 1) ad (cX k ad M O) ++ wb)) (hS : va_S A s.heap H locs) (hA : ∀ q, s.heap.size ≤ q → A q) (hn : As.length = na) (hsize : ls.size = nL) (hst : st0 = As.reverse ++ rest) (hW : (rest.map fun v => v.category).sum ≤ 8) (hdg : decode cc pc = .ok (.invokestatic index, 3)) (hf : cells + mc ≤ R.cells ∧ slots + ms ≤ R.slots)
    (kk : ∀ (ad1 : Nat → Nat) (H1 : Heap) (locs1 : List Loc), (∀ j, j < 20 + 2 * M 0 1 → ad1 j = ad j) → va_P D vwCl (zw (20 + 2 * M1 0 1) ad1 (cX k ad1 M1 O1) ++ wb) H1 → va_D A (zw (20 + 2 * M1 0 1) ad1 (cX k ad1 M1 O1) ++ wb) → va_S A s.heap H1 locs1 → W p l e R s m args below meth c H1 locs1 (cells + mc) (slots + ms) Q (F0 m (pc + 3) ls (.int rr :: rest))) : W p l e R s m args below meth c H locs cells slots Q (F0 m pc ls st0) := by
  subst hst
  have hPx := wP_l hP
  have hDx := wD_l hD
  have hle := wA hDx hA hS.1
  refine vx_calli (vx_runSX (g := F0 m pc ls (As.reverse ++ rest)) F hM cw ⟨fun a U g mk h => ⟨h.1, ⟨⟨h.2.1.1.1, z_frameR h.2.1.1.2.1, h.2.1.1.2.2⟩, h.2.1.2.same rfl⟩, lwN.moved (u := U) (U := U.calling g mk a) (Vm.Alike.refl U.vm) h.2.2⟩, fun U hU hW1 => ⟨rfl, ⟨⟨by rw [hU], ⟨by rw [hU]; exact hPx, va_K.moved hW1.alike hK⟩, hDx.weaken (fun _ _ _ _ => trivial)⟩, by rw [hU]; exact hE.go hW1 hle hS.2.1⟩, hN.moved hW1.alike⟩⟩ rfl hn hsize rfl (lv_room hW) hdg hf) hS (fun q _ h => hle q h) hle (fun q _ h => (h : noA q).elim) (fun E ce q9 u t H1 locs1 ht hvm _ hb _ _ _ _ _ _ => False.elim hb) (fun r u t H1 locs1 ht hvm hp hb hz hk hS1 => ?_)
  obtain ⟨⟨⟨hP1, hK1⟩, hD1⟩, hadq⟩ := hb
  rw [ht] at hP1
  obtain ⟨h3, h4⟩ := wF hP hD hA hS.1 hP1 hD1 hk
  subst hp
  exact kk u H1 locs1 hadq h3 h4 hS1
/-- drawn: a number below 2^30 -/
theorem tw_drawn {b L kk0 : Nat} {xs : Nat → Int32} (F : CallFix p m c cc nL s args Ts own) (hM : Met l y ws rm (va_Pc [.ref b, .int (nI kk0)] (fun U => va_X b L xs U U.heap)) (vp_Si (fun r => ∃ d : Nat, d < 1073741824 ∧ r = nI d)) 0 0 (fun _ => False)) (cw : CallB R s args own index y bytes maxL ret ws rm 0 0 na ∧ (Cond.static y).before args s = true)
    (hX : va_X b L xs s s.heap) (hbl : b < s.heap.size) (hbA : ¬ A b) (hS : va_S A s.heap H locs) (hn : 2 = na) (hsize : ls.size = nL) (hst : st0 = [.int (nI kk0), .ref b] ++ rest) (hW : (rest.map fun v => v.category).sum ≤ 8) (hdg : decode cc pc = .ok (.invokestatic index, 3)) (hf : cells ≤ R.cells ∧ slots ≤ R.slots)
    (kk : ∀ d : Nat, d < 1073741824 → W p l e R s m args below meth c H locs cells slots Q (F0 m (pc + 3) ls (.int (nI d) :: rest))) : W p l e R s m args below meth c H locs cells slots Q (F0 m pc ls st0) := by
  subst hst
  refine vp_callSi (W.runS (g := F0 m pc ls ([.int (nI kk0), .ref b] ++ rest)) F hM cw ⟨fun a U g mk h => ⟨h.1, va_X.moved (u := U) (U := U.calling g mk a) (Vm.Alike.refl U.vm) h.2⟩, fun U hU hW1 => ⟨rfl, by show va_X b L xs U U.heap; rw [hU]; exact va_X.moved hW1.alike (hX.kept (hS.2.1 b hbl hbA))⟩⟩ rfl hn hsize rfl (lv_room hW) hdg ⟨hf.1, hf.2⟩) (fun r hr => ?_)
  obtain ⟨d, hd, rfl⟩ := hr
  exact kk d hd
end ZL
