/-! THE CALLS OF THE FACE: which exception (0 none, 1 index, 2 argument, 3 state), the answer, the new state. -/
noncomputable def x3 (a b c : Prop) : Nat := cI a (cI b (cI c 0 3) 2) 1
theorem x3_0 {a b c : Prop} (ha : a) (hb : b) (hc : c) : x3 a b c = 0 := by unfold x3; rw [cI_t ha, cI_t hb, cI_t hc]
theorem x3_1 {a b c : Prop} (ha : ¬ a) : x3 a b c = 1 := by unfold x3; rw [cI_f ha]
theorem x3_2 {a b c : Prop} (ha : a) (hb : ¬ b) : x3 a b c = 2 := by unfold x3; rw [cI_t ha, cI_f hb]
theorem x3_3 {a b c : Prop} (ha : a) (hb : b) (hc : ¬ c) : x3 a b c = 3 := by unfold x3; rw [cI_t ha, cI_t hb, cI_f hc]
def exC (E : String) (x : Nat) : Prop := (x = 1 ∧ E = exI) ∨ (x = 2 ∧ E = exA) ∨ (x = 3 ∧ E = exS)
theorem exC_1 {a b c : Prop} (ha : ¬ a) : exC exI (x3 a b c) := Or.inl ⟨x3_1 ha, rfl⟩
theorem exC_2 {a b c : Prop} (ha : a) (hb : ¬ b) : exC exA (x3 a b c) := Or.inr (Or.inl ⟨x3_2 ha hb, rfl⟩)
theorem exC_3 {a b c : Prop} (ha : a) (hb : b) (hc : ¬ c) : exC exS (x3 a b c) := Or.inr (Or.inr ⟨x3_3 ha hb hc, rfl⟩)
def zPre (D : va_G) (k : Nat → ClassId) (ad : Nat → Nat) (M : Nat → Nat → Nat) (O : Nat → Nat → Int32) (sz : Nat) (sa : Nat → Nat) (U : State) : Prop :=
  zG D k (20 + 2 * M 0 1) ad (cX k ad M O) sz U ∧ zE (va_A (zw (20 + 2 * M 0 1) ad (cX k ad M O)) sz) sa U U.heap
abbrev zQop (D : va_G) (k : Nat → ClassId) (ad : Nat → Nat) (M M' : Nat → Nat → Nat) (O' : Nat → Nat → Int32) (A : Nat → Prop) (x : Nat) (rr : Int32) : Array Value → State → Outcome → State → Prop :=
  va_Qi (S := Nat → Nat) (fun r _ => x = 0 ∧ r = rr) (fun ad' t => (zR D k (20 + 2 * M' 0 1) ad' (cX k ad' M' O') t ∧ va_D A (zw (20 + 2 * M' 0 1) ad' (cX k ad' M' O'))) ∧ ∀ j, j < 20 + 2 * M 0 1 → ad' j = ad j) A
theorem zw_inj {A : Nat → Prop} {n : Nat} {ad : Nat → Nat} {f : Nat → va_E} (h : va_D A (zw n ad f)) : ∀ i j, i < n → j < n → ad i = ad j → i = j := fun i j hi hj e => h.1 i j _ _ (zw_at hi) (zw_at hj) e
theorem nb_n {v : Nat} (h : v ≤ 1) : narrow .boolean (.int (nI v)) = .int (nI v) := by
  rcases (show v = 0 ∨ v = 1 by omega) with rfl | rfl <;> rfl
theorem nb_v {v : Nat} (h : v ≤ 1) : vp_nar .boolean (nI v) = nI v := by
  rcases (show v = 0 ∨ v = 1 by omega) with rfl | rfl <;> rfl
theorem nb_f {v : Nat} (h : v ≤ 1) : fits .boolean (.int (nI v)) = true := by
  rcases (show v = 0 ∨ v = 1 by omega) with rfl | rfl <;> rfl
section ZD
variable {p : Program} {l : Launch} {e : Env} {R : Room} {s : State} {m : MethodId} {args : Array Value} {below : List Frame} {meth : Method} {c : Code} {H : Heap} {locs : List Loc} {cells slots : Nat} {Q : State → Prop}
variable {cc bytes : ByteArray} {nL maxL index na mc ms : Nat} {Ts ws : List Cond} {own C : String} {y : MethodName} {ret : Option FieldType} {rm : Room} {pc : Nat} {ls : Array Slot} {As rest st0 : List Value} {D : va_G} {k : Nat → ClassId} {A : Nat → Prop} {H0 : Heap} {n n' : Nat} {ad ad' : Nat → Nat} {f f' : Nat → va_E} {px : String → Prop} {P : Prop} {sa : Nat → Nat}
/-- a check that passes, behind writes -/
theorem z_xSn (F : CallFix p m c cc nL s args Ts own) (hM : vx_Met l y ws rm (va_Pc As (fun U => zE noA sa U U.heap)) (zQv P) (zX px) mc ms noA) (cw : CallB R s args own index y bytes maxL ret ws rm mc ms na ∧ (Cond.static y).before args s = true)
    (hE : zE A sa s s.heap) (hS : va_S A s.heap H locs) (hno : ∀ E, ¬ px E) (hn : As.length = na) (hsize : ls.size = nL) (hst : st0 = As.reverse ++ rest) (hW : (rest.map fun v => v.category).sum ≤ 8) (hdg : decode cc pc = .ok (.invokestatic index, 3)) (hf : cells + mc ≤ R.cells ∧ slots + ms ≤ R.slots)
    (kk : P → ∀ (H1 : Heap) (locs1 : List Loc), H.size ≤ H1.size → (∀ q : Nat, q < H.size → ¬ noA q → H1[q]? = H[q]?) → va_S A s.heap H1 locs1 → W p l e R s m args below meth c H1 locs1 (cells + mc) (slots + ms) Q (F0 m (pc + 3) ls rest)) : W p l e R s m args below meth c H locs cells slots Q (F0 m pc ls st0) := by
  subst hst
  refine vx_callv (vx_runS (g := F0 m pc ls (As.reverse ++ rest)) F hM cw ⟨fun a U g mk h => ⟨h.1, h.2.same rfl⟩, fun U hU hW1 => ⟨rfl, by show zE noA sa U U.heap; rw [hU]; exact hE.go hW1 noA_le hS.2.1⟩⟩ rfl hn hsize rfl (lv_room hW) hdg hf) hS (fun q _ h => noA_le q h) (fun q h => noA_le q h) (fun q _ h => noA_le q h) (fun E ce q9 u t H1 locs1 ht hvm _ hb _ _ hS1 hce hcv hcl => absurd hb (hno E)) (fun u t H1 locs1 ht hvm hp hb hz hk hS1 => kk hp H1 locs1 hz hk hS1)
end ZD
/-- the first day from d on without cover, within f days -/
noncomputable def ngF (M : Nat → Nat → Nat) (i kd : Nat) : Nat → Nat → Int32
  | 0, _ => -1
  | f + 1, d => @ite _ (cov M i kd d) (Classical.propDecidable _) (ngF M i kd f (d + 1)) (nI d)
theorem ngF_t {M : Nat → Nat → Nat} {i kd f d : Nat} (h : cov M i kd d) : ngF M i kd (f + 1) d = ngF M i kd f (d + 1) := (if_pos h : @ite _ (cov M i kd d) (Classical.propDecidable _) (ngF M i kd f (d + 1)) (nI d) = ngF M i kd f (d + 1))
theorem ngF_f {M : Nat → Nat → Nat} {i kd f d : Nat} (h : ¬ cov M i kd d) : ngF M i kd (f + 1) d = nI d := (if_neg h : @ite _ (cov M i kd d) (Classical.propDecidable _) (ngF M i kd f (d + 1)) (nI d) = nI d)
theorem hN_cg {M M' : Nat → Nat → Nat} {i : Nat} (h1 : M' 1 i = M 1 i) (h2 : M' 2 i = M 2 i) (h3 : M' 3 i = M 3 i) : ∀ h, hN M' i h = hN M i h
  | 0 => rfl
  | h + 1 => by
    show hN M' i h + _ = hN M i h + _
    unfold hrB
    rw [hN_cg h1 h2 h3 h, h1, h2, h3]
theorem rkM_0 (M : Nat → Nat → Nat) (a b : Nat) : rkM M a b 0 = M := by
  funext r x
  unfold rkM
  rw [if_neg (by omega)]
theorem rkM_s (M : Nat → Nat → Nat) (a b n : Nat) : rk1 (rkM M a b n) a b n = rkM M a b (n + 1) := by
  funext r x
  have e : ∀ r x, r ≠ 15 → rkM M a b n r x = M r x := fun r x h => by unfold rkM; rw [if_neg (fun zz1 => h zz1.1)]
  have e15 : ∀ x, x / 3 = n → rkM M a b n 15 x = M 15 x := fun x h => by unfold rkM; rw [if_neg (by omega)]
  show (if r = 15 ∧ x / 3 = n then rkv (rkM M a b n) a b n (x % 3) else rkM M a b n r x) = if r = 15 ∧ x / 3 < n + 1 then rkv M a b (x / 3) (x % 3) else M r x
  by_cases h : r = 15 ∧ x / 3 = n
  · obtain ⟨rfl, h2⟩ := h
    rw [if_pos ⟨rfl, h2⟩, if_pos ⟨rfl, by omega⟩, h2]
    unfold rkv
    rw [e 12 n (by decide), e 14 n (by decide), e 16 n (by decide), e 9 n (by decide), e15 _ (by omega), hN_cg (e 1 _ (by decide)) (e 2 _ (by decide)) (e 3 _ (by decide)), hN_cg (e 1 _ (by decide)) (e 2 _ (by decide)) (e 3 _ (by decide))]
  · rw [if_neg h]
    show (if r = 15 ∧ x / 3 < n then rkv M a b (x / 3) (x % 3) else M r x) = _
    by_cases h2 : r = 15 ∧ x / 3 < n
    · rw [if_pos h2, if_pos ⟨h2.1, by omega⟩]
    · rw [if_neg h2, if_neg]
      intro zz1
      rcases Nat.lt_or_ge (x / 3) n with zz2 | zz2
      · exact h2 ⟨zz1.1, zz2⟩
      · exact h ⟨zz1.1, by omega⟩
theorem hdI_0 {x : Nat} (hx : x ≤ 40) : hdI x = -1 ↔ x = 0 := by
  unfold hdI
  by_cases h : x = 0
  · rw [if_pos h]; exact ⟨fun _ => h, fun _ => rfl⟩
  · rw [if_neg h]
    refine ⟨fun zz1 => absurd zz1 ?_, fun zz1 => absurd zz1 h⟩
    intro zz2
    have h1 : (nI (x - 1)).toInt = ((x - 1 : Nat) : Int) := nI_toInt (by omega)
    rw [zz2] at h1
    have h2 : (-1 : Int32).toInt = -1 := by decide
    rw [h2] at h1
    omega
/-- work: what it takes of the hours ahead, what it costs, what is left -/
def wkU (O : Nat → Nat → Int32) (st h : Nat) : Int32 := if O 0 st < nI h then O 0 st else nI h
def wkC (O : Nat → Nat → Int32) (st h : Nat) : Int32 := (nI h - wkU O st h) * nI 9000
noncomputable def wkR (M : Nat → Nat → Nat) (O : Nat → Nat → Int32) (a h : Nat) : Int32 := @ite _ (cov M (M 9 a) (M 10 a) (M 0 0 / 24)) (Classical.propDecidable _) 0 (wkC O (M 9 a) h)
noncomputable def wkO (M : Nat → Nat → Nat) (O : Nat → Nat → Int32) (a h : Nat) : Nat → Nat → Int32 := @ite _ (cov M (M 9 a) (M 10 a) (M 0 0 / 24)) (Classical.propDecidable _) O (zo (zo O 0 (M 9 a) (O 0 (M 9 a) - wkU O (M 9 a) h)) 1 (M 9 a) (O 1 (M 9 a) + wkC O (M 9 a) h))
theorem wkR_t {M : Nat → Nat → Nat} {O : Nat → Nat → Int32} {a h : Nat} (q : cov M (M 9 a) (M 10 a) (M 0 0 / 24)) : wkR M O a h = 0 := by unfold wkR; exact if_pos q
theorem wkR_f {M : Nat → Nat → Nat} {O : Nat → Nat → Int32} {a h : Nat} (q : ¬ cov M (M 9 a) (M 10 a) (M 0 0 / 24)) : wkR M O a h = wkC O (M 9 a) h := by unfold wkR; exact if_neg q
theorem wkO_t {M : Nat → Nat → Nat} {O : Nat → Nat → Int32} {a h : Nat} (q : cov M (M 9 a) (M 10 a) (M 0 0 / 24)) : wkO M O a h = O := by unfold wkO; exact if_pos q
theorem wkO_f {M : Nat → Nat → Nat} {O : Nat → Nat → Int32} {a h : Nat} (q : ¬ cov M (M 9 a) (M 10 a) (M 0 0 / 24)) : wkO M O a h = zo (zo O 0 (M 9 a) (O 0 (M 9 a) - wkU O (M 9 a) h)) 1 (M 9 a) (O 1 (M 9 a) + wkC O (M 9 a) h) := by unfold wkO; exact if_neg q
/-- reach: the new state -/
def reM (M : Nat → Nat → Nat) (a st : Nat) : Nat → Nat → Nat := if st = 2 then clM (zu (zu M 16 a (st + 1)) 12 a 2) a (M 0 1) else zu M 16 a (st + 1)
noncomputable def reO (M : Nat → Nat → Nat) (O : Nat → Nat → Int32) (a st : Nat) : Nat → Nat → Int32 := if st = 2 then crO M O a (mN (zu M 16 a (st + 1)) a 3) else O
