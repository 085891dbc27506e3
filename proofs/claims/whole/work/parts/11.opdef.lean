/-! THE CALLS OF THE FACE: which exception (0 none, 1 index, 2 argument, 3 state), the answer, the new state. -/
noncomputable def x3 (a b c : Prop) : Nat := cI a (cI b (cI c 0 3) 2) 1
theorem x3_0 {a b c : Prop} (ha : a) (hb : b) (hc : c) : x3 a b c = 0 := by unfold x3; rw [cI_t ha, cI_t hb, cI_t hc]
theorem x3_1 {a b c : Prop} (ha : ¬ a) : x3 a b c = 1 := by unfold x3; rw [cI_f ha]
theorem x3_2 {a b c : Prop} (ha : a) (hb : ¬ b) : x3 a b c = 2 := by unfold x3; rw [cI_t ha, cI_f hb]
theorem x3_3 {a b c : Prop} (ha : a) (hb : b) (hc : ¬ c) : x3 a b c = 3 := by unfold x3; rw [cI_t ha, cI_t hb, cI_f hc]
def exC (E : String) (x : Nat) : Prop := (x = 1 ∧ E = exI) ∨ (x = 2 ∧ E = exA) ∨ (x = 3 ∧ E = exS)
theorem exC_1 {a b c : Prop} (ha : ¬ a) : exC exI (x3 a b c) := Or.inl ⟨x3_1 ha, rfl⟩
theorem exC_2 {a b c : Prop} (ha : a) (hb : ¬ b) : exC exA (x3 a b c) := Or.inr (Or.inl ⟨x3_2 ha hb, rfl⟩)
theorem exC_3 {a b c : Prop} (ha : a) (hb : b) (hc : ¬ c) : exC exS (x3 a b c) := Or.inr (Or.inr ⟨x3_3 ha hb hc, rfl⟩)
def zPre (D : va_G) (k : Nat → ClassId) (ad : Nat → Nat) (M : Nat → Nat → Nat) (O : Nat → Nat → Int32) (sz : Nat) (sa : Nat → Nat) (U : State) : Prop :=
  zG D k (20 + 2 * M 0 1) ad (cX k ad M O) sz U ∧ zE (va_A (zw (20 + 2 * M 0 1) ad (cX k ad M O)) sz) sa U U.heap
abbrev zQop (D : va_G) (k : Nat → ClassId) (ad : Nat → Nat) (M M' : Nat → Nat → Nat) (O' : Nat → Nat → Int32) (A : Nat → Prop) (x : Nat) (rr : Int32) : Array Value → State → Outcome → State → Prop :=
  va_Qi (S := Nat → Nat) (fun r _ => x = 0 ∧ r = rr) (fun ad' t => (zR D k (20 + 2 * M' 0 1) ad' (cX k ad' M' O') t ∧ va_D A (zw (20 + 2 * M' 0 1) ad' (cX k ad' M' O'))) ∧ ∀ j, j < 20 + 2 * M 0 1 → ad' j = ad j) A
theorem zw_inj {A : Nat → Prop} {n : Nat} {ad : Nat → Nat} {f : Nat → va_E} (h : va_D A (zw n ad f)) : ∀ i j, i < n → j < n → ad i = ad j → i = j := fun i j hi hj e => h.1 i j _ _ (zw_at hi) (zw_at hj) e
theorem nb_n {v : Nat} (h : v ≤ 1) : narrow .boolean (.int (nI v)) = .int (nI v) := by
  rcases (show v = 0 ∨ v = 1 by omega) with rfl | rfl <;> rfl
theorem nb_v {v : Nat} (h : v ≤ 1) : vp_nar .boolean (nI v) = nI v := by
  rcases (show v = 0 ∨ v = 1 by omega) with rfl | rfl <;> rfl
theorem nb_f {v : Nat} (h : v ≤ 1) : fits .boolean (.int (nI v)) = true := by
  rcases (show v = 0 ∨ v = 1 by omega) with rfl | rfl <;> rfl
