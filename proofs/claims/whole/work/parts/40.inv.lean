/-! THE BOUNDS ARE KEPT by each call. -/
theorem zInv_0 : zInv M0 := by
  refine ⟨Nat.zero_le _, Nat.zero_le _, fun i hi => ⟨?_, fun j hj => absurd hj (Nat.not_lt_zero _)⟩, ?_, fun c hc => absurd hc (Nat.not_lt_zero _), fun x _ => Nat.zero_le _, fun c _ _ => ⟨rfl, rfl, fun _ _ => rfl⟩⟩
  · have e1 : M0 1 i = 31 := if_pos hi
    have e2 : M0 2 i = 8 := if_pos hi
    have e3 : M0 3 i = 17 := if_pos hi
    have e4 : M0 7 i = 0 := rfl
    unfold zSi
    omega
  · intro j hj
    rcases (show j = 0 ∨ j = 1 ∨ j = 2 ∨ j = 3 ∨ j = 4 ∨ j = 5 ∨ j = 6 ∨ j = 7 ∨ j = 8 by omega) with rfl | rfl | rfl | rfl | rfl | rfl | rfl | rfl | rfl <;> exact ⟨by decide, by decide⟩
/-- a register that no bound but the cases' speaks of -/
theorem zInv_case {M M' : Nat → Nat → Nat} (h : zInv M) (e : ∀ r x, ¬ (9 ≤ r ∧ r ≤ 14) → r ≠ 16 → M' r x = M r x) (e14 : ∀ c, M 0 1 ≤ c → M' 14 c = M 14 c ∧ M' 16 c = M 16 c) (hc : ∀ c, c < M 0 1 → zCa M' c) : zInv M' := by
  obtain ⟨h1, h2, h3, h4, h5, h6, h7⟩ := h
  have e0 : M' 0 0 = M 0 0 := e 0 0 (by omega) (by omega)
  have e1 : M' 0 1 = M 0 1 := e 0 1 (by omega) (by omega)
  refine ⟨by omega, by omega, fun i hi => ⟨?_, ?_⟩, ?_, fun c hcc => hc c (by omega), fun x hx => ?_, fun c hcc hcn => ?_⟩
  · have := (h3 i hi).1
    unfold zSi at this ⊢
    rw [e 1 i (by omega) (by omega), e 2 i (by omega) (by omega), e 3 i (by omega) (by omega), e 7 i (by omega) (by omega)]
    exact this
  · intro j hj
    rw [e 7 i (by omega) (by omega)] at hj
    have := (h3 i hi).2 j hj
    rw [e 4 _ (by omega) (by omega), e 5 _ (by omega) (by omega), e 6 _ (by omega) (by omega)]
    exact this
  · intro j hj
    rw [e 8 j (by omega) (by omega)]
    exact h4 j hj
  · rw [e 15 x (by omega) (by omega), e0]
    exact h6 x hx
  · have h8 := h7 c hcc (by omega)
    have h9 := e14 c (by omega)
    exact ⟨by rw [h9.1]; exact h8.1, by rw [h9.2]; exact h8.2.1, fun s hs => by rw [e 15 _ (by omega) (by omega)]; exact h8.2.2 s hs⟩
