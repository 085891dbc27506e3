/-! THE REFERENCE: its constructor. -/
def MS (n r i : Nat) : Nat := if r = 1 ∧ i < n then 31 else if r = 2 ∧ i < n then 8 else if r = 3 ∧ i < n then 17 else if r = 13 then 1 else 0
def MQ8 (n r i : Nat) : Nat := if r = 8 ∧ i < n then [4, 8, 16, 2, 4, 8, 1, 2, 4].getD i 0 else MS 4 r i
theorem MS_0 : MS 0 = MZ := by
  funext r i
  unfold MS MZ
  rw [if_neg (by omega), if_neg (by omega), if_neg (by omega)]
theorem MS_s (n : Nat) : zu (zu (zu (MS n) 1 n 31) 2 n 8) 3 n 17 = MS (n + 1) := by
  funext r i
  unfold zu MS
  by_cases h1 : r = 3 ∧ i = n
  · obtain ⟨rfl, rfl⟩ := h1; simp
  by_cases h2 : r = 2 ∧ i = n
  · obtain ⟨rfl, rfl⟩ := h2; simp
  by_cases h3 : r = 1 ∧ i = n
  · obtain ⟨rfl, rfl⟩ := h3; simp
  rw [if_neg h1, if_neg h2, if_neg h3]
  have e1 : (r = 1 ∧ i < n) = (r = 1 ∧ i < n + 1) := propext (by omega)
  have e2 : (r = 2 ∧ i < n) = (r = 2 ∧ i < n + 1) := propext (by omega)
  have e3 : (r = 3 ∧ i < n) = (r = 3 ∧ i < n + 1) := propext (by omega)
  simp only [e1, e2, e3]
theorem MQ_0 : MQ8 0 = MS 4 := by
  funext r i
  unfold MQ8
  rw [if_neg (by omega)]
theorem MQ_s {n v : Nat} (h : v = [4, 8, 16, 2, 4, 8, 1, 2, 4].getD n 0) : zu (MQ8 n) 8 n v = MQ8 (n + 1) := by
  subst h
  funext r i
  unfold zu MQ8
  by_cases h1 : r = 8 ∧ i = n
  · obtain ⟨rfl, rfl⟩ := h1
    rw [if_pos ⟨rfl, rfl⟩, if_pos ⟨rfl, by omega⟩]
  rw [if_neg h1]
  have e1 : (r = 8 ∧ i < n) = (r = 8 ∧ i < n + 1) := propext (by omega)
  simp only [e1]
theorem MQ_9 : MQ8 9 = M0 := by
  funext r i
  unfold MQ8 MS M0
  by_cases h8 : r = 8
  · subst h8
    by_cases hi : i < 9
    · rw [if_pos ⟨rfl, hi⟩]; rfl
    · rw [if_neg (by omega)]
      obtain ⟨j, rfl⟩ : ∃ j, i = j + 9 := ⟨i - 9, by omega⟩
      rfl
  · rw [if_neg (fun zz1 => h8 zz1.1)]
    by_cases h1 : r = 1
    · subst h1; simp
    by_cases h2 : r = 2
    · subst h2; simp
    by_cases h3 : r = 3
    · subst h3; simp
    rw [if_neg (fun zz1 => h1 zz1.1), if_neg (fun zz1 => h2 zz1.1), if_neg (fun zz1 => h3 zz1.1), if_neg h1, if_neg h2, if_neg h3, if_neg h8]
theorem pr_v : ∀ n, n < 9 → (if n / 3 = 0 then 4 else if n / 3 = 1 then 2 else 1) * (if n % 3 = 0 then 1 else if n % 3 = 1 then 2 else 4) = [4, 8, 16, 2, 4, 8, 1, 2, 4].getD n 0 := by decide
