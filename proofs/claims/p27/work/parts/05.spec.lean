/-! WHAT THE METHODS SAY, over the state. -/
noncomputable def cI (P : Prop) (a b : Nat) : Nat := @ite _ P (Classical.propDecidable P) a b
theorem cI_t {P : Prop} {a b : Nat} (h : P) : cI P a b = a := by unfold cI; exact if_pos h
theorem cI_f {P : Prop} {a b : Nat} (h : ¬ P) : cI P a b = b := by unfold cI; exact if_neg h
abbrev ix (p : Int32) : Nat := p.toNatClampNeg
theorem ix_nI {j : Nat} (h : j < 2 ^ 31) : ix (nI j) = j := nI_clamp h
def zI (N : Nat) (p : Int32) : Prop := ∃ j, j < N ∧ p = nI j
def zB (lo hi : Nat) (p : Int32) : Prop := ∃ j, lo ≤ j ∧ j ≤ hi ∧ p = nI j
theorem zB_iff {lo hi : Nat} (h : lo < 2 ^ 31) (h2 : hi < 2 ^ 31) {p : Int32} : (nI lo ≤ p ∧ p ≤ nI hi) ↔ zB lo hi p := by
  constructor
  · rintro ⟨h3, h4⟩
    have e1 := Int32.le_iff_toInt_le.mp h3
    rw [nI_toInt h] at e1
    have h0 : ¬ p < 0 := by rw [Int32.lt_iff_toInt_lt, Int32.toInt_zero]; omega
    obtain ⟨j, hj, rfl⟩ := nI_of h0
    exact ⟨j, (nI_leI h hj).mp h3, (nI_leI hj h2).mp h4, rfl⟩
  · rintro ⟨j, h3, h4, rfl⟩
    exact ⟨(nI_leI h (by omega)).mpr h3, (nI_leI (by omega) h2).mpr h4⟩
theorem zI_iff {N : Nat} (h : N < 2 ^ 31) {p : Int32} : (0 ≤ p ∧ p < nI N) ↔ zI N p := by
  constructor
  · rintro ⟨h3, h4⟩
    have h0 : ¬ p < 0 := by
      rw [Int32.lt_iff_toInt_lt, Int32.toInt_zero]
      have := Int32.le_iff_toInt_le.mp h3
      rw [Int32.toInt_zero] at this
      omega
    obtain ⟨j, hj, rfl⟩ := nI_of h0
    exact ⟨j, (nI_ltI hj h).mp h4, rfl⟩
  · rintro ⟨j, h3, rfl⟩
    exact ⟨nI_pos' (by omega), (nI_ltI (by omega) h).mpr h3⟩
theorem zI_zB {N : Nat} {p : Int32} (h : 0 < N) : zI N p ↔ zB 0 (N - 1) p := by
  constructor
  · rintro ⟨j, h1, h2⟩; exact ⟨j, by omega, by omega, h2⟩
  · rintro ⟨j, -, h1, h2⟩; exact ⟨j, by omega, h2⟩
/-- the state's bounds: of a site, of its contracts, of a case; in all -/
def zSi (M : Nat → Nat → Nat) (i : Nat) : Prop := M 1 i < 128 ∧ M 2 i ≤ M 3 i ∧ M 3 i ≤ 23 ∧ M 7 i ≤ 8
def zCo (M : Nat → Nat → Nat) (i : Nat) : Prop := ∀ j, j < M 7 i → M 4 (8 * i + j) < 16 ∧ M 5 (8 * i + j) ≤ 1000 ∧ M 6 (8 * i + j) ≤ 1000
def zCa (M : Nat → Nat → Nat) (c : Nat) : Prop := M 9 c < 4 ∧ M 10 c < 4 ∧ M 11 c < 3 ∧ M 12 c < 3 ∧ M 13 c ≤ M 0 1 ∧ M 14 c ≤ 1 ∧ M 16 c ≤ 3
def zPr (M : Nat → Nat → Nat) : Prop := ∀ j, j < 9 → 1 ≤ M 8 j ∧ M 8 j ≤ 1000
def zInv (M : Nat → Nat → Nat) : Prop :=
  M 0 0 ≤ 24000 ∧ M 0 1 ≤ 40 ∧ (∀ i, i < 4 → zSi M i ∧ zCo M i) ∧ zPr M ∧ (∀ c, c < M 0 1 → zCa M c) ∧ (∀ x, x < 120 → M 15 x ≤ M 0 0) ∧
  (∀ c, c < 40 → M 0 1 ≤ c → M 14 c = 0 ∧ M 16 c = 0 ∧ ∀ s, s < 3 → M 15 (3 * c + s) = 0)
def cov (M : Nat → Nat → Nat) (i kd d : Nat) : Prop := ∃ j, j < M 7 i ∧ (M 4 (8 * i + j)).testBit kd = true ∧ M 5 (8 * i + j) ≤ d ∧ d ≤ M 6 (8 * i + j)
def hrB (M : Nat → Nat → Nat) (i h : Nat) : Bool := (M 1 i).testBit (h / 24 % 7) && (decide (M 2 i ≤ h % 24) && decide (h % 24 ≤ M 3 i))
def hN (M : Nat → Nat → Nat) (i : Nat) : Nat → Nat
  | 0 => 0
  | h + 1 => hN M i h + (if hrB M i h = true then 1 else 0)
theorem hN_le (M : Nat → Nat → Nat) (i : Nat) : ∀ h, hN M i h ≤ h
  | 0 => Nat.le_refl 0
  | h + 1 => by
    have := hN_le M i h
    unfold hN
    by_cases q : hrB M i h = true
    · rw [if_pos q]; omega
    · rw [if_neg q]; omega
theorem hN_mono (M : Nat → Nat → Nat) (i a : Nat) : ∀ n, hN M i a ≤ hN M i (a + n) ∧ hN M i (a + n) ≤ hN M i a + n
  | 0 => ⟨Nat.le_refl _, Nat.le_refl _⟩
  | n + 1 => by
    have := hN_mono M i a n
    have e : hN M i (a + (n + 1)) = hN M i (a + n) + (if hrB M i (a + n) = true then 1 else 0) := rfl
    rw [e]
    by_cases q : hrB M i (a + n) = true
    · rw [if_pos q]; omega
    · rw [if_neg q]; omega
def pc7 (d : Nat) : Nat := (d.testBit 0).toNat + (d.testBit 1).toNat + (d.testBit 2).toNat + (d.testBit 3).toNat + (d.testBit 4).toNat + (d.testBit 5).toNat + (d.testBit 6).toNat
theorem pc7_0 : pc7 0 = 0 := by decide +kernel
theorem pc7_s : ∀ D, D < 128 → ∀ w, w < 7 → pc7 (D % 2 ^ (w + 1)) = pc7 (D % 2 ^ w) + (D.testBit w).toNat := by decide +kernel
theorem pc7_7 : ∀ D, D < 128 → pc7 (D % 2 ^ 7) = pc7 D := by decide +kernel
theorem pc7_le : ∀ D, D < 128 → pc7 D ≤ 7 := by decide +kernel
def wk (D day : Nat) : Nat := day / 7 * pc7 D + pc7 (D % 2 ^ (day % 7))
theorem wk_s {D : Nat} (hD : D < 128) (d : Nat) : wk D (d + 1) = wk D d + (D.testBit (d % 7)).toNat := by
  unfold wk
  by_cases h : d % 7 = 6
  · have h1 : (d + 1) / 7 = d / 7 + 1 := by omega
    have h2 : (d + 1) % 7 = 0 := by omega
    have h3 := pc7_s D hD 6 (by omega)
    rw [pc7_7 D hD] at h3
    rw [h1, h2, h, Nat.add_mul, Nat.one_mul, h3, Nat.pow_zero, Nat.mod_one, pc7_0]
    omega
  · have h1 : (d + 1) / 7 = d / 7 := by omega
    have h2 : (d + 1) % 7 = d % 7 + 1 := by omega
    rw [h1, h2, pc7_s D hD (d % 7) (by omega)]
    omega
theorem hN_closed {M : Nat → Nat → Nat} {i : Nat} (hD : M 1 i < 128) (hf : M 2 i ≤ M 3 i) (hl : M 3 i ≤ 23) : ∀ e, hN M i e = wk (M 1 i) (e / 24) * (M 3 i - M 2 i + 1) + (if (M 1 i).testBit (e / 24 % 7) = true then min (e % 24 - M 2 i) (M 3 i - M 2 i + 1) else 0)
  | 0 => by
    unfold hN wk
    simp [pc7_0, Nat.mod_one]
  | e + 1 => by
    have ih := hN_closed hD hf hl e
    show hN M i e + (if hrB M i e = true then 1 else 0) = _
    rw [ih]
    unfold hrB
    generalize hn : M 3 i - M 2 i + 1 = n
    generalize hw : wk (M 1 i) (e / 24) = w
    by_cases h : e % 24 = 23
    · have h1 : (e + 1) / 24 = e / 24 + 1 := by omega
      have h2 : (e + 1) % 24 = 0 := by omega
      rw [h1, h2, wk_s hD, hw, h, Nat.zero_sub, Nat.zero_min, ite_self, Nat.add_zero, Nat.add_mul]
      cases hb1 : (M 1 i).testBit (e / 24 % 7) with
      | false => simp
      | true =>
        by_cases h3 : M 3 i = 23
        · have h4 : M 2 i ≤ 23 := by omega
          have h5 : 23 ≤ M 3 i := by omega
          simp [h4, h5]
          omega
        · have h5 : ¬ 23 ≤ M 3 i := by omega
          simp [h5]
          omega
    · have h1 : (e + 1) / 24 = e / 24 := by omega
      have h2 : (e + 1) % 24 = e % 24 + 1 := by omega
      rw [h1, h2, hw]
      cases hb1 : (M 1 i).testBit (e / 24 % 7) with
      | false => simp
      | true =>
        by_cases h3 : M 2 i ≤ e % 24
        · by_cases h4 : e % 24 ≤ M 3 i
          · simp [h3, h4]; omega
          · simp [h3, h4]; omega
        · simp [h3]; omega
/-! bits of small numbers -/
theorem bit_shr : ∀ D, D < 128 → ∀ w, w < 7 → (nI D >>> (nI w &&& 31)) &&& nI 1 = nI ((D.testBit w).toNat) := by decide +kernel
theorem bit_and : ∀ D, D < 128 → ∀ w, w < 7 → nI D &&& ((nI 1 <<< (nI w &&& 31)) - nI 1) = nI (D % 2 ^ w) := by decide +kernel
theorem bit_b {b : Bool} : nI b.toNat = bI (b = true) := by
  cases b
  · exact (bI_f (by decide)).symm
  · exact (bI_t rfl).symm
def mN (M : Nat → Nat → Nat) (c : Nat) : Nat → Nat
  | 0 => 0
  | s + 1 => mN M c s + (if s < M 16 c ∧ M 8 (3 * M 11 c + s) < M 15 (3 * c + s) then 1 else 0)
theorem mN_le (M : Nat → Nat → Nat) (c : Nat) : ∀ s, mN M c s ≤ s
  | 0 => Nat.le_refl 0
  | s + 1 => by
    have := mN_le M c s
    unfold mN
    by_cases q : s < M 16 c ∧ M 8 (3 * M 11 c + s) < M 15 (3 * c + s)
    · rw [if_pos q]; omega
    · rw [if_neg q]; omega
def stp (M : Nat → Nat → Nat) (c s : Nat) : Nat :=
  if s < M 16 c then 0 else if 100 * M 8 (3 * M 11 c + s) < 100 * M 15 (3 * c + s) then 3 else if 75 * M 8 (3 * M 11 c + s) ≤ 100 * M 15 (3 * c + s) then 2 else if 50 * M 8 (3 * M 11 c + s) ≤ 100 * M 15 (3 * c + s) then 1 else 0
theorem stp_le (M : Nat → Nat → Nat) (c s : Nat) : stp M c s ≤ 3 := by
  unfold stp
  repeat' split
  all_goals omega
def gS (M : Nat → Nat → Nat) (c : Nat) : Nat → Nat
  | 0 => 0
  | s + 1 => max (gS M c s) (stp M c s)
theorem gS_le (M : Nat → Nat → Nat) (c : Nat) : ∀ s, gS M c s ≤ 3
  | 0 => Nat.zero_le 3
  | s + 1 => by
    have := gS_le M c s
    have := stp_le M c s
    unfold gS
    omega
def jN (M : Nat → Nat → Nat) (h : Nat) : Nat → Nat
  | 0 => 0
  | c + 1 => jN M h c + (if M 12 c = 1 ∧ M 13 c = h + 1 then 1 else 0)
theorem jN_le (M : Nat → Nat → Nat) (h : Nat) : ∀ c, jN M h c ≤ c
  | 0 => Nat.le_refl 0
  | c + 1 => by
    have := jN_le M h c
    unfold jN
    by_cases q : M 12 c = 1 ∧ M 13 c = h + 1
    · rw [if_pos q]; omega
    · rw [if_neg q]; omega
def uB (M : Nat → Nat → Nat) : Nat → Nat
  | 0 => 0
  | c + 1 => if (M 12 c = 0 ∧ M 14 c = 0) ∧ (uB M c = 0 ∨ gS M (uB M c - 1) 3 < gS M c 3 ∨ (gS M (uB M c - 1) 3 = gS M c 3 ∧ M 11 (uB M c - 1) < M 11 c)) then c + 1 else uB M c
theorem uB_le (M : Nat → Nat → Nat) : ∀ c, uB M c ≤ c
  | 0 => Nat.le_refl 0
  | c + 1 => by
    have := uB_le M c
    unfold uB
    split <;> omega
/-- the clock of the stage s of the case c, when the time goes from a to b -/
def rkv (M : Nat → Nat → Nat) (a b c s : Nat) : Nat := if (M 12 c = 0 ∧ M 14 c = 0) ∧ ¬ s < M 16 c then M 15 (3 * c + s) + (hN M (M 9 c) b - hN M (M 9 c) a) else M 15 (3 * c + s)
/-- .. of the case c alone; of the first n cases -/
def rk1 (M : Nat → Nat → Nat) (a b c : Nat) : Nat → Nat → Nat := fun r x => if r = 15 ∧ x / 3 = c then rkv M a b c (x % 3) else M r x
def rkM (M : Nat → Nat → Nat) (a b n : Nat) : Nat → Nat → Nat := fun r x => if r = 15 ∧ x / 3 < n then rkv M a b (x / 3) (x % 3) else M r x
/-- the first n cases that are joined to c are closed -/
def clM (M : Nat → Nat → Nat) (c n : Nat) : Nat → Nat → Nat := fun r x => if r = 12 ∧ x < n ∧ M 12 x = 1 ∧ M 13 x = c + 1 then 2 else M r x
