/-! THE STATE: M r i, a table of naturals; O r i, two rows of ints (0: hours ahead, 1: cents owed).
M 0 0 now, M 0 1 how many cases; of the site i: 1 days, 2 first, 3 last, 7 how many contracts; 4, 5, 6 its contracts' kinds, from, to, at 8 i + j; 8 promises (3 gravity + stage);
of the case c: 9 site, 10 kind, 11 gravity, 12 state, 13 head (0 none, else its number + 1), 14 rests, 15 its clocks, at 3 c + stage, 16 how many stages are reached. -/
def zu (M : Nat → Nat → Nat) (r i v : Nat) : Nat → Nat → Nat := fun a b => if a = r ∧ b = i then v else M a b
def zo (O : Nat → Nat → Int32) (r i : Nat) (v : Int32) : Nat → Nat → Int32 := fun a b => if a = r ∧ b = i then v else O a b
theorem zu_s (M : Nat → Nat → Nat) (r i v : Nat) : zu M r i v r i = v := by simp [zu]
theorem zu_r (M : Nat → Nat → Nat) {r a : Nat} (i v b : Nat) (h : a ≠ r) : zu M r i v a b = M a b := by simp [zu, h]
theorem zu_i (M : Nat → Nat → Nat) (r v a : Nat) {i b : Nat} (h : b ≠ i) : zu M r i v a b = M a b := by simp [zu, h]
theorem zo_s (O : Nat → Nat → Int32) (r i : Nat) (v : Int32) : zo O r i v r i = v := by simp [zo]
theorem zo_r (O : Nat → Nat → Int32) {r a : Nat} (i : Nat) (v : Int32) (b : Nat) (h : a ≠ r) : zo O r i v a b = O a b := by simp [zo, h]
theorem zo_i (O : Nat → Nat → Int32) (r : Nat) (v : Int32) (a : Nat) {i b : Nat} (h : b ≠ i) : zo O r i v a b = O a b := by simp [zo, h]
noncomputable def bI (P : Prop) : Int32 := @ite _ P (Classical.propDecidable P) 1 0
theorem bI_t {P : Prop} (h : P) : bI P = 1 := by unfold bI; exact if_pos h
theorem bI_f {P : Prop} (h : ¬ P) : bI P = 0 := by unfold bI; exact if_neg h
theorem bI_c {P Q : Prop} (h : P ↔ Q) : bI P = bI Q := by rw [propext h]
theorem bI_01 (P : Prop) : bI P = 0 ∨ bI P = 1 := by
  by_cases h : P
  · exact Or.inr (bI_t h)
  · exact Or.inl (bI_f h)
theorem bI_0 {P : Prop} : bI P = 0 ↔ ¬ P := by
  by_cases h : P
  · rw [bI_t h]; exact ⟨fun z => absurd z (by decide), fun z => absurd h z⟩
  · rw [bI_f h]; exact ⟨fun _ => h, fun _ => rfl⟩
theorem bI_n {P : Prop} : narrow .boolean (.int (bI P)) = .int (bI P) := by
  rcases bI_01 P with h | h <;> rw [h] <;> rfl
theorem bI_v {P : Prop} : vp_nar .boolean (bI P) = bI P := by
  rcases bI_01 P with h | h <;> rw [h] <;> rfl
theorem bI_fit {P : Prop} : fits .boolean (.int (bI P)) = true := by
  rcases bI_01 P with h | h <;> rw [h] <;> rfl
def hdI (x : Nat) : Int32 := if x = 0 then -1 else nI (x - 1)
def hdR (ad : Nat → Nat) (x : Nat) : Option Nat := if x = 0 then none else some (ad (20 + 2 * (x - 1)))
abbrev dObj (ad : Nat → Nat) (M : Nat → Nat → Nat) : List Value := [.ref (ad 1), .ref (ad 2), .ref (ad 3), .int (nI (M 0 1)), .int (nI (M 0 0))]
abbrev sObj (ad : Nat → Nat) (M : Nat → Nat → Nat) (O : Nat → Nat → Int32) (i : Nat) : List Value := [.int (nI (M 1 i)), .int (nI (M 2 i)), .int (nI (M 3 i)), .ref (ad (5 + 4 * i)), .ref (ad (6 + 4 * i)), .ref (ad (7 + 4 * i)), .int (nI (M 7 i)), .int (O 0 i), .int (O 1 i)]
abbrev cObj (ad : Nat → Nat) (M : Nat → Nat → Nat) (c : Nat) : List Value := [.ref (ad (4 + 4 * M 9 c)), .int (nI (M 10 c)), .int (nI (M 11 c)), .int (nI (M 12 c)), .int (nI (M 14 c)), va_rf (hdR ad (M 13 c)), .int (nI (M 16 c)), .ref (ad (21 + 2 * c))]
/-- a row of the table, from b on, w places long -/
def rw0 (M : Nat → Nat → Nat) (r b w : Nat) : Nat → Int32 := fun j => if j < w then nI (M r (b + j)) else 0
theorem rw0_at {M : Nat → Nat → Nat} {r b w j : Nat} (h : j < w) : rw0 M r b w j = nI (M r (b + j)) := by unfold rw0; rw [if_pos h]
theorem rw0_at0 {M : Nat → Nat → Nat} {r w j : Nat} (h : j < w) : rw0 M r 0 w j = nI (M r j) := by rw [rw0_at h, Nat.zero_add]
theorem rw0_cg {M M' : Nat → Nat → Nat} {r b w : Nat} (h : ∀ j, j < w → M' r (b + j) = M r (b + j)) : rw0 M' r b w = rw0 M r b w := by
  funext j
  unfold rw0
  by_cases hj : j < w
  · rw [if_pos hj, if_pos hj, h j hj]
  · rw [if_neg hj, if_neg hj]
theorem rw0_up {M : Nat → Nat → Nat} {r b w j v : Nat} (h : j < w) : upd (rw0 M r b w) j (nI v) = rw0 (zu M r (b + j) v) r b w := by
  funext x
  unfold rw0 upd
  by_cases hx : x = j
  · subst hx
    rw [if_pos rfl, if_pos h, zu_s]
  · rw [if_neg hx]
    show (if x < w then nI (M r (b + x)) else 0) = _
    by_cases hw : x < w
    · rw [if_pos hw, if_pos hw, zu_i _ _ _ _ (by omega)]
    · rw [if_neg hw, if_neg hw]
/-- the class's world: 0 the desk, 1 sites, 2 promises, 3 cases; 4 + 4 i the site i, its three rows behind it; 20 + 2 c the case c, its clocks behind it -/
def cX (k : Nat → ClassId) (ad : Nat → Nat) (M : Nat → Nat → Nat) (O : Nat → Nat → Int32) (q : Nat) : va_E :=
  if q = 0 then .inr (2, dObj ad M)
  else if q = 1 then .inl (k 2, 4, .inr (.inr (.inr (.inr (fun i => some (ad (4 + 4 * i)))))))
  else if q = 2 then .inl (k 0, 9, .inl (rw0 M 8 0 9))
  else if q = 3 then .inl (k 3, 40, .inr (.inr (.inr (.inr (fun c => if c < M 0 1 then some (ad (20 + 2 * c)) else none)))))
  else if q < 20 then (if q % 4 = 0 then .inr (1, sObj ad M O ((q - 4) / 4)) else .inl (k 0, 8, .inl (rw0 M (4 + (q % 4 - 1)) (8 * ((q - 4) / 4)) 8)))
  else if q % 2 = 0 then .inr (0, cObj ad M ((q - 20) / 2))
  else .inl (k 0, 3, .inl (rw0 M 15 (3 * ((q - 20) / 2)) 3))
abbrev nX (M : Nat → Nat → Nat) : Nat := 20 + 2 * M 0 1
section ST
variable {k : Nat → ClassId} {ad bd : Nat → Nat} {M M' : Nat → Nat → Nat} {O O' : Nat → Nat → Int32}
theorem cX_0 : cX k ad M O 0 = .inr (2, dObj ad M) := rfl
theorem cX_1 : cX k ad M O 1 = .inl (k 2, 4, .inr (.inr (.inr (.inr (fun i => some (ad (4 + 4 * i))))))) := rfl
theorem cX_2 : cX k ad M O 2 = .inl (k 0, 9, .inl (rw0 M 8 0 9)) := rfl
theorem cX_3 : cX k ad M O 3 = .inl (k 3, 40, .inr (.inr (.inr (.inr (fun c => if c < M 0 1 then some (ad (20 + 2 * c)) else none))))) := rfl
theorem cX_s {i : Nat} (hi : i < 4) : cX k ad M O (4 + 4 * i) = .inr (1, sObj ad M O i) := by
  unfold cX
  rw [if_neg (by omega), if_neg (by omega), if_neg (by omega), if_neg (by omega), if_pos (by omega), if_pos (by omega), show (4 + 4 * i - 4) / 4 = i by omega]
theorem cX_a {i r : Nat} (hi : i < 4) (hr : r < 3) : cX k ad M O (5 + r + 4 * i) = .inl (k 0, 8, .inl (rw0 M (4 + r) (8 * i) 8)) := by
  unfold cX
  rw [if_neg (by omega), if_neg (by omega), if_neg (by omega), if_neg (by omega), if_pos (by omega), if_neg (by omega), show (5 + r + 4 * i - 4) / 4 = i by omega, show (5 + r + 4 * i) % 4 - 1 = r by omega]
theorem cX_a0 {i : Nat} (hi : i < 4) : cX k ad M O (5 + 4 * i) = .inl (k 0, 8, .inl (rw0 M 4 (8 * i) 8)) := cX_a (r := 0) hi (by decide)
theorem cX_a1 {i : Nat} (hi : i < 4) : cX k ad M O (6 + 4 * i) = .inl (k 0, 8, .inl (rw0 M 5 (8 * i) 8)) := cX_a (r := 1) hi (by decide)
theorem cX_a2 {i : Nat} (hi : i < 4) : cX k ad M O (7 + 4 * i) = .inl (k 0, 8, .inl (rw0 M 6 (8 * i) 8)) := cX_a (r := 2) hi (by decide)
theorem cX_c {c : Nat} : cX k ad M O (20 + 2 * c) = .inr (0, cObj ad M c) := by
  unfold cX
  rw [if_neg (by omega), if_neg (by omega), if_neg (by omega), if_neg (by omega), if_neg (by omega), if_pos (by omega), show (20 + 2 * c - 20) / 2 = c by omega]
theorem cX_k {c : Nat} : cX k ad M O (21 + 2 * c) = .inl (k 0, 3, .inl (rw0 M 15 (3 * c) 3)) := by
  unfold cX
  rw [if_neg (by omega), if_neg (by omega), if_neg (by omega), if_neg (by omega), if_neg (by omega), if_neg (by omega), show (21 + 2 * c - 20) / 2 = c by omega]
theorem cX_cg (q : Nat) (h0 : q = 0 → M' 0 0 = M 0 0 ∧ M' 0 1 = M 0 1) (h2 : q = 2 → ∀ j, j < 9 → M' 8 j = M 8 j) (h3 : q = 3 → M' 0 1 = M 0 1)
    (hs : ∀ i, i < 4 → q = 4 + 4 * i → M' 1 i = M 1 i ∧ M' 2 i = M 2 i ∧ M' 3 i = M 3 i ∧ M' 7 i = M 7 i ∧ O' 0 i = O 0 i ∧ O' 1 i = O 1 i)
    (ha : ∀ i r, i < 4 → r < 3 → q = 5 + r + 4 * i → ∀ j, j < 8 → M' (4 + r) (8 * i + j) = M (4 + r) (8 * i + j))
    (hc : ∀ c, q = 20 + 2 * c → M' 9 c = M 9 c ∧ M' 10 c = M 10 c ∧ M' 11 c = M 11 c ∧ M' 12 c = M 12 c ∧ M' 13 c = M 13 c ∧ M' 14 c = M 14 c ∧ M' 16 c = M 16 c)
    (hk : ∀ c, q = 21 + 2 * c → ∀ j, j < 3 → M' 15 (3 * c + j) = M 15 (3 * c + j)) : cX k ad M' O' q = cX k ad M O q := by
  by_cases q0 : q = 0
  · subst q0
    obtain ⟨e1, e2⟩ := h0 rfl
    rw [cX_0, cX_0, dObj, dObj, e1, e2]
  by_cases q1 : q = 1
  · subst q1; rfl
  by_cases q2 : q = 2
  · subst q2
    rw [cX_2, cX_2, rw0_cg (M := M) (M' := M') (fun j hj => by rw [Nat.zero_add]; exact h2 rfl j hj)]
  by_cases q3 : q = 3
  · subst q3
    rw [cX_3, cX_3]
    simp only [h3 rfl]
  by_cases q4 : q < 20
  · by_cases q5 : q % 4 = 0
    · obtain ⟨i, hi, rfl⟩ : ∃ i, i < 4 ∧ q = 4 + 4 * i := ⟨(q - 4) / 4, by omega, by omega⟩
      obtain ⟨e1, e2, e3, e4, e5, e6⟩ := hs i hi rfl
      rw [cX_s hi, cX_s hi, sObj, sObj, e1, e2, e3, e4, e5, e6]
    · obtain ⟨i, r, hi, hr, rfl⟩ : ∃ i r, i < 4 ∧ r < 3 ∧ q = 5 + r + 4 * i := ⟨(q - 4) / 4, q % 4 - 1, by omega, by omega, by omega⟩
      rw [cX_a hi hr, cX_a hi hr, rw0_cg (ha i r hi hr rfl)]
  by_cases q5 : q % 2 = 0
  · obtain ⟨c, rfl⟩ : ∃ c, q = 20 + 2 * c := ⟨(q - 20) / 2, by omega⟩
    obtain ⟨e1, e2, e3, e4, e5, e6, e7⟩ := hc c rfl
    rw [cX_c, cX_c, cObj, cObj, e1, e2, e3, e4, e5, e6, e7]
  · obtain ⟨c, rfl⟩ : ∃ c, q = 21 + 2 * c := ⟨(q - 20) / 2, by omega⟩
    rw [cX_k, cX_k, rw0_cg (hk c rfl)]
theorem cX_up {q0 : Nat} {e : va_E} (he : cX k ad M' O' q0 = e) (hs : ∀ q, q ≠ q0 → cX k ad M' O' q = cX k ad M O q) : va_up (cX k ad M O) q0 e = cX k ad M' O' := by
  funext q
  by_cases h : q = q0
  · subst h; rw [va_up_self, he]
  · rw [va_up_ne _ _ h, hs q h]
theorem cX_udays {i : Nat} (hi : i < 4) (v : Nat) : va_up (cX k ad M O) (4 + 4 * i) (.inr (1, (sObj ad M O i).set 0 (.int (nI v)))) = cX k ad (zu M 1 i v) (O) := by
  refine cX_up ((cX_s hi).trans (by simp [zu])) (fun q hq => cX_cg q ?_ ?_ ?_ ?_ ?_ ?_ ?_)
  · intro _
    simp [zu]
  · intro _ j _
    simp [zu]
  · intro _
    simp [zu]
  · intro i' _ h'
    have hne : i' ≠ i := by omega
    simp [zu, hne]
  · intro i' r' _ _ _ j' _
    have hne : 4 + r' ≠ 1 := by omega
    simp [zu, hne]
  · intro c' _
    simp [zu]
  · intro c' _ j' _
    simp [zu]
theorem cX_ufirst {i : Nat} (hi : i < 4) (v : Nat) : va_up (cX k ad M O) (4 + 4 * i) (.inr (1, (sObj ad M O i).set 1 (.int (nI v)))) = cX k ad (zu M 2 i v) (O) := by
  refine cX_up ((cX_s hi).trans (by simp [zu])) (fun q hq => cX_cg q ?_ ?_ ?_ ?_ ?_ ?_ ?_)
  · intro _
    simp [zu]
  · intro _ j _
    simp [zu]
  · intro _
    simp [zu]
  · intro i' _ h'
    have hne : i' ≠ i := by omega
    simp [zu, hne]
  · intro i' r' _ _ _ j' _
    have hne : 4 + r' ≠ 2 := by omega
    simp [zu, hne]
  · intro c' _
    simp [zu]
  · intro c' _ j' _
    simp [zu]
theorem cX_ulast {i : Nat} (hi : i < 4) (v : Nat) : va_up (cX k ad M O) (4 + 4 * i) (.inr (1, (sObj ad M O i).set 2 (.int (nI v)))) = cX k ad (zu M 3 i v) (O) := by
  refine cX_up ((cX_s hi).trans (by simp [zu])) (fun q hq => cX_cg q ?_ ?_ ?_ ?_ ?_ ?_ ?_)
  · intro _
    simp [zu]
  · intro _ j _
    simp [zu]
  · intro _
    simp [zu]
  · intro i' _ h'
    have hne : i' ≠ i := by omega
    simp [zu, hne]
  · intro i' r' _ _ _ j' _
    have hne : 4 + r' ≠ 3 := by omega
    simp [zu, hne]
  · intro c' _
    simp [zu]
  · intro c' _ j' _
    simp [zu]
theorem cX_ucc {i : Nat} (hi : i < 4) (v : Nat) : va_up (cX k ad M O) (4 + 4 * i) (.inr (1, (sObj ad M O i).set 6 (.int (nI v)))) = cX k ad (zu M 7 i v) (O) := by
  refine cX_up ((cX_s hi).trans (by simp [zu])) (fun q hq => cX_cg q ?_ ?_ ?_ ?_ ?_ ?_ ?_)
  · intro _
    simp [zu]
  · intro _ j _
    simp [zu]
  · intro _
    simp [zu]
  · intro i' _ h'
    have hne : i' ≠ i := by omega
    simp [zu, hne]
  · intro i' r' _ _ _ j' _
    have hne : 4 + r' ≠ 7 := by omega
    simp [zu, hne]
  · intro c' _
    simp [zu]
  · intro c' _ j' _
    simp [zu]
theorem cX_uahead {i : Nat} (hi : i < 4) (v : Int32) : va_up (cX k ad M O) (4 + 4 * i) (.inr (1, (sObj ad M O i).set 7 (.int v))) = cX k ad (M) (zo O 0 i v) := by
  refine cX_up ((cX_s hi).trans (by simp [zo])) (fun q hq => cX_cg q ?_ ?_ ?_ ?_ ?_ ?_ ?_)
  · intro _
    simp [zu, zo]
  · intro _ j _
    simp [zu, zo]
  · intro _
    simp [zu, zo]
  · intro i' _ h'
    have hne : i' ≠ i := by omega
    simp [zu, zo, hne]
  · intro i' r' _ _ _ j' _; rfl
  · intro c' _
    simp [zu, zo]
  · intro c' _ j' _
    simp [zu, zo]
theorem cX_uowes {i : Nat} (hi : i < 4) (v : Int32) : va_up (cX k ad M O) (4 + 4 * i) (.inr (1, (sObj ad M O i).set 8 (.int v))) = cX k ad (M) (zo O 1 i v) := by
  refine cX_up ((cX_s hi).trans (by simp [zo])) (fun q hq => cX_cg q ?_ ?_ ?_ ?_ ?_ ?_ ?_)
  · intro _
    simp [zu, zo]
  · intro _ j _
    simp [zu, zo]
  · intro _
    simp [zu, zo]
  · intro i' _ h'
    have hne : i' ≠ i := by omega
    simp [zu, zo, hne]
  · intro i' r' _ _ _ j' _; rfl
  · intro c' _
    simp [zu, zo]
  · intro c' _ j' _
    simp [zu, zo]
theorem cX_ugrav {c : Nat} (v : Nat) : va_up (cX k ad M O) (20 + 2 * c) (.inr (0, (cObj ad M c).set 2 (.int (nI v)))) = cX k ad (zu M 11 c v) O := by
  refine cX_up (cX_c.trans (by simp [zu])) (fun q hq => cX_cg q ?_ ?_ ?_ ?_ ?_ ?_ ?_)
  · intro _
    simp [zu]
  · intro _ j _
    simp [zu]
  · intro _
    simp [zu]
  · intro i' _ _
    simp [zu]
  · intro i' r' _ _ _ j' _
    have hne : 4 + r' ≠ 11 := by omega
    simp [zu, hne]
  · intro c' h'
    have hne : c' ≠ c := by omega
    simp [zu, hne]
  · intro c' _ j' _
    simp [zu]
theorem cX_ustate {c : Nat} (v : Nat) : va_up (cX k ad M O) (20 + 2 * c) (.inr (0, (cObj ad M c).set 3 (.int (nI v)))) = cX k ad (zu M 12 c v) O := by
  refine cX_up (cX_c.trans (by simp [zu])) (fun q hq => cX_cg q ?_ ?_ ?_ ?_ ?_ ?_ ?_)
  · intro _
    simp [zu]
  · intro _ j _
    simp [zu]
  · intro _
    simp [zu]
  · intro i' _ _
    simp [zu]
  · intro i' r' _ _ _ j' _
    have hne : 4 + r' ≠ 12 := by omega
    simp [zu, hne]
  · intro c' h'
    have hne : c' ≠ c := by omega
    simp [zu, hne]
  · intro c' _ j' _
    simp [zu]
theorem cX_urests {c : Nat} (v : Nat) : va_up (cX k ad M O) (20 + 2 * c) (.inr (0, (cObj ad M c).set 4 (.int (nI v)))) = cX k ad (zu M 14 c v) O := by
  refine cX_up (cX_c.trans (by simp [zu])) (fun q hq => cX_cg q ?_ ?_ ?_ ?_ ?_ ?_ ?_)
  · intro _
    simp [zu]
  · intro _ j _
    simp [zu]
  · intro _
    simp [zu]
  · intro i' _ _
    simp [zu]
  · intro i' r' _ _ _ j' _
    have hne : 4 + r' ≠ 14 := by omega
    simp [zu, hne]
  · intro c' h'
    have hne : c' ≠ c := by omega
    simp [zu, hne]
  · intro c' _ j' _
    simp [zu]
theorem cX_usr {c : Nat} (v : Nat) : va_up (cX k ad M O) (20 + 2 * c) (.inr (0, (cObj ad M c).set 6 (.int (nI v)))) = cX k ad (zu M 16 c v) O := by
  refine cX_up (cX_c.trans (by simp [zu])) (fun q hq => cX_cg q ?_ ?_ ?_ ?_ ?_ ?_ ?_)
  · intro _
    simp [zu]
  · intro _ j _
    simp [zu]
  · intro _
    simp [zu]
  · intro i' _ _
    simp [zu]
  · intro i' r' _ _ _ j' _
    have hne : 4 + r' ≠ 16 := by omega
    simp [zu, hne]
  · intro c' h'
    have hne : c' ≠ c := by omega
    simp [zu, hne]
  · intro c' _ j' _
    simp [zu]
theorem cX_uhead {c : Nat} (v : Nat) : va_up (cX k ad M O) (20 + 2 * c) (.inr (0, (cObj ad M c).set 5 (va_rf (hdR ad v)))) = cX k ad (zu M 13 c v) O := by
  refine cX_up (cX_c.trans (by simp [zu])) (fun q hq => cX_cg q ?_ ?_ ?_ ?_ ?_ ?_ ?_)
  · intro _
    simp [zu]
  · intro _ j _
    simp [zu]
  · intro _
    simp [zu]
  · intro i' _ _
    simp [zu]
  · intro i' r' _ _ _ j' _
    have hne : 4 + r' ≠ 13 := by omega
    simp [zu, hne]
  · intro c' h'
    have hne : c' ≠ c := by omega
    simp [zu, hne]
  · intro c' _ j' _
    simp [zu]
theorem cX_unow (v : Nat) : va_up (cX k ad M O) 0 (.inr (2, (dObj ad M).set 4 (.int (nI v)))) = cX k ad (zu M 0 0 v) O := by
  refine cX_up (cX_0.trans (by simp [zu])) (fun q hq => cX_cg q ?_ ?_ ?_ ?_ ?_ ?_ ?_)
  · intro h; exact absurd h hq
  · intro _ j _
    simp [zu]
  · intro _
    simp [zu]
  · intro i' _ _
    simp [zu]
  · intro i' r' _ _ _ j' _
    have hne : 4 + r' ≠ 0 := by omega
    simp [zu, hne]
  · intro c' _
    simp [zu]
  · intro c' _ j' _
    simp [zu]
theorem cX_uprom {j : Nat} (hj : j < 9) (v : Nat) : va_up (cX k ad M O) 2 (.inl (k 0, 9, .inl (upd (rw0 M 8 0 9) j (nI v)))) = cX k ad (zu M 8 j v) O := by
  refine cX_up (cX_2.trans (by rw [rw0_up hj, Nat.zero_add])) (fun q hq => cX_cg q ?_ ?_ ?_ ?_ ?_ ?_ ?_)
  · intro _
    simp [zu]
  · intro h; exact absurd h hq
  · intro _
    simp [zu]
  · intro i' _ _
    simp [zu]
  · intro i' r' _ _ _ j' _
    have hne : 4 + r' ≠ 8 := by omega
    simp [zu, hne]
  · intro c' _
    simp [zu]
  · intro c' _ j' _
    simp [zu]
theorem cX_ucon {i r j : Nat} (hi : i < 4) (hr : r < 3) (hj : j < 8) (v : Nat) : va_up (cX k ad M O) (5 + r + 4 * i) (.inl (k 0, 8, .inl (upd (rw0 M (4 + r) (8 * i) 8) j (nI v)))) = cX k ad (zu M (4 + r) (8 * i + j) v) O := by
  refine cX_up ((cX_a hi hr).trans (by rw [rw0_up hj])) (fun q hq => cX_cg q ?_ ?_ ?_ ?_ ?_ ?_ ?_)
  · intro _
    have hne : ∀ x, x < 4 ∨ 6 < x → x ≠ 4 + r := by omega
    simp [zu, hne 0 (by omega)]
  · intro _ j _
    have hne : ∀ x, x < 4 ∨ 6 < x → x ≠ 4 + r := by omega
    simp [zu, hne 8 (by omega)]
  · intro _
    have hne : ∀ x, x < 4 ∨ 6 < x → x ≠ 4 + r := by omega
    simp [zu, hne 0 (by omega)]
  · intro i' _ _
    have hne : ∀ x, x < 4 ∨ 6 < x → x ≠ 4 + r := by omega
    simp [zu, hne 1 (by omega), hne 2 (by omega), hne 3 (by omega), hne 7 (by omega)]
  · intro i' r' _ _ _ j' _
    have hne : ¬ (4 + r' = 4 + r ∧ 8 * i' + j' = 8 * i + j) := by omega
    simp only [zu, if_neg hne]
  · intro c' _
    have hne : ∀ x, x < 4 ∨ 6 < x → x ≠ 4 + r := by omega
    simp [zu, hne 9 (by omega), hne 10 (by omega), hne 11 (by omega), hne 12 (by omega), hne 13 (by omega), hne 14 (by omega), hne 16 (by omega)]
  · intro c' _ j' _
    have hne : ∀ x, x < 4 ∨ 6 < x → x ≠ 4 + r := by omega
    simp [zu, hne 15 (by omega)]
theorem cX_ucon0 {i j : Nat} (hi : i < 4) (hj : j < 8) (v : Nat) : va_up (cX k ad M O) (5 + 4 * i) (.inl (k 0, 8, .inl (upd (rw0 M 4 (8 * i) 8) j (nI v)))) = cX k ad (zu M 4 (8 * i + j) v) O := cX_ucon (r := 0) hi (by decide) hj v
theorem cX_ucon1 {i j : Nat} (hi : i < 4) (hj : j < 8) (v : Nat) : va_up (cX k ad M O) (6 + 4 * i) (.inl (k 0, 8, .inl (upd (rw0 M 5 (8 * i) 8) j (nI v)))) = cX k ad (zu M 5 (8 * i + j) v) O := cX_ucon (r := 1) hi (by decide) hj v
theorem cX_ucon2 {i j : Nat} (hi : i < 4) (hj : j < 8) (v : Nat) : va_up (cX k ad M O) (7 + 4 * i) (.inl (k 0, 8, .inl (upd (rw0 M 6 (8 * i) 8) j (nI v)))) = cX k ad (zu M 6 (8 * i + j) v) O := cX_ucon (r := 2) hi (by decide) hj v
theorem cX_uclk {c j : Nat} (hj : j < 3) (v : Nat) : va_up (cX k ad M O) (21 + 2 * c) (.inl (k 0, 3, .inl (upd (rw0 M 15 (3 * c) 3) j (nI v)))) = cX k ad (zu M 15 (3 * c + j) v) O := by
  refine cX_up (cX_k.trans (by rw [rw0_up hj])) (fun q hq => cX_cg q ?_ ?_ ?_ ?_ ?_ ?_ ?_)
  · intro _
    simp [zu]
  · intro _ j _
    simp [zu]
  · intro _
    simp [zu]
  · intro i' _ _
    simp [zu]
  · intro i' r' _ _ _ j' _
    have hne : 4 + r' ≠ 15 := by omega
    simp [zu, hne]
  · intro c' _
    simp [zu]
  · intro c' _ j' _
    have hne : 3 * c' + j' ≠ 3 * c + j := by omega
    simp [zu, hne]
abbrev mObj (bd : Nat → Nat) (M : Nat → Nat → Nat) (th : Int32) : List Value := [.int (nI (M 0 0)), .ref (bd 1), .ref (bd 2), .ref (bd 3), .ref (bd 4), .ref (bd 5), .ref (bd 6), .ref (bd 7), .ref (bd 8), .ref (bd 9), .ref (bd 10), .ref (bd 11), .ref (bd 12), .ref (bd 13), .ref (bd 14), .ref (bd 15), .ref (bd 16), .int (nI (M 0 1)), .ref (bd 17), .ref (bd 18), .int th]
def mL (q : Nat) : Nat := if q < 4 then 4 else if q < 7 then 32 else if q = 7 then 4 else if q = 8 then 9 else if q < 15 then 40 else if q < 17 then 120 else 4
def mA (M : Nat → Nat → Nat) (O : Nat → Nat → Int32) (q : Nat) : Nat → Int32 :=
  if q = 13 then (fun c => hdI (M 13 c)) else if q = 16 then (fun x => nI (if x % 3 < M 16 (x / 3) then 1 else 0))
  else if q = 17 then O 0 else if q = 18 then O 1 else fun i => nI (M q i)
/-- the reference's world: 0 the object, then its rows in the order of the fields -/
def cM (k : Nat → ClassId) (bd : Nat → Nat) (M : Nat → Nat → Nat) (O : Nat → Nat → Int32) (th : Int32) (q : Nat) : va_E :=
  if q = 0 then .inr (3, mObj bd M th) else .inl (k (if q = 14 then 1 else if q = 16 then 1 else 0), mL q, .inl (mA M O q))
theorem cM_0 {th : Int32} : cM k bd M O th 0 = .inr (3, mObj bd M th) := rfl
theorem cM_uth {th : Int32} (v : Int32) : va_up (cM k bd M O th) 0 (.inr (3, (mObj bd M th).set 20 (.int v))) = cM k bd M O v := by
  funext q
  by_cases h : q = 0
  · subst h; rw [va_up_self]; rfl
  · rw [va_up_ne _ _ h]; unfold cM; rw [if_neg h, if_neg h]
theorem cM_up {th : Int32} {q0 : Nat} {e : va_E} (he : cM k bd M' O' th q0 = e) (hs : ∀ q, q ≠ q0 → cM k bd M' O' th q = cM k bd M O th q) : va_up (cM k bd M O th) q0 e = cM k bd M' O' th := by
  funext q
  by_cases h : q = q0
  · subst h; rw [va_up_self, he]
  · rw [va_up_ne _ _ h, hs q h]
theorem mA_cg (q : Nat) (h : ∀ i, M' q i = M q i) (h17 : q = 17 → ∀ i, O' 0 i = O 0 i) (h18 : q = 18 → ∀ i, O' 1 i = O 1 i) : mA M' O' q = mA M O q := by
  funext i
  unfold mA
  by_cases q13 : q = 13
  · subst q13; rw [if_pos rfl, if_pos rfl, h]
  by_cases q16 : q = 16
  · subst q16; rw [if_neg q13, if_neg q13, if_pos rfl, if_pos rfl, h]
  by_cases q17 : q = 17
  · subst q17; rw [if_neg q13, if_neg q13, if_neg q16, if_neg q16, if_pos rfl, if_pos rfl, h17 rfl]
  by_cases q18 : q = 18
  · subst q18; rw [if_neg q13, if_neg q13, if_neg q16, if_neg q16, if_neg q17, if_neg q17, if_pos rfl, if_pos rfl, h18 rfl]
  · rw [if_neg q13, if_neg q13, if_neg q16, if_neg q16, if_neg q17, if_neg q17, if_neg q18, if_neg q18, h]
theorem cM_cg {th : Int32} {q : Nat} (h0 : q = 0 → M' 0 0 = M 0 0 ∧ M' 0 1 = M 0 1) (h : 0 < q → mA M' O' q = mA M O q) : cM k bd M' O' th q = cM k bd M O th q := by
  by_cases hq : q = 0
  · subst hq
    obtain ⟨e1, e2⟩ := h0 rfl
    rw [cM_0, cM_0, mObj, mObj, e1, e2]
  · unfold cM
    rw [if_neg hq, if_neg hq, h (by omega)]
theorem cM_unow {th : Int32} (v : Nat) : va_up (cM k bd M O th) 0 (.inr (3, (mObj bd M th).set 0 (.int (nI v)))) = cM k bd (zu M 0 0 v) O th := by
  refine cM_up (cM_0.trans (by simp [zu])) (fun q hq => cM_cg (fun h => absurd h hq) (fun _ => mA_cg q (fun i => zu_r _ _ _ _ hq) (fun _ _ => rfl) (fun _ _ => rfl)))
theorem cM_ucnt {th : Int32} (v : Nat) : va_up (cM k bd M O th) 0 (.inr (3, (mObj bd M th).set 17 (.int (nI v)))) = cM k bd (zu M 0 1 v) O th := by
  refine cM_up (cM_0.trans (by simp [zu])) (fun q hq => cM_cg (fun h => absurd h hq) (fun _ => mA_cg q (fun i => zu_r _ _ _ _ hq) (fun _ _ => rfl) (fun _ _ => rfl)))
/-- a row that shows its register as it is -/
theorem cM_urow {th : Int32} (r : Nat) (h0 : r ≠ 0) (h13 : r ≠ 13) (h16 : r ≠ 16) (h17 : r ≠ 17) (h18 : r ≠ 18) (i v : Nat) : va_up (cM k bd M O th) r (.inl (k (if r = 14 then 1 else 0), mL r, .inl (upd (mA M O r) i (nI v)))) = cM k bd (zu M r i v) O th := by
  refine cM_up ?_ (fun q hq => cM_cg (fun h => by simp [zu, Ne.symm h0]) (fun _ => mA_cg q (fun i => zu_r _ _ _ _ hq) (fun _ _ => rfl) (fun _ _ => rfl)))
  have e : mA (zu M r i v) O r = upd (mA M O r) i (nI v) := by
    funext x
    unfold mA
    rw [if_neg h13, if_neg h13, if_neg h16, if_neg h16, if_neg h17, if_neg h17, if_neg h18, if_neg h18]
    by_cases h : x = i <;> simp [zu, upd, h]
  unfold cM
  rw [if_neg h0, if_neg h16, e]
theorem mA_row {r : Nat} (h13 : r ≠ 13) (h16 : r ≠ 16) (h17 : r ≠ 17) (h18 : r ≠ 18) (i : Nat) : mA M O r i = nI (M r i) := by
  unfold mA
  rw [if_neg h13, if_neg h16, if_neg h17, if_neg h18]
theorem cM_uhead {th : Int32} (i v : Nat) : va_up (cM k bd M O th) 13 (.inl (k 0, 40, .inl (upd (mA M O 13) i (hdI v)))) = cM k bd (zu M 13 i v) O th := by
  refine cM_up ?_ (fun q hq => cM_cg (fun h => by simp [zu]) (fun _ => mA_cg q (fun i => zu_r _ _ _ _ hq) (fun _ _ => rfl) (fun _ _ => rfl)))
  have e : mA (zu M 13 i v) O 13 = upd (mA M O 13) i (hdI v) := by
    funext x
    show hdI (zu M 13 i v 13 x) = upd (fun c => hdI (M 13 c)) i (hdI v) x
    by_cases h : x = i <;> simp [zu, upd, h]
  rw [← e]
  rfl
/-- a stage of the case c is marked, or unmarked, as reached -/
theorem cM_urch {th : Int32} (c st v w : Nat) (hs : st < 3) (h : ∀ j, j < 3 → (j < v ↔ if j = st then w = 1 else j < M 16 c)) (hw : w ≤ 1) : va_up (cM k bd M O th) 16 (.inl (k 1, 120, .inl (upd (mA M O 16) (3 * c + st) (nI w)))) = cM k bd (zu M 16 c v) O th := by
  refine cM_up ?_ (fun q hq => cM_cg (fun h => by simp [zu]) (fun _ => mA_cg q (fun i => zu_r _ _ _ _ hq) (fun _ _ => rfl) (fun _ _ => rfl)))
  have e : mA (zu M 16 c v) O 16 = upd (mA M O 16) (3 * c + st) (nI w) := by
    funext x
    show nI (if x % 3 < zu M 16 c v 16 (x / 3) then 1 else 0) = upd (fun x => nI (if x % 3 < M 16 (x / 3) then 1 else 0)) (3 * c + st) (nI w) x
    by_cases hc : x / 3 = c
    · have h1 := h (x % 3) (by omega)
      rw [hc, zu_s]
      by_cases hx : x = 3 * c + st
      · have h2 : x % 3 = st := by omega
        rw [h2, if_pos rfl] at h1
        rw [h2]
        simp only [upd, if_pos hx]
        by_cases hv : st < v
        · rw [if_pos hv, h1.mp hv]
        · rw [if_neg hv]
          have : w = 0 := by
            rcases Nat.lt_or_ge w 1 with z | z
            · omega
            · exact absurd (h1.mpr (by omega)) hv
          rw [this]
      · have h2 : x % 3 ≠ st := by omega
        rw [if_neg h2] at h1
        simp only [upd, if_neg hx, hc]
        by_cases hv : x % 3 < v
        · rw [if_pos hv, if_pos (h1.mp hv)]
        · rw [if_neg hv, if_neg (fun z => hv (h1.mpr z))]
    · have hx : x ≠ 3 * c + st := by omega
      rw [zu_i _ _ _ _ hc]
      simp only [upd, if_neg hx]
  rw [← e]
  rfl
theorem cM_uahead {th : Int32} (i : Nat) (v : Int32) : va_up (cM k bd M O th) 17 (.inl (k 0, 4, .inl (upd (mA M O 17) i v))) = cM k bd M (zo O 0 i v) th := by
  refine cM_up ?_ (fun q hq => cM_cg (fun h => ⟨rfl, rfl⟩) (fun _ => mA_cg q (fun i => rfl) (fun h => absurd h hq) (fun _ j => by simp [zo])))
  have e : mA M (zo O 0 i v) 17 = upd (mA M O 17) i v := by
    funext x
    show zo O 0 i v 0 x = upd (O 0) i v x
    by_cases h : x = i <;> simp [zo, upd, h]
  rw [← e]
  rfl
theorem cM_uowes {th : Int32} (i : Nat) (v : Int32) : va_up (cM k bd M O th) 18 (.inl (k 0, 4, .inl (upd (mA M O 18) i v))) = cM k bd M (zo O 1 i v) th := by
  refine cM_up ?_ (fun q hq => cM_cg (fun h => ⟨rfl, rfl⟩) (fun _ => mA_cg q (fun i => rfl) (fun _ j => by simp [zo]) (fun h => absurd h hq)))
  have e : mA M (zo O 1 i v) 18 = upd (mA M O 18) i v := by
    funext x
    show zo O 1 i v 1 x = upd (O 1) i v x
    by_cases h : x = i <;> simp [zo, upd, h]
  rw [← e]
  rfl
end ST
