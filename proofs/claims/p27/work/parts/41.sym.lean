/-! THE SITES MOVED ON: two desks, of which one has all of a site at the next one. -/
def sg (g i : Nat) : Nat := (i + g) % 4
theorem sg_lt {g i : Nat} : sg g i < 4 := Nat.mod_lt _ (by decide)
theorem sg_inj {g i j : Nat} (hi : i < 4) (hj : j < 4) (h : sg g i = sg g j) : i = j := by
  unfold sg at h
  omega
def Sy (g : Nat) (M : Nat → Nat → Nat) (O : Nat → Nat → Int32) (N : Nat → Nat → Nat) (P : Nat → Nat → Int32) : Prop :=
  (∀ r x, ¬ (1 ≤ r ∧ r ≤ 7) → r ≠ 9 → N r x = M r x) ∧
  (∀ r i, r = 1 ∨ r = 2 ∨ r = 3 ∨ r = 7 → i < 4 → N r (sg g i) = M r i) ∧
  (∀ r i j, r = 4 ∨ r = 5 ∨ r = 6 → i < 4 → j < 8 → N r (8 * sg g i + j) = M r (8 * i + j)) ∧
  (∀ c, c < M 0 1 → N 9 c = sg g (M 9 c)) ∧
  (∀ r i, i < 4 → P r (sg g i) = O r i)
section SY
variable {g : Nat} {M N : Nat → Nat → Nat} {O P : Nat → Nat → Int32}
theorem sy_0 : Sy g M0 O0 M0 O0 := by
  refine ⟨fun _ _ _ _ => rfl, fun r i hr hi => ?_, fun r i j hr hi hj => ?_, fun c hc => absurd hc (Nat.not_lt_zero c), fun _ _ _ => rfl⟩
  · have h4 := @sg_lt g i
    rcases hr with rfl | rfl | rfl | rfl
    · exact (if_pos h4 : M0 1 (sg g i) = 31).trans (if_pos hi : M0 1 i = 31).symm
    · exact (if_pos h4 : M0 2 (sg g i) = 8).trans (if_pos hi : M0 2 i = 8).symm
    · exact (if_pos h4 : M0 3 (sg g i) = 17).trans (if_pos hi : M0 3 i = 17).symm
    · rfl
  · rcases hr with rfl | rfl | rfl <;> rfl
theorem sy_oth {r x v : Nat} (h : Sy g M O N P) (hr : ¬ (1 ≤ r ∧ r ≤ 7)) (h9 : r ≠ 9) (h01 : ¬ (r = 0 ∧ x = 1)) : Sy g (zu M r x v) O (zu N r x v) P := by
  obtain ⟨e1, e2, e3, e4, e5⟩ := h
  refine ⟨fun r' x' q1 q2 => ?_, fun r' i q1 q2 => ?_, fun r' i j q1 q2 q3 => ?_, fun c hc => ?_, e5⟩
  · unfold zu
    by_cases q : r' = r ∧ x' = x
    · rw [if_pos q, if_pos q]
    · rw [if_neg q, if_neg q]; exact e1 r' x' q1 q2
  · rw [zu_r _ _ _ _ (by omega), zu_r _ _ _ _ (by omega)]; exact e2 r' i q1 q2
  · rw [zu_r _ _ _ _ (by omega), zu_r _ _ _ _ (by omega)]; exact e3 r' i j q1 q2 q3
  · have e0 : zu M r x v 0 1 = M 0 1 := if_neg (fun zz1 => h01 ⟨zz1.1.symm, zz1.2.symm⟩)
    rw [e0] at hc
    rw [zu_r _ _ _ _ (Ne.symm h9), zu_r _ _ _ _ (Ne.symm h9)]; exact e4 c hc
theorem sy_site {r i v : Nat} (h : Sy g M O N P) (hr : r = 1 ∨ r = 2 ∨ r = 3 ∨ r = 7) (hi : i < 4) : Sy g (zu M r i v) O (zu N r (sg g i) v) P := by
  obtain ⟨e1, e2, e3, e4, e5⟩ := h
  refine ⟨fun r' x' q1 q2 => ?_, fun r' j q1 q2 => ?_, fun r' j x' q1 q2 q3 => ?_, fun c hc => ?_, e5⟩
  · rw [zu_r _ _ _ _ (by omega), zu_r _ _ _ _ (by omega)]; exact e1 r' x' q1 q2
  · by_cases q3 : r' = r
    · subst q3
      by_cases q4 : j = i
      · subst q4; rw [zu_s, zu_s]
      · rw [zu_i _ _ _ _ q4, zu_i _ _ _ _ (fun zz1 => q4 (sg_inj q2 hi zz1))]; exact e2 r' j q1 q2
    · rw [zu_r _ _ _ _ q3, zu_r _ _ _ _ q3]; exact e2 r' j q1 q2
  · rw [zu_r _ _ _ _ (by omega), zu_r _ _ _ _ (by omega)]; exact e3 r' j x' q1 q2 q3
  · rw [zu_r _ _ _ _ (by omega)] at hc
    rw [zu_r _ _ _ _ (by omega), zu_r _ _ _ _ (by omega)]; exact e4 c hc
theorem sy_con {r i j v : Nat} (h : Sy g M O N P) (hr : r = 4 ∨ r = 5 ∨ r = 6) (hi : i < 4) (hj : j < 8) : Sy g (zu M r (8 * i + j) v) O (zu N r (8 * sg g i + j) v) P := by
  obtain ⟨e1, e2, e3, e4, e5⟩ := h
  refine ⟨fun r' x' q1 q2 => ?_, fun r' j q1 q2 => ?_, fun r' y x' q1 q2 q3 => ?_, fun c hc => ?_, e5⟩
  · rw [zu_r _ _ _ _ (by omega), zu_r _ _ _ _ (by omega)]; exact e1 r' x' q1 q2
  · rw [zu_r _ _ _ _ (by omega), zu_r _ _ _ _ (by omega)]; exact e2 r' j q1 q2
  · by_cases q5 : r' = r
    · subst q5
      by_cases q4 : y = i ∧ x' = j
      · obtain ⟨rfl, rfl⟩ := q4; rw [zu_s, zu_s]
      · have q6 : ¬ (sg g y = sg g i ∧ x' = j) := fun zz1 => q4 ⟨sg_inj q2 hi zz1.1, zz1.2⟩
        rw [zu_i _ _ _ _ (by omega), zu_i _ _ _ _ (by omega)]; exact e3 r' y x' q1 q2 q3
    · rw [zu_r _ _ _ _ q5, zu_r _ _ _ _ q5]; exact e3 r' y x' q1 q2 q3
  · rw [zu_r _ _ _ _ (by omega)] at hc
    rw [zu_r _ _ _ _ (by omega), zu_r _ _ _ _ (by omega)]; exact e4 c hc
theorem sy_o {r i : Nat} {v : Int32} (h : Sy g M O N P) (hi : i < 4) : Sy g M (zo O r i v) N (zo P r (sg g i) v) := by
  obtain ⟨e1, e2, e3, e4, e5⟩ := h
  refine ⟨e1, e2, e3, e4, fun r' j q2 => ?_⟩
  by_cases q3 : r' = r
  · subst q3
    by_cases q4 : j = i
    · subst q4; rw [zo_s, zo_s]
    · rw [zo_i _ _ _ _ q4, zo_i _ _ _ _ (fun zz1 => q4 (sg_inj q2 hi zz1))]; exact e5 r' j q2
  · rw [zo_r _ _ _ _ q3, zo_r _ _ _ _ q3]; exact e5 r' j q2
theorem sy_hN (h : Sy g M O N P) {i : Nat} (hi : i < 4) : ∀ x, hN N (sg g i) x = hN M i x
  | 0 => rfl
  | x + 1 => by
    show hN N (sg g i) x + _ = hN M i x + _
    unfold hrB
    rw [sy_hN h hi x, h.2.1 1 i (by omega) hi, h.2.1 2 i (by omega) hi, h.2.1 3 i (by omega) hi]
theorem sy_cov (h : Sy g M O N P) (hI : zInv M) {i : Nat} (hi : i < 4) (kd d : Nat) : cov N (sg g i) kd d ↔ cov M i kd d := by
  have e7 := h.2.1 7 i (by omega) hi
  have h8 := (hI.2.2.1 i hi).1.2.2.2
  unfold cov
  rw [e7]
  constructor
  · rintro ⟨j, q1, q2, q3, q4⟩
    rw [h.2.2.1 4 i j (by omega) hi (by omega)] at q2
    rw [h.2.2.1 5 i j (by omega) hi (by omega)] at q3
    rw [h.2.2.1 6 i j (by omega) hi (by omega)] at q4
    exact ⟨j, q1, q2, q3, q4⟩
  · rintro ⟨j, q1, q2, q3, q4⟩
    rw [← h.2.2.1 4 i j (by omega) hi (by omega)] at q2
    rw [← h.2.2.1 5 i j (by omega) hi (by omega)] at q3
    rw [← h.2.2.1 6 i j (by omega) hi (by omega)] at q4
    exact ⟨j, q1, q2, q3, q4⟩
theorem sy_ngF (h : Sy g M O N P) (hI : zInv M) {i : Nat} (hi : i < 4) (kd : Nat) : ∀ f d, ngF N (sg g i) kd f d = ngF M i kd f d
  | 0, _ => rfl
  | f + 1, d => by
    by_cases q : cov M i kd d
    · rw [ngF_t q, ngF_t ((sy_cov h hI hi kd d).mpr q), sy_ngF h hI hi kd f (d + 1)]
    · rw [ngF_f q, ngF_f (fun zz1 => q ((sy_cov h hI hi kd d).mp zz1))]
/-- tables that are alike but for what the sites have -/
def Ot (M N : Nat → Nat → Nat) : Prop := ∀ r x, ¬ (1 ≤ r ∧ r ≤ 7) → r ≠ 9 → N r x = M r x
theorem ot_mN (h : Ot M N) (c : Nat) : ∀ x, mN N c x = mN M c x
  | 0 => rfl
  | x + 1 => by
    show mN N c x + _ = mN M c x + _
    rw [ot_mN h c x, h 16 c (by omega) (by omega), h 11 c (by omega) (by omega), h 8 _ (by omega) (by omega), h 15 _ (by omega) (by omega)]
theorem ot_stp (h : Ot M N) (c x : Nat) : stp N c x = stp M c x := by
  unfold stp
  rw [h 16 c (by omega) (by omega), h 11 c (by omega) (by omega), h 8 _ (by omega) (by omega), h 15 _ (by omega) (by omega)]
theorem ot_gS (h : Ot M N) (c : Nat) : ∀ x, gS N c x = gS M c x
  | 0 => rfl
  | x + 1 => by
    show max (gS N c x) (stp N c x) = max (gS M c x) (stp M c x)
    rw [ot_gS h c x, ot_stp h]
theorem ot_jN (h : Ot M N) (y : Nat) : ∀ c, jN N y c = jN M y c
  | 0 => rfl
  | c + 1 => by
    show jN N y c + _ = jN M y c + _
    rw [ot_jN h y c, h 12 c (by omega) (by omega), h 13 c (by omega) (by omega)]
theorem ot_uB (h : Ot M N) : ∀ c, uB N c = uB M c
  | 0 => rfl
  | c + 1 => by
    unfold uB
    rw [ot_uB h c, h 12 c (by omega) (by omega), h 14 c (by omega) (by omega), h 11 _ (by omega) (by omega), h 11 c (by omega) (by omega), ot_gS h, ot_gS h]
theorem sy_run (h : Sy g M O N P) (hI : zInv M) (a b : Nat) : Sy g (rkM M a b (M 0 1)) O (rkM N a b (M 0 1)) P := by
  obtain ⟨e1, e2, e3, e4, e5⟩ := id h
  have k1 : ∀ r x, r ≠ 15 → rkM M a b (M 0 1) r x = M r x := fun r x q => if_neg (fun zz1 => q zz1.1)
  have k2 : ∀ r x, r ≠ 15 → rkM N a b (M 0 1) r x = N r x := fun r x q => if_neg (fun zz1 => q zz1.1)
  refine ⟨fun r x q1 q2 => ?_, fun r i q1 q2 => ?_, fun r i j q1 q2 q3 => ?_, fun c hc => ?_, e5⟩
  · by_cases q : r = 15
    · subst q
      by_cases q3 : x / 3 < M 0 1
      · have k3 : rkM N a b (M 0 1) 15 x = rkv N a b (x / 3) (x % 3) := if_pos ⟨rfl, q3⟩
        have k4 : rkM M a b (M 0 1) 15 x = rkv M a b (x / 3) (x % 3) := if_pos ⟨rfl, q3⟩
        have h9 : M 9 (x / 3) < 4 := (hI.2.2.2.2.1 _ q3).1
        rw [k3, k4]
        unfold rkv
        rw [e1 12 _ (by omega) (by omega), e1 14 _ (by omega) (by omega), e1 16 _ (by omega) (by omega), e1 15 _ (by omega) (by omega), e4 _ q3, sy_hN h h9, sy_hN h h9]
      · have k3 : rkM N a b (M 0 1) 15 x = N 15 x := if_neg (fun zz1 => q3 zz1.2)
        have k4 : rkM M a b (M 0 1) 15 x = M 15 x := if_neg (fun zz1 => q3 zz1.2)
        rw [k3, k4]; exact e1 15 x q1 q2
    · rw [k1 r x q, k2 r x q]; exact e1 r x q1 q2
  · rw [k1 _ _ (by omega), k2 _ _ (by omega)]; exact e2 r i q1 q2
  · rw [k1 _ _ (by omega), k2 _ _ (by omega)]; exact e3 r i j q1 q2 q3
  · rw [k1 _ _ (by omega)] at hc
    rw [k1 _ _ (by omega), k2 _ _ (by omega)]; exact e4 c hc
theorem sy_clM (h : Sy g M O N P) (a n : Nat) : Sy g (clM M a n) O (clM N a n) P := by
  obtain ⟨e1, e2, e3, e4, e5⟩ := id h
  have k1 : ∀ r x, r ≠ 12 → clM M a n r x = M r x := fun r x q => if_neg (fun zz1 => q zz1.1)
  have k2 : ∀ r x, r ≠ 12 → clM N a n r x = N r x := fun r x q => if_neg (fun zz1 => q zz1.1)
  refine ⟨fun r x q1 q2 => ?_, fun r i q1 q2 => ?_, fun r i j q1 q2 q3 => ?_, fun c hc => ?_, e5⟩
  · unfold clM
    rw [e1 12 x (by omega) (by omega), e1 13 x (by omega) (by omega), e1 r x q1 q2]
  · rw [k1 _ _ (by omega), k2 _ _ (by omega)]; exact e2 r i q1 q2
  · rw [k1 _ _ (by omega), k2 _ _ (by omega)]; exact e3 r i j q1 q2 q3
  · rw [k1 _ _ (by omega)] at hc
    rw [k1 _ _ (by omega), k2 _ _ (by omega)]; exact e4 c hc
theorem sy_open (h : Sy g M O N P) {i : Nat} (hi : i < 4) (kd gv : Nat) : Sy g (opM M i kd gv) O (opM N (sg g i) kd gv) P := by
  obtain ⟨e1, e2, e3, e4, e5⟩ := id h
  have e0 : N 0 1 = M 0 1 := e1 0 1 (by omega) (by omega)
  have k1 : ∀ r x, r ≠ 0 → ¬ (9 ≤ r ∧ r ≤ 13) → opM M i kd gv r x = M r x := fun r x q1 q2 => opM_o (by omega) (by omega)
  have k2 : ∀ r x, r ≠ 0 → ¬ (9 ≤ r ∧ r ≤ 13) → opM N (sg g i) kd gv r x = N r x := fun r x q1 q2 => opM_o (by omega) (by omega)
  refine ⟨fun r x q1 q2 => ?_, fun r j q1 q2 => ?_, fun r y j q1 q2 q3 => ?_, fun c hc => ?_, e5⟩
  · unfold opM
    rw [e0, e1 r x q1 q2, if_neg q2, if_neg q2]
  · rw [k1 _ _ (by omega) (by omega), k2 _ _ (by omega) (by omega)]; exact e2 r j q1 q2
  · rw [k1 _ _ (by omega) (by omega), k2 _ _ (by omega) (by omega)]; exact e3 r y j q1 q2 q3
  · rw [opM_01] at hc
    by_cases q : c = M 0 1
    · have k3 : opM N (sg g i) kd gv 9 c = sg g i := by
        unfold opM
        rw [if_neg (by omega), if_pos ⟨by rw [e0]; exact q, by decide, by decide⟩, if_pos rfl]
      have k4 : opM M i kd gv 9 c = i := by
        unfold opM
        rw [if_neg (by omega), if_pos ⟨q, by decide, by decide⟩, if_pos rfl]
      rw [k3, k4]
    · have k3 : opM N (sg g i) kd gv 9 c = N 9 c := opM_o (by omega) (by rw [e0]; omega)
      have k4 : opM M i kd gv 9 c = M 9 c := opM_o (by omega) (by omega)
      rw [k3, k4]; exact e4 c (by omega)
end SY
