theorem kcM_y {M : Nat → Nat → Nat} {i kk fr to : Nat} (h : M 7 i < 8) : kcM M i kk fr to = zu (zu (zu (zu M 4 (8 * i + M 7 i) kk) 5 (8 * i + M 7 i) fr) 6 (8 * i + M 7 i) to) 7 i (M 7 i + 1) := if_pos h
/-! THE BOUNDS ARE KEPT by each call. -/
theorem zInv_0 : zInv M0 := by
  refine ⟨Nat.zero_le _, Nat.zero_le _, fun i hi => ⟨?_, fun j hj => absurd hj (Nat.not_lt_zero _)⟩, ?_, fun c hc => absurd hc (Nat.not_lt_zero _), fun x _ => Nat.zero_le _, fun c _ _ => ⟨rfl, rfl, fun _ _ => rfl⟩⟩
  · have e1 : M0 1 i = 31 := if_pos hi
    have e2 : M0 2 i = 8 := if_pos hi
    have e3 : M0 3 i = 17 := if_pos hi
    have e4 : M0 7 i = 0 := rfl
    unfold zSi
    omega
  · intro j hj
    rcases (show j = 0 ∨ j = 1 ∨ j = 2 ∨ j = 3 ∨ j = 4 ∨ j = 5 ∨ j = 6 ∨ j = 7 ∨ j = 8 by omega) with rfl | rfl | rfl | rfl | rfl | rfl | rfl | rfl | rfl <;> exact ⟨by decide, by decide⟩
/-- a register that no bound but the cases' speaks of -/
theorem zInv_case {M M' : Nat → Nat → Nat} (h : zInv M) (e : ∀ r x, ¬ (9 ≤ r ∧ r ≤ 14) → r ≠ 16 → M' r x = M r x) (e14 : ∀ c, M 0 1 ≤ c → M' 14 c = M 14 c ∧ M' 16 c = M 16 c) (hc : ∀ c, c < M 0 1 → zCa M' c) : zInv M' := by
  obtain ⟨h1, h2, h3, h4, h5, h6, h7⟩ := h
  have e0 : M' 0 0 = M 0 0 := e 0 0 (by omega) (by omega)
  have e1 : M' 0 1 = M 0 1 := e 0 1 (by omega) (by omega)
  refine ⟨by omega, by omega, fun i hi => ⟨?_, ?_⟩, ?_, fun c hcc => hc c (by omega), fun x hx => ?_, fun c hcc hcn => ?_⟩
  · have := (h3 i hi).1
    unfold zSi at this ⊢
    rw [e 1 i (by omega) (by omega), e 2 i (by omega) (by omega), e 3 i (by omega) (by omega), e 7 i (by omega) (by omega)]
    exact this
  · intro j hj
    rw [e 7 i (by omega) (by omega)] at hj
    have := (h3 i hi).2 j hj
    rw [e 4 _ (by omega) (by omega), e 5 _ (by omega) (by omega), e 6 _ (by omega) (by omega)]
    exact this
  · intro j hj
    rw [e 8 j (by omega) (by omega)]
    exact h4 j hj
  · rw [e 15 x (by omega) (by omega), e0]
    exact h6 x hx
  · have h8 := h7 c hcc (by omega)
    have h9 := e14 c (by omega)
    exact ⟨by rw [h9.1]; exact h8.1, by rw [h9.2]; exact h8.2.1, fun s hs => by rw [e 15 _ (by omega) (by omega)]; exact h8.2.2 s hs⟩
theorem zInv_rest {M : Nat → Nat → Nat} (h : zInv M) {i b : Nat} (hi : i < M 0 1) (hb1 : b ≤ 1) : zInv (zu M 14 i b) := by
  refine zInv_case h (fun r x h1 _ => zu_r _ _ _ _ (by omega)) (fun c hc => ⟨zu_i _ _ _ _ (by omega), rfl⟩) (fun c hc => ?_)
  obtain ⟨g1, g2, g3, g4, g5, g6, g7⟩ := h.2.2.2.2.1 c hc
  refine ⟨g1, g2, g3, g4, g5, ?_, g7⟩
  by_cases q : c = i
  · rw [q, zu_s]; exact hb1
  · rw [zu_i _ _ _ _ q]; exact g6
theorem zInv_grav {M : Nat → Nat → Nat} (h : zInv M) {i b : Nat} (hi : i < M 0 1) (hb1 : b < 3) : zInv (zu M 11 i b) := by
  refine zInv_case h (fun r x h1 _ => zu_r _ _ _ _ (by omega)) (fun c hc => ⟨rfl, rfl⟩) (fun c hc => ?_)
  obtain ⟨g1, g2, g3, g4, g5, g6, g7⟩ := h.2.2.2.2.1 c hc
  refine ⟨g1, g2, ?_, g4, g5, g6, g7⟩
  by_cases q : c = i
  · rw [q, zu_s]; exact hb1
  · rw [zu_i _ _ _ _ q]; exact g3
theorem zInv_state {M : Nat → Nat → Nat} (h : zInv M) {i b : Nat} (hi : i < M 0 1) (hb1 : b < 3) : zInv (zu M 12 i b) := by
  refine zInv_case h (fun r x h1 _ => zu_r _ _ _ _ (by omega)) (fun c hc => ⟨rfl, rfl⟩) (fun c hc => ?_)
  obtain ⟨g1, g2, g3, g4, g5, g6, g7⟩ := h.2.2.2.2.1 c hc
  refine ⟨g1, g2, g3, ?_, g5, g6, g7⟩
  by_cases q : c = i
  · rw [q, zu_s]; exact hb1
  · rw [zu_i _ _ _ _ q]; exact g4
theorem zInv_head {M : Nat → Nat → Nat} (h : zInv M) {i b : Nat} (hi : i < M 0 1) (hb1 : b ≤ M 0 1) : zInv (zu M 13 i b) := by
  refine zInv_case h (fun r x h1 _ => zu_r _ _ _ _ (by omega)) (fun c hc => ⟨rfl, rfl⟩) (fun c hc => ?_)
  obtain ⟨g1, g2, g3, g4, g5, g6, g7⟩ := h.2.2.2.2.1 c hc
  refine ⟨g1, g2, g3, g4, ?_, g6, g7⟩
  by_cases q : c = i
  · rw [q, zu_s]; exact hb1
  · rw [zu_i _ _ _ _ q]; exact g5
theorem zInv_stages {M : Nat → Nat → Nat} (h : zInv M) {i b : Nat} (hi : i < M 0 1) (hb1 : b ≤ 3) : zInv (zu M 16 i b) := by
  refine zInv_case h (fun r x _ h1 => zu_r _ _ _ _ h1) (fun c hc => ⟨rfl, zu_i _ _ _ _ (by omega)⟩) (fun c hc => ?_)
  obtain ⟨g1, g2, g3, g4, g5, g6, g7⟩ := h.2.2.2.2.1 c hc
  refine ⟨g1, g2, g3, g4, g5, g6, ?_⟩
  by_cases q : c = i
  · rw [q, zu_s]; exact hb1
  · rw [zu_i _ _ _ _ q]; exact g7
theorem zInv_close {M : Nat → Nat → Nat} (h : zInv M) {a n : Nat} : zInv (clM M a n) := by
  refine zInv_case h (fun r x h1 _ => clM_r (by omega)) (fun c hc => ⟨clM_r (by decide), clM_r (by decide)⟩) (fun c hc => ?_)
  obtain ⟨g1, g2, g3, g4, g5, g6, g7⟩ := h.2.2.2.2.1 c hc
  exact ⟨by rw [clM_r (by decide)]; exact g1, by rw [clM_r (by decide)]; exact g2, by rw [clM_r (by decide)]; exact g3, clM_lt g4, by rw [clM_r (by decide), clM_r (by decide)]; exact g5, by rw [clM_r (by decide)]; exact g6, by rw [clM_r (by decide)]; exact g7⟩
theorem zInv_openAnew {M : Nat → Nat → Nat} (h : zInv M) {i : Nat} (hi : i < M 0 1) : zInv (zu (zu (zu M 12 i 0) 14 i 0) 16 i (min (M 16 i) 2)) :=
  zInv_stages (zInv_rest (zInv_state h hi (by decide)) (show i < (zu M 12 i 0) 0 1 from hi) (by decide)) (show i < (zu (zu M 12 i 0) 14 i 0) 0 1 from hi) (by omega)
theorem zInv_join {M : Nat → Nat → Nat} (h : zInv M) {i j : Nat} (hi : i < M 0 1) (hj : j < M 0 1) : zInv (zu (zu M 12 i 1) 13 i (j + 1)) :=
  zInv_head (zInv_state h hi (by decide)) (show i < (zu M 12 i 1) 0 1 from hi) (show j + 1 ≤ (zu M 12 i 1) 0 1 from hj)
theorem zInv_reach {M : Nat → Nat → Nat} (h : zInv M) {i st : Nat} (hi : i < M 0 1) (hst : st ≤ 2) : zInv (reM M i st) := by
  have h1 : zInv (zu M 16 i (st + 1)) := zInv_stages h hi (by omega)
  unfold reM
  by_cases q : st = 2
  · rw [if_pos q]
    exact zInv_close (zInv_state h1 (show i < (zu M 16 i (st + 1)) 0 1 from hi) (by decide))
  · rw [if_neg q]; exact h1
/-- registers of the sites and the promises alone -/
theorem zInv_site {M M' : Nat → Nat → Nat} (h : zInv M) (e : ∀ r x, ¬ (1 ≤ r ∧ r ≤ 8) → M' r x = M r x) (hs : ∀ i, i < 4 → zSi M' i ∧ zCo M' i) (hp : zPr M') : zInv M' := by
  obtain ⟨h1, h2, h3, h4, h5, h6, h7⟩ := h
  have e0 : M' 0 0 = M 0 0 := e 0 0 (by omega)
  have e1 : M' 0 1 = M 0 1 := e 0 1 (by omega)
  refine ⟨by omega, by omega, hs, hp, fun c hcc => ?_, fun x hx => ?_, fun c hcc hcn => ?_⟩
  · obtain ⟨g1, g2, g3, g4, g5, g6, g7⟩ := h5 c (by omega)
    unfold zCa
    rw [e 9 c (by omega), e 10 c (by omega), e 11 c (by omega), e 12 c (by omega), e 13 c (by omega), e 14 c (by omega), e 16 c (by omega), e1]
    exact ⟨g1, g2, g3, g4, g5, g6, g7⟩
  · rw [e 15 x (by omega), e0]; exact h6 x hx
  · obtain ⟨g1, g2, g3⟩ := h7 c hcc (by omega)
    exact ⟨by rw [e 14 c (by omega)]; exact g1, by rw [e 16 c (by omega)]; exact g2, fun s hs => by rw [e 15 _ (by omega)]; exact g3 s hs⟩
theorem zInv_prom {M : Nat → Nat → Nat} (h : zInv M) {j v : Nat} (hv : 1 ≤ v ∧ v ≤ 1000) : zInv (zu M 8 j v) := by
  refine zInv_site h (fun r x h1 => zu_r _ _ _ _ (by omega)) (fun i hi => ⟨(h.2.2.1 i hi).1, (h.2.2.1 i hi).2⟩) (fun q hq => ?_)
  by_cases z : q = j
  · rw [z, zu_s]; exact hv
  · rw [zu_i _ _ _ _ z]; exact h.2.2.2.1 q hq
theorem zInv_cal {M : Nat → Nat → Nat} (h : zInv M) {i a b c : Nat} (ha : a ≤ 127) (hbc : b ≤ c) (hc : c ≤ 23) : zInv (zu (zu (zu M 1 i a) 2 i b) 3 i c) := by
  refine zInv_site h (fun r x h1 => by rw [zu_r _ _ _ _ (by omega), zu_r _ _ _ _ (by omega), zu_r _ _ _ _ (by omega)]) (fun j hj => ⟨?_, (h.2.2.1 j hj).2⟩) h.2.2.2.1
  obtain ⟨g1, g2, g3, g4⟩ := (h.2.2.1 j hj).1
  by_cases z : j = i
  · subst z
    have e1 : (zu (zu (zu M 1 j a) 2 j b) 3 j c) 1 j = a := by rw [zu_r _ _ _ _ (by decide), zu_r _ _ _ _ (by decide), zu_s]
    have e2 : (zu (zu (zu M 1 j a) 2 j b) 3 j c) 2 j = b := by rw [zu_r _ _ _ _ (by decide), zu_s]
    have e3 : (zu (zu (zu M 1 j a) 2 j b) 3 j c) 3 j = c := zu_s _ _ _ _
    exact ⟨by rw [e1]; omega, by rw [e2, e3]; exact hbc, by rw [e3]; exact hc, g4⟩
  · have e1 : (zu (zu (zu M 1 i a) 2 i b) 3 i c) 1 j = M 1 j := by rw [zu_r _ _ _ _ (by decide), zu_r _ _ _ _ (by decide), zu_i _ _ _ _ z]
    have e2 : (zu (zu (zu M 1 i a) 2 i b) 3 i c) 2 j = M 2 j := by rw [zu_r _ _ _ _ (by decide), zu_i _ _ _ _ z, zu_r _ _ _ _ (by decide)]
    have e3 : (zu (zu (zu M 1 i a) 2 i b) 3 i c) 3 j = M 3 j := by rw [zu_i _ _ _ _ z, zu_r _ _ _ _ (by decide), zu_r _ _ _ _ (by decide)]
    exact ⟨by rw [e1]; exact g1, by rw [e2, e3]; exact g2, by rw [e3]; exact g3, g4⟩
theorem zInv_open {M : Nat → Nat → Nat} (h : zInv M) {i kd g : Nat} (hc : M 0 1 < 40) (hi : i < 4) (hk : kd < 4) (hg : g ≤ 2) : zInv (opM M i kd g) := by
  obtain ⟨h1, h2, h3, h4, h5, h6, h7⟩ := h
  have e0 : opM M i kd g 0 0 = M 0 0 := opM_o (by omega) (by omega)
  have eo : ∀ r x, r ≠ 0 → ¬ (9 ≤ r ∧ r ≤ 13) → opM M i kd g r x = M r x := fun r x q1 q2 => opM_o (by omega) (by omega)
  refine ⟨by omega, by rw [opM_01]; omega, fun j hj => ⟨?_, ?_⟩, ?_, fun c hcc => ?_, fun x hx => ?_, fun c hcc hcn => ?_⟩
  · have := (h3 j hj).1
    unfold zSi at this ⊢
    rw [eo 1 j (by omega) (by omega), eo 2 j (by omega) (by omega), eo 3 j (by omega) (by omega), eo 7 j (by omega) (by omega)]
    exact this
  · intro q hq
    rw [eo 7 j (by omega) (by omega)] at hq
    have := (h3 j hj).2 q hq
    rw [eo 4 _ (by omega) (by omega), eo 5 _ (by omega) (by omega), eo 6 _ (by omega) (by omega)]
    exact this
  · intro j hj
    rw [eo 8 j (by omega) (by omega)]; exact h4 j hj
  · rw [opM_01] at hcc
    unfold zCa
    rw [opM_01, eo 14 c (by omega) (by omega), eo 16 c (by omega) (by omega)]
    by_cases z : c = M 0 1
    · subst z
      rw [opM_n (r := 9) (by omega), opM_n (r := 10) (by omega), opM_n (r := 11) (by omega), opM_n (r := 12) (by omega), opM_n (r := 13) (by omega)]
      have h8 := h7 (M 0 1) hc (Nat.le_refl _)
      rw [h8.1, h8.2.1]
      exact ⟨hi, hk, Nat.lt_succ_of_le hg, Nat.zero_lt_succ _, Nat.zero_le _, Nat.zero_le _, Nat.zero_le _⟩
    · obtain ⟨g1, g2, g3, g4, g5, g6, g7⟩ := h5 c (by omega)
      rw [opM_o (r := 9) (by omega) (by omega), opM_o (r := 10) (by omega) (by omega), opM_o (r := 11) (by omega) (by omega), opM_o (r := 12) (by omega) (by omega), opM_o (r := 13) (by omega) (by omega)]
      exact ⟨g1, g2, g3, g4, by omega, g6, g7⟩
  · rw [eo 15 x (by omega) (by omega), e0]; exact h6 x hx
  · rw [opM_01] at hcn
    obtain ⟨g1, g2, g3⟩ := h7 c hcc (by omega)
    exact ⟨by rw [eo 14 c (by omega) (by omega)]; exact g1, by rw [eo 16 c (by omega) (by omega)]; exact g2, fun s hs => by rw [eo 15 _ (by omega) (by omega)]; exact g3 s hs⟩
theorem zInv_kc {M : Nat → Nat → Nat} (h : zInv M) {i kk fr to : Nat} (hi : i < 4) (hf : M 7 i < 8) (h1 : kk < 16) (h2 : fr ≤ 1000) (h3 : to ≤ 1000) : zInv (kcM M i kk fr to) := by
  rw [kcM_y hf]
  refine zInv_site h (fun r x q => by rw [zu_r _ _ _ _ (by omega), zu_r _ _ _ _ (by omega), zu_r _ _ _ _ (by omega), zu_r _ _ _ _ (by omega)]) (fun j hj => ⟨?_, ?_⟩) h.2.2.2.1
  · obtain ⟨g1, g2, g3, g4⟩ := (h.2.2.1 j hj).1
    refine ⟨g1, g2, g3, ?_⟩
    by_cases z : j = i
    · rw [z, zu_s]; omega
    · rw [zu_i _ _ _ _ z]; exact g4
  · intro q hq
    have hs := (h.2.2.1 j hj).1.2.2.2
    have e4 : ∀ x, (zu (zu (zu (zu M 4 (8 * i + M 7 i) kk) 5 (8 * i + M 7 i) fr) 6 (8 * i + M 7 i) to) 7 i (M 7 i + 1)) 4 x = (zu M 4 (8 * i + M 7 i) kk) 4 x := fun x => by rw [zu_r _ _ _ _ (by decide), zu_r _ _ _ _ (by decide), zu_r _ _ _ _ (by decide)]
    have e5 : ∀ x, (zu (zu (zu (zu M 4 (8 * i + M 7 i) kk) 5 (8 * i + M 7 i) fr) 6 (8 * i + M 7 i) to) 7 i (M 7 i + 1)) 5 x = (zu M 5 (8 * i + M 7 i) fr) 5 x := fun x => by rw [zu_r _ _ _ _ (by decide), zu_r _ _ _ _ (by decide)]; rfl
    have e6 : ∀ x, (zu (zu (zu (zu M 4 (8 * i + M 7 i) kk) 5 (8 * i + M 7 i) fr) 6 (8 * i + M 7 i) to) 7 i (M 7 i + 1)) 6 x = (zu M 6 (8 * i + M 7 i) to) 6 x := fun x => by rw [zu_r _ _ _ _ (by decide)]; rfl
    rw [e4, e5, e6]
    by_cases z : 8 * j + q = 8 * i + M 7 i
    · rw [z, zu_s, zu_s, zu_s]; exact ⟨h1, h2, h3⟩
    · rw [zu_i _ _ _ _ z, zu_i _ _ _ _ z, zu_i _ _ _ _ z]
      refine (h.2.2.1 j hj).2 q ?_
      by_cases z2 : j = i
      · subst z2; rw [zu_s] at hq; omega
      · rw [zu_i _ _ _ _ z2] at hq; exact hq
theorem zInv_pass {M : Nat → Nat → Nat} (h : zInv M) {n : Nat} (hn : M 0 0 + n ≤ 24000) : zInv (zu (rkM M (M 0 0) (M 0 0 + n) (M 0 1)) 0 0 (M 0 0 + n)) := by
  obtain ⟨h1, h2, h3, h4, h5, h6, h7⟩ := h
  have eo : ∀ r x, r ≠ 15 → ¬ (r = 0 ∧ x = 0) → zu (rkM M (M 0 0) (M 0 0 + n) (M 0 1)) 0 0 (M 0 0 + n) r x = M r x := fun r x q1 q2 => by
    show (if _ then _ else _) = _
    rw [if_neg q2]
    unfold rkM
    rw [if_neg (fun zz1 => q1 zz1.1)]
  refine ⟨by rw [zu_s]; exact hn, by rw [eo 0 1 (by omega) (by omega)]; exact h2, fun j hj => ⟨?_, ?_⟩, ?_, fun c hcc => ?_, fun x hx => ?_, fun c hcc hcn => ?_⟩
  · have := (h3 j hj).1
    unfold zSi at this ⊢
    rw [eo 1 j (by omega) (by omega), eo 2 j (by omega) (by omega), eo 3 j (by omega) (by omega), eo 7 j (by omega) (by omega)]
    exact this
  · intro q hq
    rw [eo 7 j (by omega) (by omega)] at hq
    have := (h3 j hj).2 q hq
    rw [eo 4 _ (by omega) (by omega), eo 5 _ (by omega) (by omega), eo 6 _ (by omega) (by omega)]
    exact this
  · intro j hj
    rw [eo 8 j (by omega) (by omega)]; exact h4 j hj
  · rw [eo 0 1 (by omega) (by omega)] at hcc
    obtain ⟨g1, g2, g3, g4, g5, g6, g7⟩ := h5 c hcc
    unfold zCa
    rw [eo 9 c (by omega) (by omega), eo 10 c (by omega) (by omega), eo 11 c (by omega) (by omega), eo 12 c (by omega) (by omega), eo 13 c (by omega) (by omega), eo 14 c (by omega) (by omega), eo 16 c (by omega) (by omega), eo 0 1 (by omega) (by omega)]
    exact ⟨g1, g2, g3, g4, g5, g6, g7⟩
  · rw [zu_s]
    have e : zu (rkM M (M 0 0) (M 0 0 + n) (M 0 1)) 0 0 (M 0 0 + n) 15 x = rkM M (M 0 0) (M 0 0 + n) (M 0 1) 15 x := rfl
    rw [e]
    have hx6 := h6 x hx
    unfold rkM
    by_cases z : 15 = 15 ∧ x / 3 < M 0 1
    · rw [if_pos z]
      unfold rkv
      rw [show 3 * (x / 3) + x % 3 = x by omega]
      have hm := (hN_mono M (M 9 (x / 3)) (M 0 0) n).2
      by_cases z2 : (M 12 (x / 3) = 0 ∧ M 14 (x / 3) = 0) ∧ ¬ x % 3 < M 16 (x / 3)
      · rw [if_pos z2]; omega
      · rw [if_neg z2]; omega
    · rw [if_neg z]; omega
  · rw [eo 0 1 (by omega) (by omega)] at hcn
    obtain ⟨g1, g2, g3⟩ := h7 c hcc hcn
    refine ⟨by rw [eo 14 c (by omega) (by omega)]; exact g1, by rw [eo 16 c (by omega) (by omega)]; exact g2, fun s hs => ?_⟩
    have e : zu (rkM M (M 0 0) (M 0 0 + n) (M 0 1)) 0 0 (M 0 0 + n) 15 (3 * c + s) = M 15 (3 * c + s) := by
      show rkM M (M 0 0) (M 0 0 + n) (M 0 1) 15 (3 * c + s) = _
      unfold rkM
      rw [if_neg (by omega)]
    rw [e]; exact g3 s hs
theorem x3_no {a b c : Prop} (h : ¬ (a ∧ b ∧ c)) : x3 a b c ≠ 0 := by
  by_cases ha : a
  · by_cases hb1 : b
    · by_cases hc1 : c
      · exact absurd ⟨ha, hb1, hc1⟩ h
      · rw [x3_3 ha hb1 hc1]; decide
    · rw [x3_2 ha hb1]; decide
  · rw [x3_1 ha]; decide
theorem x3_ne1 {b c : Prop} : x3 True b c ≠ 1 := by
  by_cases hb1 : b
  · by_cases hc1 : c
    · rw [x3_0 trivial hb1 hc1]; decide
    · rw [x3_3 trivial hb1 hc1]; decide
  · rw [x3_2 trivial hb1]; decide
theorem x3_ne2 {a c : Prop} : x3 a True c ≠ 2 := by
  by_cases ha1 : a
  · by_cases hc1 : c
    · rw [x3_0 ha1 trivial hc1]; decide
    · rw [x3_3 ha1 trivial hc1]; decide
  · rw [x3_1 ha1]; decide
theorem x3_ne3 {a b : Prop} : x3 a b True ≠ 3 := by
  by_cases ha1 : a
  · by_cases hb1 : b
    · rw [x3_0 ha1 hb1 trivial]; decide
    · rw [x3_2 ha1 hb1]; decide
  · rw [x3_1 ha1]; decide
theorem x3_z {a b c : Prop} (h : x3 a b c = 0) : a ∧ b ∧ c := Classical.byContradiction fun zz1 => x3_no zz1 h
theorem x3_le {a b c : Prop} : x3 a b c ≤ 3 := by
  by_cases ha1 : a
  · by_cases hb1 : b
    · by_cases hc1 : c
      · rw [x3_0 ha1 hb1 hc1]; decide
      · rw [x3_3 ha1 hb1 hc1]; decide
    · rw [x3_2 ha1 hb1]; decide
  · rw [x3_1 ha1]; decide
set_option maxRecDepth 100000 in
set_option maxHeartbeats 2000000 in
theorem iz_setCalendar {M : Nat → Nat → Nat} (hI : zInv M) (p0 p1 p2 p3 : Int32) : zInv (if (x3 (zI 4 p0) ((nI 0 ≤ p1 ∧ p1 ≤ nI 127) ∧ (nI 0 ≤ p2 ∧ p2 ≤ nI 23) ∧ (p2 ≤ p3 ∧ p3 ≤ nI 23)) (True)) = 0 then (zu (zu (zu M 1 (ix p0) (ix p1)) 2 (ix p0) (ix p2)) 3 (ix p0) (ix p3)) else M) := by
  have h40 := hI.2.1
  split
  · next hx0 =>
    obtain ⟨⟨i, hi, rfl⟩, ⟨c1, c2, c3⟩, -⟩ := x3_z hx0
    obtain ⟨b1, hb10, hb1, rfl⟩ := (zB_iff (by omega) (by decide)).mp c1
    obtain ⟨b2, hb20, hb2, rfl⟩ := (zB_iff (by omega) (by decide)).mp c2
    obtain ⟨b3, hb30, hb3, rfl⟩ := (zB_iff (by omega) (by decide)).mp c3
    try rw [ix_nI (show i < 2 ^ 31 by omega)]
    try rw [ix_nI (show b1 < 2 ^ 31 by omega)]
    try rw [ix_nI (show b2 < 2 ^ 31 by omega)]
    try rw [ix_nI (show b3 < 2 ^ 31 by omega)]
    exact zInv_cal hI hb1 hb30 hb3
  · exact hI
set_option maxRecDepth 100000 in
set_option maxHeartbeats 2000000 in
theorem iz_addContract {M : Nat → Nat → Nat} (hI : zInv M) (p0 p1 p2 p3 : Int32) : zInv (if (x3 (zI 4 p0) ((nI 1 ≤ p1 ∧ p1 ≤ nI 15) ∧ (nI 0 ≤ p2 ∧ p2 ≤ nI 1000) ∧ (p2 ≤ p3 ∧ p3 ≤ nI 1000)) (M 7 (ix p0) < 8)) = 0 then (kcM M (ix p0) (ix p1) (ix p2) (ix p3)) else M) := by
  have h40 := hI.2.1
  split
  · next hx0 =>
    obtain ⟨⟨i, hi, rfl⟩, ⟨c1, c2, c3⟩, h8⟩ := x3_z hx0
    obtain ⟨b1, hb10, hb1, rfl⟩ := (zB_iff (by omega) (by decide)).mp c1
    obtain ⟨b2, hb20, hb2, rfl⟩ := (zB_iff (by omega) (by decide)).mp c2
    obtain ⟨b3, hb30, hb3, rfl⟩ := (zB_iff (by omega) (by decide)).mp c3
    try rw [ix_nI (show i < 2 ^ 31 by omega)]
    try rw [ix_nI (show b1 < 2 ^ 31 by omega)]
    try rw [ix_nI (show b2 < 2 ^ 31 by omega)]
    try rw [ix_nI (show b3 < 2 ^ 31 by omega)]
    rw [ix_nI (show i < 2 ^ 31 by omega)] at h8
    exact zInv_kc hI hi h8 (by omega) hb2 hb3
  · exact hI
set_option maxRecDepth 100000 in
set_option maxHeartbeats 2000000 in
theorem iz_setPromise {M : Nat → Nat → Nat} (hI : zInv M) (p0 p1 p2 : Int32) : zInv (if (x3 (True) ((nI 0 ≤ p0 ∧ p0 ≤ nI 2) ∧ (nI 0 ≤ p1 ∧ p1 ≤ nI 2) ∧ (nI 1 ≤ p2 ∧ p2 ≤ nI 1000)) (True)) = 0 then (zu M 8 (3 * ix p0 + ix p1) (ix p2)) else M) := by
  have h40 := hI.2.1
  split
  · next hx0 =>
    obtain ⟨-, ⟨c1, c2, c3⟩, -⟩ := x3_z hx0
    obtain ⟨b1, hb10, hb1, rfl⟩ := (zB_iff (by omega) (by decide)).mp c1
    obtain ⟨b2, hb20, hb2, rfl⟩ := (zB_iff (by omega) (by decide)).mp c2
    obtain ⟨b3, hb30, hb3, rfl⟩ := (zB_iff (by omega) (by decide)).mp c3
    try rw [ix_nI (show b1 < 2 ^ 31 by omega)]
    try rw [ix_nI (show b2 < 2 ^ 31 by omega)]
    try rw [ix_nI (show b3 < 2 ^ 31 by omega)]
    exact zInv_prom hI ⟨hb30, hb3⟩
  · exact hI
set_option maxRecDepth 100000 in
set_option maxHeartbeats 2000000 in
theorem iz_pass {M : Nat → Nat → Nat} (hI : zInv M) (p0 : Int32) : zInv (if (x3 (True) (nI 1 ≤ p0 ∧ p0 ≤ nI 1000) (M 0 0 + ix p0 ≤ 24000)) = 0 then (zu (rkM M (M 0 0) (M 0 0 + ix p0) (M 0 1)) 0 0 (M 0 0 + ix p0)) else M) := by
  split
  · next hx0 =>
    obtain ⟨-, -, h8⟩ := x3_z hx0
    exact zInv_pass hI h8
  · exact hI
set_option maxRecDepth 100000 in
set_option maxHeartbeats 2000000 in
theorem iz_open {M : Nat → Nat → Nat} (hI : zInv M) (p0 p1 p2 : Int32) : zInv (if (x3 (zI 4 p0 ∧ zI 4 p1) (nI 0 ≤ p2 ∧ p2 ≤ nI 2) (M 0 1 < 40)) = 0 then (opM M (ix p0) (ix p1) (ix p2)) else M) := by
  have h40 := hI.2.1
  split
  · next hx0 =>
    obtain ⟨⟨⟨i, hi, rfl⟩, ⟨j, hj, rfl⟩⟩, c1, h8⟩ := x3_z hx0
    obtain ⟨b1, hb10, hb1, rfl⟩ := (zB_iff (by omega) (by decide)).mp c1
    try rw [ix_nI (show i < 2 ^ 31 by omega)]
    try rw [ix_nI (show j < 2 ^ 31 by omega)]
    try rw [ix_nI (show b1 < 2 ^ 31 by omega)]
    exact zInv_open hI h8 hi hj hb1
  · exact hI
set_option maxRecDepth 100000 in
set_option maxHeartbeats 2000000 in
theorem iz_reach {M : Nat → Nat → Nat} (hI : zInv M) (p0 p1 : Int32) : zInv (if (x3 (zI (M 0 1) p0) (nI 0 ≤ p1 ∧ p1 ≤ nI 2) (M 12 (ix p0) = 0 ∧ ¬ ix p1 < M 16 (ix p0))) = 0 then (reM M (ix p0) (ix p1)) else M) := by
  have h40 := hI.2.1
  split
  · next hx0 =>
    obtain ⟨⟨i, hi, rfl⟩, c1, -⟩ := x3_z hx0
    obtain ⟨b1, hb10, hb1, rfl⟩ := (zB_iff (by omega) (by decide)).mp c1
    try rw [ix_nI (show i < 2 ^ 31 by omega)]
    try rw [ix_nI (show b1 < 2 ^ 31 by omega)]
    exact zInv_reach hI hi hb1
  · exact hI
set_option maxRecDepth 100000 in
set_option maxHeartbeats 2000000 in
theorem iz_rest {M : Nat → Nat → Nat} (hI : zInv M) (p0 : Int32) (b1 : Nat) (hb1 : b1 ≤ 1) : zInv (if (x3 (zI (M 0 1) p0) (True) (M 12 (ix p0) = 0)) = 0 then (zu M 14 (ix p0) b1) else M) := by
  have h40 := hI.2.1
  split
  · next hx0 =>
    obtain ⟨⟨i, hi, rfl⟩, -, -⟩ := x3_z hx0
    try rw [ix_nI (show i < 2 ^ 31 by omega)]
    exact zInv_rest hI hi hb1
  · exact hI
set_option maxRecDepth 100000 in
set_option maxHeartbeats 2000000 in
theorem iz_setGravity {M : Nat → Nat → Nat} (hI : zInv M) (p0 p1 : Int32) : zInv (if (x3 (zI (M 0 1) p0) (nI 0 ≤ p1 ∧ p1 ≤ nI 2) (M 12 (ix p0) = 0)) = 0 then (zu M 11 (ix p0) (ix p1)) else M) := by
  have h40 := hI.2.1
  split
  · next hx0 =>
    obtain ⟨⟨i, hi, rfl⟩, c1, -⟩ := x3_z hx0
    obtain ⟨b1, hb10, hb1, rfl⟩ := (zB_iff (by omega) (by decide)).mp c1
    try rw [ix_nI (show i < 2 ^ 31 by omega)]
    try rw [ix_nI (show b1 < 2 ^ 31 by omega)]
    exact zInv_grav hI hi (by omega)
  · exact hI
set_option maxRecDepth 100000 in
set_option maxHeartbeats 2000000 in
theorem iz_join {M : Nat → Nat → Nat} (hI : zInv M) (p0 p1 : Int32) : zInv (if (x3 (zI (M 0 1) p0 ∧ zI (M 0 1) p1) (ix p0 ≠ ix p1 ∧ M 9 (ix p0) = M 9 (ix p1)) (M 12 (ix p0) = 0 ∧ M 12 (ix p1) = 0 ∧ jN M (ix p0) (M 0 1) = 0)) = 0 then (zu (zu M 12 (ix p0) 1) 13 (ix p0) (ix p1 + 1)) else M) := by
  have h40 := hI.2.1
  split
  · next hx0 =>
    obtain ⟨⟨⟨i, hi, rfl⟩, ⟨j, hj, rfl⟩⟩, -, -⟩ := x3_z hx0
    try rw [ix_nI (show i < 2 ^ 31 by omega)]
    try rw [ix_nI (show j < 2 ^ 31 by omega)]
    exact zInv_join hI hi hj
  · exact hI
set_option maxRecDepth 100000 in
set_option maxHeartbeats 2000000 in
theorem iz_openAnew {M : Nat → Nat → Nat} (hI : zInv M) (p0 : Int32) : zInv (if (x3 (zI (M 0 1) p0) (True) (M 12 (ix p0) = 2)) = 0 then (zu (zu (zu M 12 (ix p0) 0) 14 (ix p0) 0) 16 (ix p0) (min (M 16 (ix p0)) 2)) else M) := by
  have h40 := hI.2.1
  split
  · next hx0 =>
    obtain ⟨⟨i, hi, rfl⟩, -, -⟩ := x3_z hx0
    try rw [ix_nI (show i < 2 ^ 31 by omega)]
    exact zInv_openAnew hI hi
  · exact hI
