/-! TWO DESKS, MOVED ON, ANSWER ALIKE, and are moved on behind each call. -/
theorem x3_cg {a b c a' b' c' : Prop} (ha : a' ↔ a) (hb1 : a → (b' ↔ b)) (hc : a → (c' ↔ c)) : x3 a' b' c' = x3 a b c := by
  by_cases h : a
  · rw [propext ha, propext (hb1 h), propext (hc h)]
  · rw [x3_1 h, x3_1 (fun zz1 => h (ha.mp zz1))]
section LK
variable {g : Nat} {M N : Nat → Nat → Nat} {O P : Nat → Nat → Int32}
theorem zI_sg {i : Nat} (hi : i < 4) : zI 4 (nI (sg g i)) ↔ zI 4 (nI i) := ⟨fun _ => ⟨i, hi, rfl⟩, fun _ => ⟨_, sg_lt, rfl⟩⟩
theorem ix_s {i : Nat} (hi : i < 4) : ix (nI i) = i := ix_nI (by omega)
theorem ix_g {i : Nat} : ix (nI (sg g i)) = sg g i := ix_nI (by have := @sg_lt g i; omega)
theorem sy_set (h : Sy g M O N P) (hI : zInv M) {w : Nat} (hw : w < 6) {p0 q0 : Int32} (hp : (w = 2 ∨ w = 3) ∨ ∃ i, i < 4 ∧ p0 = nI i ∧ q0 = nI (sg g i)) (p1 p2 p3 : Int32) :
    tsX N P w q0 p1 p2 p3 = tsX M O w p0 p1 p2 p3 ∧ (tsX M O w p0 p1 p2 p3 = 0 → tsV N P w q0 p1 p2 p3 = tsV M O w p0 p1 p2 p3 ∧ Sy g (tsM M O w p0 p1 p2 p3) (tsO M O w p0 p1 p2 p3) (tsM N P w q0 p1 p2 p3) (tsO N P w q0 p1 p2 p3)) := by
  obtain ⟨e1, e2, e3, e4, e5⟩ := id h
  have n00 : N 0 0 = M 0 0 := e1 0 0 (by omega) (by omega)
  have n01 : N 0 1 = M 0 1 := e1 0 1 (by omega) (by omega)
  rcases (show w = 0 ∨ w = 1 ∨ w = 2 ∨ w = 3 ∨ w = 4 ∨ w = 5 by omega) with rfl | rfl | rfl | rfl | rfl | rfl
  · obtain ⟨i, hi, rfl, rfl⟩ := hp.resolve_left (by omega)
    unfold tsX tsV tsM tsO
    simp only [ix_s hi, ix_g]
    refine ⟨x3_cg (zI_sg hi) (fun _ => Iff.rfl) (fun _ => Iff.rfl), fun _ => ⟨by rw [e2 1 i (by omega) hi], sy_site (sy_site (sy_site h (by omega) hi) (by omega) hi) (by omega) hi⟩⟩
  · obtain ⟨i, hi, rfl, rfl⟩ := hp.resolve_left (by omega)
    unfold tsX tsV tsM tsO
    simp only [ix_s hi, ix_g]
    have n7 : N 7 (sg g i) = M 7 i := e2 7 i (by omega) hi
    refine ⟨x3_cg (zI_sg hi) (fun _ => Iff.rfl) (fun _ => by rw [n7]), fun hx0 => ?_⟩
    obtain ⟨-, -, h8⟩ := x3_z hx0
    have key : Sy g (kcM M i (ix p1) (ix p2) (ix p3)) O (kcM N (sg g i) (ix p1) (ix p2) (ix p3)) P := by
      rw [kcM_y h8, kcM_y (by rw [n7]; exact h8), n7]
      exact sy_site (sy_con (sy_con (sy_con h (by omega) hi h8) (by omega) hi h8) (by omega) hi h8) (by omega) hi
    exact ⟨by rw [key.2.1 7 i (by omega) hi], key⟩
  · unfold tsX tsV tsM tsO
    exact ⟨rfl, fun _ => ⟨congrArg nI (e1 8 _ (by omega) (by omega)), sy_oth h (by omega) (by omega) (by omega)⟩⟩
  · unfold tsX tsV tsM tsO
    simp only [n00, n01]
    exact ⟨trivial, fun _ => ⟨trivial, sy_oth (sy_run h hI _ _) (by omega) (by omega) (by omega)⟩⟩
  · obtain ⟨i, hi, rfl, rfl⟩ := hp.resolve_left (by omega)
    unfold tsX tsV tsM tsO
    simp only [ix_s hi, ix_g, e5 0 i hi, e5 1 i hi]
    exact ⟨x3_cg (zI_sg hi) (fun _ => Iff.rfl) (fun _ => Iff.rfl), fun _ => ⟨trivial, sy_o (sy_o h hi) hi⟩⟩
  · obtain ⟨i, hi, rfl, rfl⟩ := hp.resolve_left (by omega)
    unfold tsX tsV tsM tsO
    simp only [ix_s hi, ix_g, n01]
    refine ⟨x3_cg (and_congr_left' (zI_sg hi)) (fun _ => Iff.rfl) (fun _ => Iff.rfl), fun _ => ⟨trivial, sy_open h hi _ _⟩⟩
theorem sy_cr (h : Sy g M O N P) (hI : zInv M) {a : Nat} (ha : a < M 0 1) (n : Nat) : Sy g M (crO M O a n) N (crO N P a n) := by
  obtain ⟨e1, e2, e3, e4, e5⟩ := id h
  have h9 : M 9 a < 4 := (hI.2.2.2.2.1 a ha).1
  have n9 := e4 a ha
  have n00 : N 0 0 = M 0 0 := e1 0 0 (by omega) (by omega)
  have n10 : N 10 a = M 10 a := e1 10 a (by omega) (by omega)
  by_cases q : cov M (M 9 a) (M 10 a) (M 0 0 / 24)
  · have q2 : cov N (N 9 a) (N 10 a) (N 0 0 / 24) := by rw [n9, n00, n10]; exact (sy_cov h hI h9 _ _).mpr q
    rw [crO_t q, crO_t q2, n9, e5 1 _ h9]
    exact sy_o h h9
  · have q2 : ¬ cov N (N 9 a) (N 10 a) (N 0 0 / 24) := by rw [n9, n00, n10]; exact fun zz1 => q ((sy_cov h hI h9 _ _).mp zz1)
    rw [crO_f q, crO_f q2]
    exact h
theorem sy_trade {M1 N1 : Nat → Nat → Nat} {O1 P1 : Nat → Nat → Int32} (h : Sy g M O1 N P1) (h1 : Sy g M1 O N1 P) : Sy g M1 O1 N1 P1 := ⟨h1.1, h1.2.1, h1.2.2.1, h1.2.2.2.1, h.2.2.2.2⟩
theorem sy_wk (h : Sy g M O N P) (hI : zInv M) {a : Nat} (ha : a < M 0 1) (hh : Nat) : wkR N P a hh = wkR M O a hh ∧ Sy g M (wkO M O a hh) N (wkO N P a hh) := by
  obtain ⟨e1, e2, e3, e4, e5⟩ := id h
  have h9 : M 9 a < 4 := (hI.2.2.2.2.1 a ha).1
  have n9 := e4 a ha
  have n00 : N 0 0 = M 0 0 := e1 0 0 (by omega) (by omega)
  have n10 : N 10 a = M 10 a := e1 10 a (by omega) (by omega)
  have kU : wkU P (sg g (M 9 a)) hh = wkU O (M 9 a) hh := by unfold wkU; rw [e5 0 _ h9]
  have kC : wkC P (sg g (M 9 a)) hh = wkC O (M 9 a) hh := by unfold wkC; rw [kU]
  by_cases q : cov M (M 9 a) (M 10 a) (M 0 0 / 24)
  · have q2 : cov N (N 9 a) (N 10 a) (N 0 0 / 24) := by rw [n9, n00, n10]; exact (sy_cov h hI h9 _ _).mpr q
    rw [wkR_t q, wkR_t q2, wkO_t q, wkO_t q2]
    exact ⟨rfl, h⟩
  · have q2 : ¬ cov N (N 9 a) (N 10 a) (N 0 0 / 24) := by rw [n9, n00, n10]; exact fun zz1 => q ((sy_cov h hI h9 _ _).mp zz1)
    rw [wkR_f q, wkR_f q2, wkO_f q, wkO_f q2, n9, kC, kU, e5 0 _ h9, e5 1 _ h9]
    exact ⟨rfl, sy_o (sy_o h h9) h9⟩
theorem sy_does (h : Sy g M O N P) (hI : zInv M) {w : Nat} (hw : w < 6) (p0 p1 : Int32) :
    tdX N P w p0 p1 = tdX M O w p0 p1 ∧ (tdX M O w p0 p1 = 0 → tdV N P w p0 p1 = tdV M O w p0 p1 ∧ Sy g (tdM M O w p0 p1) (tdO M O w p0 p1) (tdM N P w p0 p1) (tdO N P w p0 p1)) := by
  obtain ⟨e1, e2, e3, e4, e5⟩ := id h
  have n00 : N 0 0 = M 0 0 := e1 0 0 (by omega) (by omega)
  have n01 : N 0 1 = M 0 1 := e1 0 1 (by omega) (by omega)
  have n12 : ∀ x, N 12 x = M 12 x := fun x => e1 12 x (by omega) (by omega)
  have n16 : ∀ x, N 16 x = M 16 x := fun x => e1 16 x (by omega) (by omega)
  have h40 := hI.2.1
  rcases (show w = 0 ∨ w = 1 ∨ w = 2 ∨ w = 3 ∨ w = 4 ∨ w = 5 by omega) with rfl | rfl | rfl | rfl | rfl | rfl
  · unfold tdX tdV tdM tdO
    simp only [n01, n12, n16]
    refine ⟨trivial, fun hx0 => ?_⟩
    obtain ⟨⟨a, ha, rfl⟩, -, -⟩ := x3_z hx0
    rw [ix_nI (show a < 2 ^ 31 by omega)]
    have k1 : Sy g (zu M 16 a (ix p1 + 1)) O (zu N 16 a (ix p1 + 1)) P := sy_oth h (by omega) (by omega) (by omega)
    refine ⟨by rw [ot_mN k1.1], ?_⟩
    unfold reM reO
    by_cases q : ix p1 = 2
    · rw [if_pos q, if_pos q, if_pos q, if_pos q, ot_mN k1.1, n01]
      exact sy_trade (sy_cr h hI ha _) (sy_clM (sy_oth k1 (by omega) (by omega) (by omega)) _ _)
    · rw [if_neg q, if_neg q, if_neg q, if_neg q]
      exact k1
  · unfold tdX tdV tdM tdO
    simp only [n01, n12]
    exact ⟨trivial, fun _ => ⟨by rw [e1 14 _ (by omega) (by omega)], sy_oth h (by omega) (by omega) (by omega)⟩⟩
  · unfold tdX tdV tdM tdO
    simp only [n01, n12]
    exact ⟨trivial, fun _ => ⟨by rw [e1 11 _ (by omega) (by omega)], sy_oth h (by omega) (by omega) (by omega)⟩⟩
  · unfold tdX tdV tdM tdO
    simp only [n01, n12]
    have k1 : Sy g (zu (zu M 12 (ix p0) 1) 13 (ix p0) (ix p1 + 1)) O (zu (zu N 12 (ix p0) 1) 13 (ix p0) (ix p1 + 1)) P := sy_oth (sy_oth h (by omega) (by omega) (by omega)) (by omega) (by omega) (by omega)
    refine ⟨x3_cg Iff.rfl (fun hx1 => ?_) (fun _ => by rw [ot_jN e1]), fun _ => ⟨by rw [ot_jN k1.1], k1⟩⟩
    obtain ⟨⟨a, ha, rfl⟩, ⟨b, hb1, rfl⟩⟩ := hx1
    rw [ix_nI (show a < 2 ^ 31 by omega), ix_nI (show b < 2 ^ 31 by omega), e4 a ha, e4 b hb1]
    exact and_congr_right' ⟨fun zz1 => sg_inj (hI.2.2.2.2.1 a ha).1 (hI.2.2.2.2.1 b hb1).1 zz1, fun zz1 => by rw [zz1]⟩
  · unfold tdX tdV tdM tdO
    simp only [n01, n12, n16]
    exact ⟨trivial, fun _ => ⟨by rw [e1 15 _ (by omega) (by omega)], sy_oth (sy_oth (sy_oth h (by omega) (by omega) (by omega)) (by omega) (by omega) (by omega)) (by omega) (by omega) (by omega)⟩⟩
  · unfold tdX tdV tdM tdO
    simp only [n01, n12]
    refine ⟨trivial, fun hx0 => ?_⟩
    obtain ⟨⟨a, ha, rfl⟩, -, -⟩ := x3_z hx0
    rw [ix_nI (show a < 2 ^ 31 by omega)]
    exact sy_wk h hI ha _
theorem sy_by (h : Sy g M O N P) (hI : zInv M) {w : Nat} (hw : w < 6) {i : Nat} (hi : i < 4) (p1 p2 : Int32) :
    tbX N P w (nI (sg g i)) p1 p2 = tbX M O w (nI i) p1 p2 ∧ (tbX M O w (nI i) p1 p2 = 0 → tbV N P w (nI (sg g i)) p1 p2 = tbV M O w (nI i) p1 p2) := by
  obtain ⟨e1, e2, e3, e4, e5⟩ := id h
  rcases (show w = 0 ∨ w = 1 ∨ w = 2 ∨ w = 3 ∨ w = 4 ∨ w = 5 by omega) with rfl | rfl | rfl | rfl | rfl | rfl
  · unfold tbX tbV
    simp only [ix_s hi, ix_g]
    exact ⟨x3_cg (zI_sg hi) (fun _ => Iff.rfl) (fun _ => Iff.rfl), fun _ => e5 0 i hi⟩
  · unfold tbX tbV
    simp only [ix_s hi, ix_g]
    exact ⟨x3_cg (zI_sg hi) (fun _ => Iff.rfl) (fun _ => Iff.rfl), fun _ => e5 1 i hi⟩
  · unfold tbX tbV
    simp only [ix_s hi, ix_g, sy_hN h hi]
    exact ⟨x3_cg (zI_sg hi) (fun _ => Iff.rfl) (fun _ => Iff.rfl), fun _ => trivial⟩
  · unfold tbX tbV
    simp only [ix_s hi, ix_g, sy_hN h hi]
    exact ⟨x3_cg (zI_sg hi) (fun _ => Iff.rfl) (fun _ => Iff.rfl), fun _ => trivial⟩
  · unfold tbX tbV
    simp only [ix_s hi, ix_g]
    exact ⟨x3_cg (and_congr_left' (zI_sg hi)) (fun _ => Iff.rfl) (fun _ => Iff.rfl), fun _ => sy_ngF h hI hi _ _ _⟩
  · unfold tbX tbV
    simp only [ix_s hi, ix_g]
    exact ⟨x3_cg (and_congr_left' (zI_sg hi)) (fun _ => Iff.rfl) (fun _ => Iff.rfl), fun _ => by rw [bI_c (sy_cov h hI hi _ _)]⟩
theorem sy_of (h : Sy g M O N P) {w : Nat} (hw : w < 8) (p0 : Int32) : tfX N P w p0 = tfX M O w p0 ∧ tfV N P w p0 = tfV M O w p0 := by
  obtain ⟨e1, e2, e3, e4, e5⟩ := id h
  have n01 : N 0 1 = M 0 1 := e1 0 1 (by omega) (by omega)
  have n8 : ∀ x, N 8 x = M 8 x := fun x => e1 8 x (by omega) (by omega)
  have n11 : ∀ x, N 11 x = M 11 x := fun x => e1 11 x (by omega) (by omega)
  have n12 : ∀ x, N 12 x = M 12 x := fun x => e1 12 x (by omega) (by omega)
  have n15 : ∀ x, N 15 x = M 15 x := fun x => e1 15 x (by omega) (by omega)
  rcases (show w = 0 ∨ w = 1 ∨ w = 2 ∨ w = 3 ∨ w = 4 ∨ w = 5 ∨ w = 6 ∨ w = 7 by omega) with rfl | rfl | rfl | rfl | rfl | rfl | rfl | rfl <;> unfold tfX tfV <;> simp only [n01, n8, n11, n12, n15, ot_gS e1] <;> exact ⟨trivial, trivial⟩
theorem iz_set (hI : zInv M) {w : Nat} (hw : w < 6) (p0 p1 p2 p3 : Int32) : zInv (if tsX M O w p0 p1 p2 p3 = 0 then tsM M O w p0 p1 p2 p3 else M) := by
  rcases (show w = 0 ∨ w = 1 ∨ w = 2 ∨ w = 3 ∨ w = 4 ∨ w = 5 by omega) with rfl | rfl | rfl | rfl | rfl | rfl
  · exact iz_setCalendar hI p0 p1 p2 p3
  · exact iz_addContract hI p0 p1 p2 p3
  · exact iz_setPromise hI p1 p2 p3
  · exact iz_pass hI p1
  · split <;> exact hI
  · exact iz_open hI p0 p1 p2
theorem iz_does (hI : zInv M) {w : Nat} (hw : w < 6) (p0 p1 : Int32) : zInv (if tdX M O w p0 p1 = 0 then tdM M O w p0 p1 else M) := by
  rcases (show w = 0 ∨ w = 1 ∨ w = 2 ∨ w = 3 ∨ w = 4 ∨ w = 5 by omega) with rfl | rfl | rfl | rfl | rfl | rfl
  · exact iz_reach hI p0 p1
  · exact iz_rest hI p0 (if p1 = nI 1 then 1 else 0) (by split <;> decide)
  · exact iz_setGravity hI p0 p1
  · exact iz_join hI p0 p1
  · exact iz_openAnew hI p0
  · split <;> exact hI
end LK
