/-! THE LAW'S HELPERS, each one contract: which exception, which answer, which state. -/
noncomputable def tsX (M : Nat → Nat → Nat) (O : Nat → Nat → Int32) (w : Nat) (p0 p1 p2 p3 : Int32) : Nat :=
  match w with
  | 0 => (x3 (zI 4 p0) ((nI 0 ≤ p1 ∧ p1 ≤ nI 127) ∧ (nI 0 ≤ p2 ∧ p2 ≤ nI 23) ∧ (p2 ≤ p3 ∧ p3 ≤ nI 23)) (True))
  | 1 => (x3 (zI 4 p0) ((nI 1 ≤ p1 ∧ p1 ≤ nI 15) ∧ (nI 0 ≤ p2 ∧ p2 ≤ nI 1000) ∧ (p2 ≤ p3 ∧ p3 ≤ nI 1000)) (M 7 (ix p0) < 8))
  | 2 => (x3 (True) ((nI 0 ≤ p1 ∧ p1 ≤ nI 2) ∧ (nI 0 ≤ p2 ∧ p2 ≤ nI 2) ∧ (nI 1 ≤ p3 ∧ p3 ≤ nI 1000)) (True))
  | 3 => (x3 (True) (nI 1 ≤ p1 ∧ p1 ≤ nI 1000) (M 0 0 + ix p1 ≤ 24000))
  | 4 => (x3 (zI 4 p0) (nI 1 ≤ p1 ∧ p1 ≤ nI 100) (True))
  | _ => (x3 (zI 4 p0 ∧ zI 4 p1) (nI 0 ≤ p2 ∧ p2 ≤ nI 2) (M 0 1 < 40))
noncomputable def tsV (M : Nat → Nat → Nat) (O : Nat → Nat → Int32) (w : Nat) (p0 p1 p2 p3 : Int32) : Int32 :=
  match w with
  | 0 => (nI (M 1 (ix p0)))
  | 1 => (nI (kcM M (ix p0) (ix p1) (ix p2) (ix p3) 7 (ix p0)))
  | 2 => (nI (M 8 (3 * ix p1 + ix p2)))
  | 3 => (nI (M 0 0 + ix p1))
  | 4 => (O 0 (ix p0) + nI (ix p1))
  | _ => (nI (M 0 1))
noncomputable def tsM (M : Nat → Nat → Nat) (O : Nat → Nat → Int32) (w : Nat) (p0 p1 p2 p3 : Int32) : Nat → Nat → Nat :=
  match w with
  | 0 => (zu (zu (zu M 1 (ix p0) (ix p1)) 2 (ix p0) (ix p2)) 3 (ix p0) (ix p3))
  | 1 => (kcM M (ix p0) (ix p1) (ix p2) (ix p3))
  | 2 => (zu M 8 (3 * ix p1 + ix p2) (ix p3))
  | 3 => (zu (rkM M (M 0 0) (M 0 0 + ix p1) (M 0 1)) 0 0 (M 0 0 + ix p1))
  | 4 => (M)
  | _ => (opM M (ix p0) (ix p1) (ix p2))
noncomputable def tsO (M : Nat → Nat → Nat) (O : Nat → Nat → Int32) (w : Nat) (p0 p1 p2 p3 : Int32) : Nat → Nat → Int32 :=
  match w with
  | 0 => (O)
  | 1 => (O)
  | 2 => (O)
  | 3 => (O)
  | 4 => (zo (zo O 0 (ix p0) (O 0 (ix p0) + nI (ix p1))) 1 (ix p0) (O 1 (ix p0) + nI (ix p1 * 7000)))
  | _ => (O)
set_option maxRecDepth 100000 in
set_option maxHeartbeats 2000000 in
theorem c_L_set (l : Launch) (hfl : l.stackTraces = false) (sa : Nat → Nat) (D : va_G) (k : Nat → ClassId) (ad : Nat → Nat) (M : Nat → Nat → Nat) (O : Nat → Nat → Int32) (sz : Nat) (hI : zInv M) (w : Nat) (hw : w < 6) (p0 p1 p2 p3 : Int32) : vx_Met l yL_set wsL_set ({ frames := 9, cells := 6, slots := 35, locals := 150 }) (va_Pc [.ref (ad 0), .int (nI w), .int p0, .int p1, .int p2, .int p3] (tPre D k ad M O sz sa)) (tQ D k ad M (if tsX M O w p0 p1 p2 p3 = 0 then tsM M O w p0 p1 p2 p3 else M) (if tsX M O w p0 p1 p2 p3 = 0 then tsO M O w p0 p1 p2 p3 else O) (va_A (zw (20 + 2 * M 0 1) ad (cX k ad M O)) sz) (rV (tsX M O w p0 p1 p2 p3) (tsV M O w p0 p1 p2 p3))) (zX (fun _ => False)) 6 35 (va_A (zw (20 + 2 * M 0 1) ad (cX k ad M O)) sz) := by
  rcases (show w = 0 ∨ w = 1 ∨ w = 2 ∨ w = 3 ∨ w = 4 ∨ w = 5 by omega) with rfl | rfl | rfl | rfl | rfl | rfl
  · exact c_L_set0 l sa D k ad M O sz p0 p1 p2 p3 (c_X2_setCalendar l hfl sa D k ad M O sz hI p0 p1 p2 p3) (fun hq0 => ⟨if_pos hq0, if_pos hq0⟩) (fun hq0 => ⟨if_neg hq0, if_neg hq0⟩)
  · exact c_L_set1 l sa D k ad M O sz p0 p1 p2 p3 (c_X2_addContract l hfl sa D k ad M O sz hI p0 p1 p2 p3) (fun hq0 => ⟨if_pos hq0, if_pos hq0⟩) (fun hq0 => ⟨if_neg hq0, if_neg hq0⟩)
  · exact c_L_set2 l sa D k ad M O sz p0 p1 p2 p3 (c_X2_setPromise l hfl sa D k ad M O sz hI p1 p2 p3) (fun hq0 => ⟨if_pos hq0, if_pos hq0⟩) (fun hq0 => ⟨if_neg hq0, if_neg hq0⟩)
  · exact c_L_set3 l sa D k ad M O sz p0 p1 p2 p3 (c_X2_pass l hfl sa D k ad M O sz hI p1) (fun hq0 => ⟨if_pos hq0, if_pos hq0⟩) (fun hq0 => ⟨if_neg hq0, if_neg hq0⟩)
  · exact c_L_set4 l sa D k ad M O sz p0 p1 p2 p3 (c_X2_buy l hfl sa D k ad M O sz hI p0 p1) (fun hq0 => ⟨if_pos hq0, if_pos hq0⟩) (fun hq0 => ⟨if_neg hq0, if_neg hq0⟩)
  · exact c_L_set5 l sa D k ad M O sz p0 p1 p2 p3 (c_X2_open l hfl sa D k ad M O sz hI p0 p1 p2) (fun hq0 => ⟨if_pos hq0, if_pos hq0⟩) (fun hq0 => ⟨if_neg hq0, if_neg hq0⟩)
noncomputable def tdX (M : Nat → Nat → Nat) (O : Nat → Nat → Int32) (w : Nat) (p0 p1 : Int32) : Nat :=
  match w with
  | 0 => (x3 (zI (M 0 1) p0) (nI 0 ≤ p1 ∧ p1 ≤ nI 2) (M 12 (ix p0) = 0 ∧ ¬ ix p1 < M 16 (ix p0)))
  | 1 => (x3 (zI (M 0 1) p0) (True) (M 12 (ix p0) = 0))
  | 2 => (x3 (zI (M 0 1) p0) (nI 0 ≤ p1 ∧ p1 ≤ nI 2) (M 12 (ix p0) = 0))
  | 3 => (x3 (zI (M 0 1) p0 ∧ zI (M 0 1) p1) (ix p0 ≠ ix p1 ∧ M 9 (ix p0) = M 9 (ix p1)) (M 12 (ix p0) = 0 ∧ M 12 (ix p1) = 0 ∧ jN M (ix p0) (M 0 1) = 0))
  | 4 => (x3 (zI (M 0 1) p0) (True) (M 12 (ix p0) = 2))
  | _ => (x3 (zI (M 0 1) p0) (nI 1 ≤ p1 ∧ p1 ≤ nI 100) (M 12 (ix p0) = 0))
noncomputable def tdV (M : Nat → Nat → Nat) (O : Nat → Nat → Int32) (w : Nat) (p0 p1 : Int32) : Int32 :=
  match w with
  | 0 => (nI (mN (zu M 16 (ix p0) (ix p1 + 1)) (ix p0) 3))
  | 1 => fB (nI (M 14 (ix p0)))
  | 2 => (nI (M 11 (ix p0)))
  | 3 => (nI (jN (zu (zu M 12 (ix p0) 1) 13 (ix p0) (ix p1 + 1)) (ix p1) (M 0 1)))
  | 4 => (nI (M 15 (3 * ix p0 + 2)))
  | _ => (wkR M O (ix p0) (ix p1))
noncomputable def tdM (M : Nat → Nat → Nat) (O : Nat → Nat → Int32) (w : Nat) (p0 p1 : Int32) : Nat → Nat → Nat :=
  match w with
  | 0 => (reM M (ix p0) (ix p1))
  | 1 => (zu M 14 (ix p0) (if p1 = nI 1 then 1 else 0))
  | 2 => (zu M 11 (ix p0) (ix p1))
  | 3 => (zu (zu M 12 (ix p0) 1) 13 (ix p0) (ix p1 + 1))
  | 4 => (zu (zu (zu M 12 (ix p0) 0) 14 (ix p0) 0) 16 (ix p0) (min (M 16 (ix p0)) 2))
  | _ => (M)
noncomputable def tdO (M : Nat → Nat → Nat) (O : Nat → Nat → Int32) (w : Nat) (p0 p1 : Int32) : Nat → Nat → Int32 :=
  match w with
  | 0 => (reO M O (ix p0) (ix p1))
  | 1 => (O)
  | 2 => (O)
  | 3 => (O)
  | 4 => (O)
  | _ => (wkO M O (ix p0) (ix p1))
set_option maxRecDepth 100000 in
set_option maxHeartbeats 2000000 in
theorem c_L_does (l : Launch) (hfl : l.stackTraces = false) (sa : Nat → Nat) (D : va_G) (k : Nat → ClassId) (ad : Nat → Nat) (M : Nat → Nat → Nat) (O : Nat → Nat → Int32) (sz : Nat) (hI : zInv M) (w : Nat) (hw : w < 6) (p0 p1 : Int32) : vx_Met l yL_does wsL_does ({ frames := 9, cells := 4, slots := 24, locals := 150 }) (va_Pc [.ref (ad 0), .int (nI w), .int p0, .int p1] (tPre D k ad M O sz sa)) (tQ D k ad M (if tdX M O w p0 p1 = 0 then tdM M O w p0 p1 else M) (if tdX M O w p0 p1 = 0 then tdO M O w p0 p1 else O) (va_A (zw (20 + 2 * M 0 1) ad (cX k ad M O)) sz) (rV (tdX M O w p0 p1) (tdV M O w p0 p1))) (zX (fun _ => False)) 4 24 (va_A (zw (20 + 2 * M 0 1) ad (cX k ad M O)) sz) := by
  rcases (show w = 0 ∨ w = 1 ∨ w = 2 ∨ w = 3 ∨ w = 4 ∨ w = 5 by omega) with rfl | rfl | rfl | rfl | rfl | rfl
  · exact c_L_does0 l sa D k ad M O sz p0 p1 (c_X2_reach l hfl sa D k ad M O sz hI p0 p1) (fun hq0 => ⟨if_pos hq0, if_pos hq0⟩) (fun hq0 => ⟨if_neg hq0, if_neg hq0⟩)
  · by_cases hz1 : p1 = nI 1
    · have hbe : (if p1 = nI 1 then (1 : Nat) else 0) = 1 := if_pos hz1
      have hMe : tdM M O 1 p0 p1 = zu M 14 (ix p0) 1 := congrArg (fun zf => zu M 14 (ix p0) zf) hbe
      exact c_L_does1 l sa D k ad M O sz p0 p1 (b1 := 1) (fun _ => rfl) (fun zz1 => absurd hz1 zz1) (c_X2_rest l hfl sa D k ad M O sz hI p0 1 (by decide)) (fun hq0 => ⟨(if_pos hq0).trans hMe, if_pos hq0⟩) (fun hq0 => ⟨if_neg hq0, if_neg hq0⟩)
    · have hbe : (if p1 = nI 1 then (1 : Nat) else 0) = 0 := if_neg hz1
      have hMe : tdM M O 1 p0 p1 = zu M 14 (ix p0) 0 := congrArg (fun zf => zu M 14 (ix p0) zf) hbe
      exact c_L_does1 l sa D k ad M O sz p0 p1 (b1 := 0) (fun zz1 => absurd zz1 hz1) (fun _ => rfl) (c_X2_rest l hfl sa D k ad M O sz hI p0 0 (by decide)) (fun hq0 => ⟨(if_pos hq0).trans hMe, if_pos hq0⟩) (fun hq0 => ⟨if_neg hq0, if_neg hq0⟩)
  · exact c_L_does2 l sa D k ad M O sz p0 p1 (c_X2_setGravity l hfl sa D k ad M O sz hI p0 p1) (fun hq0 => ⟨if_pos hq0, if_pos hq0⟩) (fun hq0 => ⟨if_neg hq0, if_neg hq0⟩)
  · exact c_L_does3 l sa D k ad M O sz p0 p1 (c_X2_join l hfl sa D k ad M O sz hI p0 p1) (fun hq0 => ⟨if_pos hq0, if_pos hq0⟩) (fun hq0 => ⟨if_neg hq0, if_neg hq0⟩)
  · exact c_L_does4 l sa D k ad M O sz p0 p1 (c_X2_openAnew l hfl sa D k ad M O sz hI p0) (fun hq0 => ⟨if_pos hq0, if_pos hq0⟩) (fun hq0 => ⟨if_neg hq0, if_neg hq0⟩)
  · exact c_L_does5 l sa D k ad M O sz p0 p1 (c_X2_work l hfl sa D k ad M O sz hI p0 p1) (fun hq0 => ⟨if_pos hq0, if_pos hq0⟩) (fun hq0 => ⟨if_neg hq0, if_neg hq0⟩)
noncomputable def tbX (M : Nat → Nat → Nat) (O : Nat → Nat → Int32) (w : Nat) (p0 p1 p2 : Int32) : Nat :=
  match w with
  | 0 => (x3 (zI 4 p0) (True) (True))
  | 1 => (x3 (zI 4 p0) (True) (True))
  | 2 => (x3 (zI 4 p0) ((nI 0 ≤ p1 ∧ p1 ≤ nI 24000) ∧ (p1 ≤ p2 ∧ p2 ≤ nI 24000)) (True))
  | 3 => (x3 (zI 4 p0) ((nI 0 ≤ p1 ∧ p1 ≤ nI 24000) ∧ (p1 ≤ p2 ∧ p2 ≤ nI 24000)) (True))
  | 4 => (x3 (zI 4 p0 ∧ zI 4 (p1 - p1 / (nI 4) * (nI 4))) (nI 0 ≤ (p2 - p2 / (nI 1000) * (nI 1000)) ∧ (p2 - p2 / (nI 1000) * (nI 1000)) ≤ nI 1000) (True))
  | _ => (x3 (zI 4 p0 ∧ zI 4 (p1 - p1 / (nI 4) * (nI 4))) (nI 0 ≤ (p2 - p2 / (nI 1000) * (nI 1000)) ∧ (p2 - p2 / (nI 1000) * (nI 1000)) ≤ nI 1000) (True))
noncomputable def tbV (M : Nat → Nat → Nat) (O : Nat → Nat → Int32) (w : Nat) (p0 p1 p2 : Int32) : Int32 :=
  match w with
  | 0 => (O 0 (ix p0))
  | 1 => (O 1 (ix p0))
  | 2 => (nI (hN M (ix p0) (ix p2) - hN M (ix p0) (ix p1)))
  | 3 => (nI (hN M (ix p0) (ix p2) - hN M (ix p0) (ix p1)))
  | 4 => (ngF M (ix p0) (ix (p1 - p1 / (nI 4) * (nI 4))) (1001 - ix (p2 - p2 / (nI 1000) * (nI 1000))) (ix (p2 - p2 / (nI 1000) * (nI 1000))))
  | _ => fB (bI (cov M (ix p0) (ix (p1 - p1 / (nI 4) * (nI 4))) (ix (p2 - p2 / (nI 1000) * (nI 1000)))))
set_option maxRecDepth 100000 in
set_option maxHeartbeats 2000000 in
theorem c_L_by (l : Launch) (hfl : l.stackTraces = false) (sa : Nat → Nat) (D : va_G) (k : Nat → ClassId) (ad : Nat → Nat) (M : Nat → Nat → Nat) (O : Nat → Nat → Int32) (sz : Nat) (hI : zInv M) (w : Nat) (hw : w < 6) (p0 p1 p2 : Int32) : vx_Met l yL_by wsL_by ({ frames := 9, cells := 3, slots := 18, locals := 150 }) (va_Pc [.ref (ad 0), .int (nI w), .int p0, .int p1, .int p2] (tPre D k ad M O sz sa)) (tQ D k ad M M O (va_A (zw (20 + 2 * M 0 1) ad (cX k ad M O)) sz) (rV (tbX M O w p0 p1 p2) (tbV M O w p0 p1 p2))) (zX (fun _ => False)) 3 18 (va_A (zw (20 + 2 * M 0 1) ad (cX k ad M O)) sz) := by
  rcases (show w = 0 ∨ w = 1 ∨ w = 2 ∨ w = 3 ∨ w = 4 ∨ w = 5 by omega) with rfl | rfl | rfl | rfl | rfl | rfl
  · exact c_L_by0 l sa D k ad M O sz p0 p1 p2 (c_X2_ahead l hfl sa D k ad M O sz hI p0) x3_ne3 (fun _ => ⟨rfl, rfl⟩) (fun _ => ⟨rfl, rfl⟩)
  · exact c_L_by1 l sa D k ad M O sz p0 p1 p2 (c_X2_owes l hfl sa D k ad M O sz hI p0) x3_ne3 (fun _ => ⟨rfl, rfl⟩) (fun _ => ⟨rfl, rfl⟩)
  · exact c_L_by2 l sa D k ad M O sz p0 p1 p2 (c_X2_hours l hfl sa D k ad M O sz hI p0 p1 p2) x3_ne3 (fun _ => ⟨rfl, rfl⟩) (fun _ => ⟨rfl, rfl⟩)
  · exact c_L_by3 l sa D k ad M O sz p0 p1 p2 (c_X2_hoursOneByOne l hfl sa D k ad M O sz hI p0 p1 p2) x3_ne3 (fun _ => ⟨rfl, rfl⟩) (fun _ => ⟨rfl, rfl⟩)
  · exact c_L_by4 l sa D k ad M O sz p0 p1 p2 (c_X2_nextGap l hfl sa D k ad M O sz hI p0 (p1 - p1 / (nI 4) * (nI 4)) (p2 - p2 / (nI 1000) * (nI 1000))) x3_ne3 (fun _ => ⟨rfl, rfl⟩) (fun _ => ⟨rfl, rfl⟩)
  · exact c_L_by5 l sa D k ad M O sz p0 p1 p2 (c_X2_isCovered l hfl sa D k ad M O sz hI p0 (p1 - p1 / (nI 4) * (nI 4)) (p2 - p2 / (nI 1000) * (nI 1000))) x3_ne3 (fun _ => ⟨rfl, rfl⟩) (fun _ => ⟨rfl, rfl⟩)
noncomputable def tfX (M : Nat → Nat → Nat) (O : Nat → Nat → Int32) (w : Nat) (p0 : Int32) : Nat :=
  match w with
  | 0 => (x3 (zI (M 0 1) p0) (nI 0 ≤ (nI 0) ∧ (nI 0) ≤ nI 2) (True))
  | 1 => (x3 (zI (M 0 1) p0) (nI 0 ≤ (nI 1) ∧ (nI 1) ≤ nI 2) (True))
  | 2 => (x3 (zI (M 0 1) p0) (nI 0 ≤ (nI 2) ∧ (nI 2) ≤ nI 2) (True))
  | 3 => (x3 (zI (M 0 1) p0) (nI 0 ≤ (nI (3 - 3)) ∧ (nI (3 - 3)) ≤ nI 2) (True))
  | 4 => (x3 (zI (M 0 1) p0) (nI 0 ≤ (nI (4 - 3)) ∧ (nI (4 - 3)) ≤ nI 2) (True))
  | 5 => (x3 (zI (M 0 1) p0) (nI 0 ≤ (nI (5 - 3)) ∧ (nI (5 - 3)) ≤ nI 2) (True))
  | 6 => (x3 (zI (M 0 1) p0) (True) (True))
  | _ => (x3 (zI (M 0 1) p0) (True) (True))
noncomputable def tfV (M : Nat → Nat → Nat) (O : Nat → Nat → Int32) (w : Nat) (p0 : Int32) : Int32 :=
  match w with
  | 0 => (nI (M 15 (3 * ix p0 + ix (nI 0))))
  | 1 => (nI (M 15 (3 * ix p0 + ix (nI 1))))
  | 2 => (nI (M 15 (3 * ix p0 + ix (nI 2))))
  | 3 => fB (bI (M 8 (3 * M 11 (ix p0) + ix (nI (3 - 3))) < M 15 (3 * ix p0 + ix (nI (3 - 3)))))
  | 4 => fB (bI (M 8 (3 * M 11 (ix p0) + ix (nI (4 - 3))) < M 15 (3 * ix p0 + ix (nI (4 - 3)))))
  | 5 => fB (bI (M 8 (3 * M 11 (ix p0) + ix (nI (5 - 3))) < M 15 (3 * ix p0 + ix (nI (5 - 3)))))
  | 6 => (nI (M 12 (ix p0)))
  | _ => (nI (gS M (ix p0) 3))
set_option maxRecDepth 100000 in
set_option maxHeartbeats 2000000 in
theorem c_L_of (l : Launch) (hfl : l.stackTraces = false) (sa : Nat → Nat) (D : va_G) (k : Nat → ClassId) (ad : Nat → Nat) (M : Nat → Nat → Nat) (O : Nat → Nat → Int32) (sz : Nat) (hI : zInv M) (w : Nat) (hw : w < 8) (p0 : Int32) : vx_Met l yL_of wsL_of ({ frames := 9, cells := 2, slots := 12, locals := 147 }) (va_Pc [.ref (ad 0), .int (nI w), .int p0] (tPre D k ad M O sz sa)) (tQ D k ad M M O (va_A (zw (20 + 2 * M 0 1) ad (cX k ad M O)) sz) (rV (tfX M O w p0) (tfV M O w p0))) (zX (fun _ => False)) 2 12 (va_A (zw (20 + 2 * M 0 1) ad (cX k ad M O)) sz) := by
  rcases (show w = 0 ∨ w = 1 ∨ w = 2 ∨ w = 3 ∨ w = 4 ∨ w = 5 ∨ w = 6 ∨ w = 7 by omega) with rfl | rfl | rfl | rfl | rfl | rfl | rfl | rfl
  · exact c_L_of0 l sa D k ad M O sz p0 (c_X2_clock l hfl sa D k ad M O sz hI p0 (nI 0)) x3_ne3 (fun _ => ⟨rfl, rfl⟩) (fun _ => ⟨rfl, rfl⟩)
  · exact c_L_of1 l sa D k ad M O sz p0 (c_X2_clock l hfl sa D k ad M O sz hI p0 (nI 1)) x3_ne3 (fun _ => ⟨rfl, rfl⟩) (fun _ => ⟨rfl, rfl⟩)
  · exact c_L_of2 l sa D k ad M O sz p0 (c_X2_clock l hfl sa D k ad M O sz hI p0 (nI 2)) x3_ne3 (fun _ => ⟨rfl, rfl⟩) (fun _ => ⟨rfl, rfl⟩)
  · exact c_L_of3 l sa D k ad M O sz p0 (c_X2_isMissed l hfl sa D k ad M O sz hI p0 (nI (3 - 3))) x3_ne3 (fun _ => ⟨rfl, rfl⟩) (fun _ => ⟨rfl, rfl⟩)
  · exact c_L_of4 l sa D k ad M O sz p0 (c_X2_isMissed l hfl sa D k ad M O sz hI p0 (nI (4 - 3))) x3_ne3 (fun _ => ⟨rfl, rfl⟩) (fun _ => ⟨rfl, rfl⟩)
  · exact c_L_of5 l sa D k ad M O sz p0 (c_X2_isMissed l hfl sa D k ad M O sz hI p0 (nI (5 - 3))) x3_ne3 (fun _ => ⟨rfl, rfl⟩) (fun _ => ⟨rfl, rfl⟩)
  · exact c_L_of6 l sa D k ad M O sz p0 (c_X2_stateOf l hfl sa D k ad M O sz hI p0) x3_ne3 (fun _ => ⟨rfl, rfl⟩) (fun _ => ⟨rfl, rfl⟩)
  · exact c_L_of7 l sa D k ad M O sz p0 (c_X2_step l hfl sa D k ad M O sz hI p0) x3_ne3 (fun _ => ⟨rfl, rfl⟩) (fun _ => ⟨rfl, rfl⟩)
