/-! THE FIRST STATE, and how the constructor of PromiseClocks comes to it; open. -/
def M0 (r i : Nat) : Nat := if r = 1 then (if i < 4 then 31 else 0) else if r = 2 then (if i < 4 then 8 else 0) else if r = 3 then (if i < 4 then 17 else 0) else if r = 8 then [4, 8, 16, 2, 4, 8, 1, 2, 4].getD i 0 else if r = 13 then 1 else 0
def O0 (_ _ : Nat) : Int32 := 0
def bX (k : Nat → ClassId) (ad : Nat → Nat) (i : Nat) : Nat → va_E := va_up (cX k ad M0 O0) 1 (.inl (k 2, 4, .inr (.inr (.inr (.inr (fun j => if j < i then some (ad (4 + 4 * j)) else none))))))
theorem bX_0 {k : Nat → ClassId} {ad : Nat → Nat} {i : Nat} : bX k ad i 0 = .inr (2, [.ref (ad 1), .ref (ad 2), .ref (ad 3), .int (nI 0), .int (nI 0)]) := by
  unfold bX
  rw [va_up_ne _ _ (by omega)]
  rfl
theorem bX_1 {k : Nat → ClassId} {ad : Nat → Nat} {i : Nat} : bX k ad i 1 = .inl (k 2, 4, .inr (.inr (.inr (.inr (fun j => if j < i then some (ad (4 + 4 * j)) else none))))) := va_up_self _ _ _
theorem bX_q {k : Nat → ClassId} {ad : Nat → Nat} {i q : Nat} (h : q ≠ 1) : bX k ad i q = cX k ad M0 O0 q := va_up_ne _ _ h
theorem prom0 : rw0 M0 8 0 9 = upd (upd (upd (upd (upd (upd (upd (upd (upd (fun _ => 0) 0 (nI 4)) 1 (nI 8)) 2 (nI 16)) 3 (nI 2)) 4 (nI 4)) 5 (nI 8)) 6 (nI 1)) 7 (nI 2)) 8 (nI 4) := by
  funext x
  by_cases h : x < 9
  · rcases (show x = 0 ∨ x = 1 ∨ x = 2 ∨ x = 3 ∨ x = 4 ∨ x = 5 ∨ x = 6 ∨ x = 7 ∨ x = 8 by omega) with h | h | h | h | h | h | h | h | h <;> subst h <;> rfl
  · unfold rw0
    rw [if_neg h]
    unfold upd
    repeat rw [if_neg (by omega)]
theorem row0 {r b w : Nat} (h : ∀ j, j < w → M0 r (b + j) = 0) : rw0 M0 r b w = fun _ => 0 := by
  funext x
  unfold rw0
  by_cases q : x < w
  · rw [if_pos q, h x q]; rfl
  · rw [if_neg q]
theorem bX_s {k : Nat → ClassId} {ad : Nat → Nat} {i : Nat} (hi : i < 4) : va_up (va_up (va_up (va_up (va_up (bX k ad i) (4 + 4 * i) (.inr (1, [.int (nI 31), .int (nI 8), .int (nI 17), .ref (ad (4 + 4 * i + 1)), .ref (ad (4 + 4 * i + 2)), .ref (ad (4 + 4 * i + 3)), .int (nI 0), .int (nI 0), .int (nI 0)]))) (4 + 4 * i + 1) (.inl (k 0, 8, .inl (fun _ => 0)))) (4 + 4 * i + 2) (.inl (k 0, 8, .inl (fun _ => 0)))) (4 + 4 * i + 3) (.inl (k 0, 8, .inl (fun _ => 0)))) 1 (.inl (k 2, 4, .inr (.inr (.inr (.inr (va_up (fun j => if j < i then some (ad (4 + 4 * j)) else none) i (some (ad (4 + 4 * i)))))))))  = bX k ad (i + 1) := by
  funext q
  by_cases h1 : q = 1
  · subst h1
    rw [va_up_self, bX_1]
    congr 7
    funext j
    by_cases hj : j = i
    · subst hj; rw [va_up_self, if_pos (by omega)]
    · rw [va_up_ne _ _ hj]
      by_cases hk : j < i
      · rw [if_pos hk, if_pos (by omega)]
      · rw [if_neg hk, if_neg (by omega)]
  rw [va_up_ne _ _ h1, bX_q h1]
  by_cases h2 : q = 4 + 4 * i + 3
  · subst h2
    rw [va_up_self, show 4 + 4 * i + 3 = 7 + 4 * i by omega, cX_a2 hi, row0 (fun j _ => rfl)]
  rw [va_up_ne _ _ h2]
  by_cases h3 : q = 4 + 4 * i + 2
  · subst h3
    rw [va_up_self, show 4 + 4 * i + 2 = 6 + 4 * i by omega, cX_a1 hi, row0 (fun j _ => rfl)]
  rw [va_up_ne _ _ h3]
  by_cases h4 : q = 4 + 4 * i + 1
  · subst h4
    rw [va_up_self, show 4 + 4 * i + 1 = 5 + 4 * i by omega, cX_a0 hi, row0 (fun j _ => rfl)]
  rw [va_up_ne _ _ h4]
  by_cases h5 : q = 4 + 4 * i
  · subst h5
    rw [va_up_self, cX_s hi, show 4 + 4 * i + 1 = 5 + 4 * i by omega, show 4 + 4 * i + 2 = 6 + 4 * i by omega, show 4 + 4 * i + 3 = 7 + 4 * i by omega]
    have e1 : M0 1 i = 31 := if_pos hi
    have e2 : M0 2 i = 8 := if_pos hi
    have e3 : M0 3 i = 17 := if_pos hi
    unfold sObj
    rw [e1, e2, e3]
    rfl
  rw [va_up_ne _ _ h5, bX_q h1]
theorem zD_cg {A : Nat → Prop} {n : Nat} {ad : Nat → Nat} {f g : Nat → va_E} (h : va_D A (zw n ad f)) : va_D A (zw n ad g) := by
  refine ⟨fun i j x y hx hy e => ?_, fun i x hx => ?_⟩
  · obtain ⟨h1, rfl⟩ := zw_some hx
    obtain ⟨h2, rfl⟩ := zw_some hy
    exact h.1 i j _ _ (zw_at h1) (zw_at h2) e
  · obtain ⟨h1, rfl⟩ := zw_some hx
    exact h.2 i (ad i, f i) (zw_at h1)
theorem zP_b4 {D : va_G} {k : Nat → ClassId} {ad : Nat → Nat} {H : Heap} (h : va_P D vwCl (zw 20 ad (bX k ad 4)) H) : va_P D vwCl (zw 20 ad (cX k ad M0 O0)) H := by
  intro j x hx
  obtain ⟨h1, rfl⟩ := zw_some hx
  have h2 := h j _ (zw_at h1)
  by_cases hj : j = 1
  · subst hj
    rw [bX_1] at h2
    rw [cX_1]
    have h3 : H[ad 1]? = some (vp_cell (k 2) (4, .inr (.inr (.inr (.inr (fun j => if j < 4 then some (ad (4 + 4 * j)) else none)))))) := h2
    show H[ad 1]? = some (vp_cell (k 2) (4, .inr (.inr (.inr (.inr (fun j => some (ad (4 + 4 * j))))))))
    rw [h3, vp_cell_q, vp_cell_q]
    exact congrArg some (arrV_cg (fun j hj => by rw [if_pos hj]))
  · rw [bX_q hj] at h2
    exact h2
/-- other addresses beyond the world -/
theorem cX_ad {k : Nat → ClassId} {ad bd : Nat → Nat} {M : Nat → Nat → Nat} {O : Nat → Nat → Int32} (hca : ∀ c, c < M 0 1 → zCa M c) (h : ∀ j, j < 20 + 2 * M 0 1 → bd j = ad j) {q : Nat} (hq : q < 20 + 2 * M 0 1) (q1 : q ≠ 1) : cX k ad M O q = cX k bd M O q := by
  by_cases q0 : q = 0
  · subst q0
    rw [cX_0, cX_0, dObj, dObj, h 1 (by omega), h 2 (by omega), h 3 (by omega)]
  by_cases q2 : q = 2
  · subst q2; rfl
  by_cases q3 : q = 3
  · subst q3
    rw [cX_3, cX_3]
    congr 7
    funext c
    by_cases hc : c < M 0 1
    · rw [if_pos hc, if_pos hc, h _ (by omega)]
    · rw [if_neg hc, if_neg hc]
  by_cases q4 : q < 20
  · by_cases q5 : q % 4 = 0
    · obtain ⟨i, hi, rfl⟩ : ∃ i, i < 4 ∧ q = 4 + 4 * i := ⟨(q - 4) / 4, by omega, by omega⟩
      rw [cX_s hi, cX_s hi, sObj, sObj, h (5 + 4 * i) (by omega), h (6 + 4 * i) (by omega), h (7 + 4 * i) (by omega)]
    · obtain ⟨i, r, hi, hr, rfl⟩ : ∃ i r, i < 4 ∧ r < 3 ∧ q = 5 + r + 4 * i := ⟨(q - 4) / 4, q % 4 - 1, by omega, by omega, by omega⟩
      rw [cX_a hi hr, cX_a hi hr]
  by_cases q5 : q % 2 = 0
  · obtain ⟨c, hc, rfl⟩ : ∃ c, c < M 0 1 ∧ q = 20 + 2 * c := ⟨(q - 20) / 2, by omega, by omega⟩
    obtain ⟨h1, -, -, -, h5, -⟩ := hca c hc
    rw [cX_c, cX_c, cObj, cObj, h (4 + 4 * M 9 c) (by omega), h (21 + 2 * c) (by omega)]
    have e : hdR ad (M 13 c) = hdR bd (M 13 c) := by
      unfold hdR
      by_cases hz : M 13 c = 0
      · rw [if_pos hz, if_pos hz]
      · rw [if_neg hz, if_neg hz, h _ (by omega)]
    rw [e]
  · obtain ⟨c, rfl⟩ : ∃ c, q = 21 + 2 * c := ⟨(q - 20) / 2, by omega⟩
    rw [cX_k, cX_k]
theorem zP_ad {D : va_G} {H : Heap} {k : Nat → ClassId} {ad bd : Nat → Nat} {M : Nat → Nat → Nat} {O : Nat → Nat → Int32} (hca : ∀ c, c < M 0 1 → zCa M c) (h : ∀ j, j < 20 + 2 * M 0 1 → bd j = ad j) (hP : va_P D vwCl (zw (20 + 2 * M 0 1) ad (cX k ad M O)) H) : va_P D vwCl (zw (20 + 2 * M 0 1) bd (cX k bd M O)) H := by
  intro j x hx
  obtain ⟨h1, rfl⟩ := zw_some hx
  have h2 := hP j _ (zw_at h1)
  rw [← h j h1] at h2
  by_cases hj : j = 1
  · subst hj
    rw [cX_1] at h2 ⊢
    have h3 : H[bd 1]? = some (vp_cell (k 2) (4, .inr (.inr (.inr (.inr (fun j => some (ad (4 + 4 * j)))))))) := h2
    show H[bd 1]? = some (vp_cell (k 2) (4, .inr (.inr (.inr (.inr (fun j => some (bd (4 + 4 * j))))))))
    rw [h3, vp_cell_q, vp_cell_q]
    exact congrArg some (arrV_cg (fun j hj => by rw [h _ (by omega)]))
  · rw [cX_ad (O := O) (k := k) hca h h1 hj] at h2
    exact h2
theorem zD_ad {A : Nat → Prop} {n : Nat} {ad bd : Nat → Nat} {f g : Nat → va_E} (e : ∀ j, j < n → bd j = ad j) (h : va_D A (zw n ad f)) : va_D A (zw n bd g) := by
  have e1 : zw n ad g = zw n bd g := zw_adcongr (fun j hj => (e j hj).symm) (fun _ _ => rfl)
  rw [← e1]
  exact zD_cg h
set_option maxRecDepth 100000 in
set_option maxHeartbeats 1000000 in
theorem lp_init {p : Program} {l : Launch} {e : Env} {s : State} {m : MethodId} {args : Array Value} {below : List Frame} {meth : Method} {c : Code} {Q : State → Prop} {D : va_G} {k : Nat → ClassId} {ad : Nat → Nat} {M : Nat → Nat → Nat} {O : Nat → Nat → Int32} (F : CallFix p m c cX2_init 2 s args wsX2_init RX2) (hK : va_K D vwCl (tyL k) s)
    {A : Nat → Prop} {sz : Nat} (hnl : va_Nw (.methodLinkNest RX2 32 yX1_init RX2) s) (hA : ∀ q : Nat, s.heap.size ≤ q → A q) (ha : ∀ j, 0 < j → j < 20 → ad j + 1 = sz + j)
    (k0 : ∀ (H : Heap) (locs : List Loc), H.size = sz + 3 + 4 * 4 → va_P D vwCl (zw (4 + 4 * 4) ad (bX k ad 4)) H → va_D A (zw (4 + 4 * 4) ad (bX k ad 4)) → va_S A s.heap H locs → ∀ (ls : Array Slot), W p l e (headSpec wsX2_init ({ frames := 2, cells := 19, slots := 185, locals := 40 })).room s m args below meth c H locs (3 + 4 * 4) (53 + 33 * 4) Q (F0 m 107 ls [])) :
    ∀ (fu i : Nat) (H : Heap) (locs : List Loc), i ≤ 4 → 4 < i + fu → H.size = sz + 3 + 4 * i → va_P D vwCl (zw (4 + 4 * i) ad (bX k ad i)) H → va_D A (zw (4 + 4 * i) ad (bX k ad i)) → va_S A s.heap H locs → ∀ (ls : Array Slot), lv_has ls 2 [(1, .int (nI i)), (0, .ref (ad 0))] → W p l e (headSpec wsX2_init ({ frames := 2, cells := 19, slots := 185, locals := 40 })).room s m args below meth c H locs (3 + 4 * i) (53 + 33 * i) Q (F0 m 83 ls []) := by
  have hx := F.1
  have hb := F.2.1
  have hts := F.2.2.2.2
  have hown := F.2.2.2.1
  have hi2 : ∀ w ∈ u_ws RX2 TX2 5, w ∈ wsX2_init := by decide +kernel
  have hi1 : ∀ w ∈ u_ws RX1 TX1 9, w ∈ wsX2_init := by decide +kernel
  intro fu
  induction fu with
  | zero => intro i H locs h1 h2; omega
  | succ fu ih =>
    intro i H locs h1 h2 hz hP hD hS ls hl
    refine lv_iload_n hx hb dX2_init_83 rfl (lv_at hl 0 rfl) ?_
    refine lv_iconst (v := nI 4) hx hb dX2_init_84 (by decide) ?_
    refine z_icmp_ge (tgt := 107) F (by omega) (by omega) dX2_init_85 (by decide) (fun c1 => ?_) (fun c1 => ?_)
    · obtain rfl : i = 4 := by omega
      exact k0 H locs hz hP hD hS ls
    · refine lv_aload_n hx hb dX2_init_88 rfl (lv_at hl 1 rfl) ?_
      refine z_get (C := RX2) (T := TX2) (N := 5) (ci := 2) (fs := [.ref (ad 1), .ref (ad 2), .ref (ad 3), .int (nI 0), .int (nI 0)]) (v := .ref (ad 1)) F hK hP hi2 rfl (0) 0 (by omega) bX_0 (by decide) rfl (by decide +kernel) dX2_init_89 ?_
      refine lv_iload_n hx hb dX2_init_92 rfl (lv_at hl 0 rfl) ?_
      refine z_new F (C := RX1) (T := TX1) (N := 9) (ci := 1) (fs := [.int (nI 0), .int (nI 0), .int (nI 0), .null, .null, .null, .int (nI 0), .int (nI 0), .int (nI 0)]) hi1 tyX1 tyX1_ok (by decide +kernel) (by decide +kernel) (by decide +kernel) hK hP hD hS hA rfl (by decide) (by have zz3 := ha (4 + 4 * i) (by omega) (by omega); omega) (by show 3 + 4 * i + 1 ≤ 19; omega) (by show 53 + 33 * i + 9 ≤ 185; omega) dX2_init_93 (fun H zz9 hP hD hS => ?_)
      replace hz := zz9.trans (congrArg (· + 1) hz)
      refine lv_dup hx hb dX2_init_96 rfl ?_
      have hX := ha (4 + 4 * i + 1) (by omega) (by omega)
      have hY := ha (4 + 4 * i + 2) (by omega) (by omega)
      have hZ := ha (4 + 4 * i + 3) (by omega) (by omega)
      refine z_mIN (As := []) (rest := [.ref (ad (4 + 4 * i)), .int (nI i), .ref (ad 1)]) (4 + 4 * i) F (c_X1_init l D k ad H.size (bX k ad i) (4 + 4 * i) (by omega) (by omega) (by omega)) ⟨va_cnB 0 hts gX2_init_X1_init_n32 rfl rfl rfl hnl (hts (.initialized RX1) (by decide +kernel)) ⟨by decide, by decide, by decide +kernel⟩ ⟨Nat.le_of_ble_eq_true rfl, Nat.le_of_ble_eq_true rfl⟩, rfl, hts (.instanceMethod yX1_init) (by decide +kernel)⟩ hK hP hD hS hA rfl hl.1 rfl (Nat.le_of_ble_eq_true rfl) dX2_init_97 ⟨by show 3 + 4 * i + 1 + 3 ≤ 19; omega, by show 53 + 33 * i + 9 + 24 ≤ 185; omega⟩ (fun H locs zz9 hP hD hS => ?_)
      replace hz := zz9.trans (congrArg (· + 3) hz)
      refine z_astqS (f' := (va_up (va_up (va_up (va_up (va_up (bX k ad i) (4 + 4 * i) (.inr (1, [.int (nI 31), .int (nI 8), .int (nI 17), .ref (ad (4 + 4 * i + 1)), .ref (ad (4 + 4 * i + 2)), .ref (ad (4 + 4 * i + 3)), .int (nI 0), .int (nI 0), .int (nI 0)]))) (4 + 4 * i + 1) (.inl (k 0, 8, .inl (fun _ => 0)))) (4 + 4 * i + 2) (.inl (k 0, 8, .inl (fun _ => 0)))) (4 + 4 * i + 3) (.inl (k 0, 8, .inl (fun _ => 0)))) 1 (.inl (k 2, 4, .inr (.inr (.inr (.inr (va_up (fun j => if j < i then some (ad (4 + 4 * j)) else none) i (some (ad (4 + 4 * i))))))))))) F hK hP hD hS (1) 2 (4 + 4 * i) 1 (by omega) (by rw [va_up_ne _ _ (by omega), va_up_ne _ _ (by omega), va_up_ne _ _ (by omega), va_up_ne _ _ (by omega)]; exact bX_1) rfl (by omega) (by rw [va_up_ne _ _ (by omega), va_up_ne _ _ (by omega), va_up_ne _ _ (by omega), va_up_self]) rfl (i := nI i) i rfl (by omega) (by decide) rfl dX2_init_100 (fun H locs zz9 hP hD hS => ?_)
      replace hz := zz9.trans hz
      rw [bX_s (by omega)] at hP hD
      refine lv_iinc (v := nI (i + 1)) (lv' := [(1, .int (nI (i + 1))), (0, .ref (ad 0))]) hx hb dX2_init_101 hl (k := 0) rfl (nI_1 i) (by decide) rfl (fun ls hl => ?_)
      refine lv_goto (tgt := 83) hx hb dX2_init_104 (by decide) ?_
      have zz2 := ih (i + 1) H locs (by omega) (by omega) (by omega) hP hD hS ls (lv_sub hl [0, 1] rfl)
      rw [show 3 + 4 * (i + 1) = 3 + 4 * i + 1 + 3 by omega, show 53 + 33 * (i + 1) = 53 + 33 * i + 9 + 24 by omega] at zz2
      exact zz2
set_option maxRecDepth 100000 in
set_option maxHeartbeats 1000000 in
theorem c_X2_init (l : Launch) (D : va_G) (k : Nat → ClassId) (ad : Nat → Nat) (sz : Nat) (f : Nat → va_E) (ha : ∀ j, 0 < j → j < 20 → ad j + 1 = sz + j) : Met l yX2_init wsX2_init ({ frames := 2, cells := 19, slots := 185, locals := 40 }) (va_Pc [.ref (ad 0)] (fun U => zG D k 1 ad (va_up f 0 (.inr (2, [.null, .null, .null, .int (nI 0), .int (nI 0)]))) sz U ∧ (va_AO RX1 U ∧ va_AO RX0 U ∧ va_Nw (.methodLinkNest RX2 32 yX1_init RX2) U))) (zQn D k 20 ad (cX k ad M0 O0) (sz + 19) (va_A (zw 1 ad (va_up f 0 (.inr (2, [.null, .null, .null, .int (nI 0), .int (nI 0)])))) sz)) 19 185 (va_A (zw 1 ad (va_up f 0 (.inr (2, [.null, .null, .null, .int (nI 0), .int (nI 0)])))) sz) := by
  refine Met.ofW (cc := cX2_init) (maxL := 2) (ret := none) (by decide) rfl ?_
  intro p e s m args below meth c s₁ B hml hv
  obtain ⟨rfl, ⟨hsz, ⟨hP, hK⟩, hD0⟩, hao1, hao0, hnl⟩ := hv
  have hx := B.exec
  have hb := B.bytes
  have hr := B.returns
  have hts := atoms_spec (ws := wsX2_init) B.pre
  have hown : s.vm.findClass RX2 = some m.cls := findClass_of_methodNamed B.named
  have hlocks := B.notSynchronized
  have F : CallFix p m c cX2_init 2 s _ wsX2_init RX2 := ⟨hx, hb, hml, hown, hts⟩
  have hin : meth.name = "<init>" := (name_of_methodNamed B.named B.method).1
  have hD := hD0.self (sz := sz)
  generalize hAe : va_A (zw 1 ad (va_up f 0 (.inr (2, [.null, .null, .null, .int (nI 0), .int (nI 0)])))) sz = A at hD ⊢
  have hA : ∀ q : Nat, s.heap.size ≤ q → A q := fun q h => by rw [← hAe]; exact Or.inr (by omega)
  have hS : va_S A s.heap s.heap [] := va_S.rf
  have hz : s.heap.size = sz := hsz
  have hl := lv_entry ([.ref (ad 0)]) (n := 2) (Nat.le_of_ble_eq_true rfl)
  rw [lg_entry_eq]
  generalize (lg_sl ([.ref (ad 0)]) ++ List.replicate (2 - (lg_sl ([.ref (ad 0)])).length) Slot.unset).toArray = ls at hl ⊢
  have hl : lv_has ls 2 [(0, .ref (ad 0))] := hl
  have hi2 : ∀ w ∈ u_ws RX2 TX2 5, w ∈ wsX2_init := by decide +kernel
  refine lv_aload_n hx hb dX2_init_0 rfl (lv_at hl 0 rfl) ?_
  refine W.objInit hx hb hown (hts (.methodLink RX2 1 objectInit) (by decide +kernel)) (hts (.instanceMethod objectInit) (by decide +kernel)) (hts (.code objectInit ⟨#[0xb1]⟩ 1 none) (by decide +kernel)) rfl (by rw [hml]; exact hl.1) rfl dX2_init_1 (Nat.le_of_ble_eq_true rfl) (Nat.le_of_ble_eq_true rfl) ?_
  refine W.eq (g2 := F0 m 4 ls []) rfl ?_
  refine lv_aload_n hx hb dX2_init_4 rfl (lv_at hl 0 rfl) ?_
  refine lv_iconst (v := nI 4) hx hb dX2_init_5 (by decide) ?_
  refine z_newq F (C := RX1) (by decide +kernel) hao1 hK hP hD hS hA 2 rfl (N := 4) (Nat.le_of_ble_eq_true rfl) (Nat.le_of_ble_eq_true rfl) (by show ad 1 = _; have zz3 := ha 1 (by omega) (by omega); omega) (Nat.le_of_ble_eq_true rfl) (Nat.le_of_ble_eq_true rfl) dX2_init_6 (fun H zz9 hP hD hS => ?_)
  replace hz := zz9.trans (congrArg (· + 1) hz)
  refine z_putFS (C := RX2) (T := TX2) (N := 5) (ci := 2) (fs := [.null, .null, .null, .int (nI 0), .int (nI 0)]) (f' := (va_up (va_up f 0 (.inr (2, [.ref (ad 1), .null, .null, .int (nI 0), .int (nI 0)]))) 1 (.inl (k 2, 4, .inr (.inr (.inr (.inr (fun _ => none)))))))) F hK hP hD hS hi2 rfl tyX2 tyX2_ok nmX2 hin (0) 0 (by omega) (by rw [va_up_ne _ _ (by omega), va_up_self]) (by decide) (Nat.le_of_ble_eq_true rfl) (by decide +kernel) rfl rfl rfl rfl rfl (by funext zq; simp only [va_up]; (repeat' split) <;> (first | rfl | omega)) dX2_init_9 (fun H locs zz9 hP hD hS => ?_)
  replace hz := zz9.trans hz
  refine lv_aload_n hx hb dX2_init_12 rfl (lv_at hl 0 rfl) ?_
  refine lv_bipush (v := nI 9) hx hb dX2_init_13 (by decide) ?_
  refine z_newa F (atype := .int) (ty := .int) rfl (by decide +kernel) hK hP hD hS hA 0 rfl (N := 9) (a0 := (9, .inl (fun _ => 0))) (fun _ => rfl) (Nat.le_of_ble_eq_true rfl) (Nat.le_of_ble_eq_true rfl) (by show ad 2 = _; have zz3 := ha 2 (by omega) (by omega); omega) (Nat.le_of_ble_eq_true rfl) (Nat.le_of_ble_eq_true rfl) dX2_init_15 (fun H zz9 hP hD hS => ?_)
  replace hz := zz9.trans (congrArg (· + 1) hz)
  refine lv_dup hx hb dX2_init_17 rfl ?_
  refine lv_iconst (v := nI 0) hx hb dX2_init_18 (by decide) ?_
  refine lv_iconst (v := nI 4) hx hb dX2_init_19 (by decide) ?_
  refine z_iastS (f' := (va_up (va_up (va_up f 0 (.inr (2, [.ref (ad 1), .null, .null, .int (nI 0), .int (nI 0)]))) 1 (.inl (k 2, 4, .inr (.inr (.inr (.inr (fun _ => none))))))) 2 (.inl (k 0, 9, .inl (upd (fun _ => 0) 0 (nI 4)))))) F hK hP hD hS (2) 0 (by omega) (by rw [va_up_self]) rfl (i := nI 0) 0 rfl (by omega) (by decide) (by funext zq; simp only [va_up]; (repeat' split) <;> (first | rfl | omega)) dX2_init_20 (fun H locs zz9 hP hD hS => ?_)
  replace hz := zz9.trans hz
  refine lv_dup hx hb dX2_init_21 rfl ?_
  refine lv_iconst (v := nI 1) hx hb dX2_init_22 (by decide) ?_
  refine lv_bipush (v := nI 8) hx hb dX2_init_23 (by decide) ?_
  refine z_iastS (f' := (va_up (va_up (va_up f 0 (.inr (2, [.ref (ad 1), .null, .null, .int (nI 0), .int (nI 0)]))) 1 (.inl (k 2, 4, .inr (.inr (.inr (.inr (fun _ => none))))))) 2 (.inl (k 0, 9, .inl (upd (upd (fun _ => 0) 0 (nI 4)) 1 (nI 8)))))) F hK hP hD hS (2) 0 (by omega) (by rw [va_up_self]) rfl (i := nI 1) 1 rfl (by omega) (by decide) (by funext zq; simp only [va_up]; (repeat' split) <;> (first | rfl | omega)) dX2_init_25 (fun H locs zz9 hP hD hS => ?_)
  replace hz := zz9.trans hz
  refine lv_dup hx hb dX2_init_26 rfl ?_
  refine lv_iconst (v := nI 2) hx hb dX2_init_27 (by decide) ?_
  refine lv_bipush (v := nI 16) hx hb dX2_init_28 (by decide) ?_
  refine z_iastS (f' := (va_up (va_up (va_up f 0 (.inr (2, [.ref (ad 1), .null, .null, .int (nI 0), .int (nI 0)]))) 1 (.inl (k 2, 4, .inr (.inr (.inr (.inr (fun _ => none))))))) 2 (.inl (k 0, 9, .inl (upd (upd (upd (fun _ => 0) 0 (nI 4)) 1 (nI 8)) 2 (nI 16)))))) F hK hP hD hS (2) 0 (by omega) (by rw [va_up_self]) rfl (i := nI 2) 2 rfl (by omega) (by decide) (by funext zq; simp only [va_up]; (repeat' split) <;> (first | rfl | omega)) dX2_init_30 (fun H locs zz9 hP hD hS => ?_)
  replace hz := zz9.trans hz
  refine lv_dup hx hb dX2_init_31 rfl ?_
  refine lv_iconst (v := nI 3) hx hb dX2_init_32 (by decide) ?_
  refine lv_iconst (v := nI 2) hx hb dX2_init_33 (by decide) ?_
  refine z_iastS (f' := (va_up (va_up (va_up f 0 (.inr (2, [.ref (ad 1), .null, .null, .int (nI 0), .int (nI 0)]))) 1 (.inl (k 2, 4, .inr (.inr (.inr (.inr (fun _ => none))))))) 2 (.inl (k 0, 9, .inl (upd (upd (upd (upd (fun _ => 0) 0 (nI 4)) 1 (nI 8)) 2 (nI 16)) 3 (nI 2)))))) F hK hP hD hS (2) 0 (by omega) (by rw [va_up_self]) rfl (i := nI 3) 3 rfl (by omega) (by decide) (by funext zq; simp only [va_up]; (repeat' split) <;> (first | rfl | omega)) dX2_init_34 (fun H locs zz9 hP hD hS => ?_)
  replace hz := zz9.trans hz
  refine lv_dup hx hb dX2_init_35 rfl ?_
  refine lv_iconst (v := nI 4) hx hb dX2_init_36 (by decide) ?_
  refine lv_iconst (v := nI 4) hx hb dX2_init_37 (by decide) ?_
  refine z_iastS (f' := (va_up (va_up (va_up f 0 (.inr (2, [.ref (ad 1), .null, .null, .int (nI 0), .int (nI 0)]))) 1 (.inl (k 2, 4, .inr (.inr (.inr (.inr (fun _ => none))))))) 2 (.inl (k 0, 9, .inl (upd (upd (upd (upd (upd (fun _ => 0) 0 (nI 4)) 1 (nI 8)) 2 (nI 16)) 3 (nI 2)) 4 (nI 4)))))) F hK hP hD hS (2) 0 (by omega) (by rw [va_up_self]) rfl (i := nI 4) 4 rfl (by omega) (by decide) (by funext zq; simp only [va_up]; (repeat' split) <;> (first | rfl | omega)) dX2_init_38 (fun H locs zz9 hP hD hS => ?_)
  replace hz := zz9.trans hz
  refine lv_dup hx hb dX2_init_39 rfl ?_
  refine lv_iconst (v := nI 5) hx hb dX2_init_40 (by decide) ?_
  refine lv_bipush (v := nI 8) hx hb dX2_init_41 (by decide) ?_
  refine z_iastS (f' := (va_up (va_up (va_up f 0 (.inr (2, [.ref (ad 1), .null, .null, .int (nI 0), .int (nI 0)]))) 1 (.inl (k 2, 4, .inr (.inr (.inr (.inr (fun _ => none))))))) 2 (.inl (k 0, 9, .inl (upd (upd (upd (upd (upd (upd (fun _ => 0) 0 (nI 4)) 1 (nI 8)) 2 (nI 16)) 3 (nI 2)) 4 (nI 4)) 5 (nI 8)))))) F hK hP hD hS (2) 0 (by omega) (by rw [va_up_self]) rfl (i := nI 5) 5 rfl (by omega) (by decide) (by funext zq; simp only [va_up]; (repeat' split) <;> (first | rfl | omega)) dX2_init_43 (fun H locs zz9 hP hD hS => ?_)
  replace hz := zz9.trans hz
  refine lv_dup hx hb dX2_init_44 rfl ?_
  refine lv_bipush (v := nI 6) hx hb dX2_init_45 (by decide) ?_
  refine lv_iconst (v := nI 1) hx hb dX2_init_47 (by decide) ?_
  refine z_iastS (f' := (va_up (va_up (va_up f 0 (.inr (2, [.ref (ad 1), .null, .null, .int (nI 0), .int (nI 0)]))) 1 (.inl (k 2, 4, .inr (.inr (.inr (.inr (fun _ => none))))))) 2 (.inl (k 0, 9, .inl (upd (upd (upd (upd (upd (upd (upd (fun _ => 0) 0 (nI 4)) 1 (nI 8)) 2 (nI 16)) 3 (nI 2)) 4 (nI 4)) 5 (nI 8)) 6 (nI 1)))))) F hK hP hD hS (2) 0 (by omega) (by rw [va_up_self]) rfl (i := nI 6) 6 rfl (by omega) (by decide) (by funext zq; simp only [va_up]; (repeat' split) <;> (first | rfl | omega)) dX2_init_48 (fun H locs zz9 hP hD hS => ?_)
  replace hz := zz9.trans hz
  refine lv_dup hx hb dX2_init_49 rfl ?_
  refine lv_bipush (v := nI 7) hx hb dX2_init_50 (by decide) ?_
  refine lv_iconst (v := nI 2) hx hb dX2_init_52 (by decide) ?_
  refine z_iastS (f' := (va_up (va_up (va_up f 0 (.inr (2, [.ref (ad 1), .null, .null, .int (nI 0), .int (nI 0)]))) 1 (.inl (k 2, 4, .inr (.inr (.inr (.inr (fun _ => none))))))) 2 (.inl (k 0, 9, .inl (upd (upd (upd (upd (upd (upd (upd (upd (fun _ => 0) 0 (nI 4)) 1 (nI 8)) 2 (nI 16)) 3 (nI 2)) 4 (nI 4)) 5 (nI 8)) 6 (nI 1)) 7 (nI 2)))))) F hK hP hD hS (2) 0 (by omega) (by rw [va_up_self]) rfl (i := nI 7) 7 rfl (by omega) (by decide) (by funext zq; simp only [va_up]; (repeat' split) <;> (first | rfl | omega)) dX2_init_53 (fun H locs zz9 hP hD hS => ?_)
  replace hz := zz9.trans hz
  refine lv_dup hx hb dX2_init_54 rfl ?_
  refine lv_bipush (v := nI 8) hx hb dX2_init_55 (by decide) ?_
  refine lv_iconst (v := nI 4) hx hb dX2_init_57 (by decide) ?_
  refine z_iastS (f' := (va_up (va_up (va_up f 0 (.inr (2, [.ref (ad 1), .null, .null, .int (nI 0), .int (nI 0)]))) 1 (.inl (k 2, 4, .inr (.inr (.inr (.inr (fun _ => none))))))) 2 (.inl (k 0, 9, .inl (upd (upd (upd (upd (upd (upd (upd (upd (upd (fun _ => 0) 0 (nI 4)) 1 (nI 8)) 2 (nI 16)) 3 (nI 2)) 4 (nI 4)) 5 (nI 8)) 6 (nI 1)) 7 (nI 2)) 8 (nI 4)))))) F hK hP hD hS (2) 0 (by omega) (by rw [va_up_self]) rfl (i := nI 8) 8 rfl (by omega) (by decide) (by funext zq; simp only [va_up]; (repeat' split) <;> (first | rfl | omega)) dX2_init_58 (fun H locs zz9 hP hD hS => ?_)
  replace hz := zz9.trans hz
  refine z_putFS (C := RX2) (T := TX2) (N := 5) (ci := 2) (fs := [.ref (ad 1), .null, .null, .int (nI 0), .int (nI 0)]) (f' := (va_up (va_up (va_up f 0 (.inr (2, [.ref (ad 1), .ref (ad 2), .null, .int (nI 0), .int (nI 0)]))) 1 (.inl (k 2, 4, .inr (.inr (.inr (.inr (fun _ => none))))))) 2 (.inl (k 0, 9, .inl (upd (upd (upd (upd (upd (upd (upd (upd (upd (fun _ => 0) 0 (nI 4)) 1 (nI 8)) 2 (nI 16)) 3 (nI 2)) 4 (nI 4)) 5 (nI 8)) 6 (nI 1)) 7 (nI 2)) 8 (nI 4)))))) F hK hP hD hS hi2 rfl tyX2 tyX2_ok nmX2 hin (0) 1 (by omega) (by rw [va_up_ne _ _ (by omega), va_up_ne _ _ (by omega), va_up_self]) (by decide) (Nat.le_of_ble_eq_true rfl) (by decide +kernel) rfl rfl rfl rfl rfl (by funext zq; simp only [va_up]; (repeat' split) <;> (first | rfl | omega)) dX2_init_59 (fun H locs zz9 hP hD hS => ?_)
  replace hz := zz9.trans hz
  refine lv_aload_n hx hb dX2_init_62 rfl (lv_at hl 0 rfl) ?_
  refine lv_bipush (v := nI 40) hx hb dX2_init_63 (by decide) ?_
  refine z_newq F (C := RX0) (by decide +kernel) hao0 hK hP hD hS hA 3 rfl (N := 40) (Nat.le_of_ble_eq_true rfl) (Nat.le_of_ble_eq_true rfl) (by show ad 3 = _; have zz3 := ha 3 (by omega) (by omega); omega) (Nat.le_of_ble_eq_true rfl) (Nat.le_of_ble_eq_true rfl) dX2_init_65 (fun H zz9 hP hD hS => ?_)
  replace hz := zz9.trans (congrArg (· + 1) hz)
  refine z_putFS (C := RX2) (T := TX2) (N := 5) (ci := 2) (fs := [.ref (ad 1), .ref (ad 2), .null, .int (nI 0), .int (nI 0)]) (f' := (va_up (va_up (va_up (va_up f 0 (.inr (2, [.ref (ad 1), .ref (ad 2), .ref (ad 3), .int (nI 0), .int (nI 0)]))) 1 (.inl (k 2, 4, .inr (.inr (.inr (.inr (fun _ => none))))))) 2 (.inl (k 0, 9, .inl (upd (upd (upd (upd (upd (upd (upd (upd (upd (fun _ => 0) 0 (nI 4)) 1 (nI 8)) 2 (nI 16)) 3 (nI 2)) 4 (nI 4)) 5 (nI 8)) 6 (nI 1)) 7 (nI 2)) 8 (nI 4))))) 3 (.inl (k 3, 40, .inr (.inr (.inr (.inr (fun _ => none)))))))) F hK hP hD hS hi2 rfl tyX2 tyX2_ok nmX2 hin (0) 2 (by omega) (by rw [va_up_ne _ _ (by omega), va_up_ne _ _ (by omega), va_up_ne _ _ (by omega), va_up_self]) (by decide) (Nat.le_of_ble_eq_true rfl) (by decide +kernel) rfl rfl rfl rfl rfl (by funext zq; simp only [va_up]; (repeat' split) <;> (first | rfl | omega)) dX2_init_68 (fun H locs zz9 hP hD hS => ?_)
  replace hz := zz9.trans hz
  refine lv_aload_n hx hb dX2_init_71 rfl (lv_at hl 0 rfl) ?_
  refine lv_iconst (v := nI 0) hx hb dX2_init_72 (by decide) ?_
  refine z_putS (C := RX2) (T := TX2) (N := 5) (ci := 2) (fs := [.ref (ad 1), .ref (ad 2), .ref (ad 3), .int (nI 0), .int (nI 0)]) (f' := (va_up (va_up (va_up (va_up f 0 (.inr (2, [.ref (ad 1), .ref (ad 2), .ref (ad 3), .int (nI 0), .int (nI 0)]))) 1 (.inl (k 2, 4, .inr (.inr (.inr (.inr (fun _ => none))))))) 2 (.inl (k 0, 9, .inl (upd (upd (upd (upd (upd (upd (upd (upd (upd (fun _ => 0) 0 (nI 4)) 1 (nI 8)) 2 (nI 16)) 3 (nI 2)) 4 (nI 4)) 5 (nI 8)) 6 (nI 1)) 7 (nI 2)) 8 (nI 4))))) 3 (.inl (k 3, 40, .inr (.inr (.inr (.inr (fun _ => none)))))))) F hK hP hD hS hi2 rfl tyX2 tyX2_ok nmX2 (0) 3 (by omega) (by rw [va_up_ne _ _ (by omega), va_up_ne _ _ (by omega), va_up_ne _ _ (by omega), va_up_self]) (by decide) (Nat.le_of_ble_eq_true rfl) (by decide +kernel) rfl rfl rfl rfl (by funext zq; simp only [va_up]; (repeat' split) <;> (first | rfl | omega)) dX2_init_73 (fun H locs zz9 hP hD hS => ?_)
  replace hz := zz9.trans hz
  refine lv_aload_n hx hb dX2_init_76 rfl (lv_at hl 0 rfl) ?_
  refine lv_iconst (v := nI 0) hx hb dX2_init_77 (by decide) ?_
  refine z_putS (C := RX2) (T := TX2) (N := 5) (ci := 2) (fs := [.ref (ad 1), .ref (ad 2), .ref (ad 3), .int (nI 0), .int (nI 0)]) (f' := (va_up (va_up (va_up (va_up f 0 (.inr (2, [.ref (ad 1), .ref (ad 2), .ref (ad 3), .int (nI 0), .int (nI 0)]))) 1 (.inl (k 2, 4, .inr (.inr (.inr (.inr (fun _ => none))))))) 2 (.inl (k 0, 9, .inl (upd (upd (upd (upd (upd (upd (upd (upd (upd (fun _ => 0) 0 (nI 4)) 1 (nI 8)) 2 (nI 16)) 3 (nI 2)) 4 (nI 4)) 5 (nI 8)) 6 (nI 1)) 7 (nI 2)) 8 (nI 4))))) 3 (.inl (k 3, 40, .inr (.inr (.inr (.inr (fun _ => none)))))))) F hK hP hD hS hi2 rfl tyX2 tyX2_ok nmX2 (0) 4 (by omega) (by rw [va_up_ne _ _ (by omega), va_up_ne _ _ (by omega), va_up_ne _ _ (by omega), va_up_self]) (by decide) (Nat.le_of_ble_eq_true rfl) (by decide +kernel) rfl rfl rfl rfl (by funext zq; simp only [va_up]; (repeat' split) <;> (first | rfl | omega)) dX2_init_78 (fun H locs zz9 hP hD hS => ?_)
  replace hz := zz9.trans hz
  refine lv_iconst (v := nI 0) hx hb dX2_init_81 (by decide) ?_
  refine lv_istore_n (lv' := [(1, .int (nI 0)), (0, .ref (ad 0))]) hx hb dX2_init_82 rfl hl (by decide) rfl (fun ls hl => ?_)
  have e0 : ∀ q, q < 4 → (va_up (va_up (va_up (va_up f 0 (.inr (2, [.ref (ad 1), .ref (ad 2), .ref (ad 3), .int (nI 0), .int (nI 0)]))) 1 (.inl (k 2, 4, .inr (.inr (.inr (.inr (fun _ => none))))))) 2 (.inl (k 0, 9, .inl (upd (upd (upd (upd (upd (upd (upd (upd (upd (fun _ => 0) 0 (nI 4)) 1 (nI 8)) 2 (nI 16)) 3 (nI 2)) 4 (nI 4)) 5 (nI 8)) 6 (nI 1)) 7 (nI 2)) 8 (nI 4))))) 3 (.inl (k 3, 40, .inr (.inr (.inr (.inr (fun _ => none))))))) q = bX k ad 0 q := by
    intro q hq
    rcases (show q = 0 ∨ q = 1 ∨ q = 2 ∨ q = 3 by omega) with rfl | rfl | rfl | rfl
    · rw [va_up_ne _ _ (by omega), va_up_ne _ _ (by omega), va_up_ne _ _ (by omega), va_up_self]
      exact bX_0.symm
    · rw [va_up_ne _ _ (by omega), va_up_ne _ _ (by omega), va_up_self]
      rw [bX_1]
      congr 7
    · rw [va_up_ne _ _ (by omega), va_up_self]
      rw [bX_q (by omega), cX_2, prom0]
    · rw [va_up_self]
      rw [bX_q (by omega), cX_3]
      congr 7
  rw [zw_congr e0] at hP hD
  refine lp_init (M := M0) (O := O0) (sz := sz) F hK hnl hA ha (fun H locs hz hP hD hS ls => ?_) 5 0 H _ (by omega) (by omega) (by omega) hP hD hS ls (lv_sub hl [0, 1] rfl)
  replace hP := zP_b4 hP
  replace hD := zD_cg (g := cX k ad M0 O0) hD
  exact W.vret hx hb hr (fun t ht hW => ⟨⟨(), rfl, trivial, by rw [ht]; omega, ⟨by rw [ht]; exact hP, va_K.moved hW.alike hK⟩, hD⟩, hS.F ht⟩) hS.2.2 dX2_init_107
