set_option maxRecDepth 100000 in
set_option maxHeartbeats 400000 in
theorem c_X0_init (l : Launch) (D : va_G) (k : Nat → ClassId) (ad : Nat → Nat) (sz : Nat) (f : Nat → va_E) (n r : Nat) (kd gr : Int32) (h1 : ad (n + 1) = sz) : Met l yX0_init wsX0_init ({ frames := 1, cells := 1, slots := 3, locals := 20 }) (va_Pc [.ref (ad n), .ref r, .int kd, .int gr] (zG D k (n + 1) ad (va_up f n (.inr (0, [.null, .int (nI 0), .int (nI 0), .int (nI 0), .int (nI 0), .null, .int (nI 0), .null]))) sz)) (zQn D k (n + 2) ad (va_up (va_up f n (.inr (0, [.ref r, .int kd, .int gr, .int (nI 0), .int (nI 0), .null, .int (nI 0), .ref (ad (n + 1))]))) (n + 1) (.inl (k 0, 3, .inl (fun _ => 0)))) (sz + 1) (va_A (zw (n + 1) ad (va_up f n (.inr (0, [.null, .int (nI 0), .int (nI 0), .int (nI 0), .int (nI 0), .null, .int (nI 0), .null])))) sz)) 1 3 (va_A (zw (n + 1) ad (va_up f n (.inr (0, [.null, .int (nI 0), .int (nI 0), .int (nI 0), .int (nI 0), .null, .int (nI 0), .null])))) sz) := by
  refine Met.ofW (cc := cX0_init) (maxL := 4) (ret := none) (by decide) rfl ?_
  intro p e s m args below meth c s₁ B hml hv
  obtain ⟨rfl, hsz, ⟨hP, hK⟩, hD0⟩ := hv
  have hx := B.exec
  have hb := B.bytes
  have hr := B.returns
  have hts := atoms_spec (ws := wsX0_init) B.pre
  have hown : s.vm.findClass RX0 = some m.cls := findClass_of_methodNamed B.named
  have hlocks := B.notSynchronized
  have F : CallFix p m c cX0_init 4 s _ wsX0_init RX0 := ⟨hx, hb, hml, hown, hts⟩
  have hin : meth.name = "<init>" := (name_of_methodNamed B.named B.method).1
  have hD := hD0.self (sz := sz)
  generalize hAe : va_A (zw (n + 1) ad (va_up f n (.inr (0, [.null, .int (nI 0), .int (nI 0), .int (nI 0), .int (nI 0), .null, .int (nI 0), .null])))) sz = A at hD ⊢
  have hA : ∀ q : Nat, s.heap.size ≤ q → A q := fun q h => by rw [← hAe]; exact Or.inr (by omega)
  have hS : va_S A s.heap s.heap [] := va_S.rf
  have hz : s.heap.size = sz := hsz
  have hl := lv_entry ([.ref (ad n), .ref r, .int kd, .int gr]) (n := 4) (Nat.le_of_ble_eq_true rfl)
  rw [lg_entry_eq]
  generalize (lg_sl ([.ref (ad n), .ref r, .int kd, .int gr]) ++ List.replicate (4 - (lg_sl ([.ref (ad n), .ref r, .int kd, .int gr])).length) Slot.unset).toArray = ls at hl ⊢
  have hl : lv_has ls 4 [(0, .ref (ad n)), (1, .ref r), (2, .int kd), (3, .int gr)] := hl
  have hi0 : ∀ w ∈ u_ws RX0 TX0 8, w ∈ wsX0_init := by decide +kernel
  refine lv_aload_n hx hb dX0_init_0 rfl (lv_at hl 0 rfl) ?_
  refine W.objInit hx hb hown (hts (.methodLink RX0 3 objectInit) (by decide +kernel)) (hts (.instanceMethod objectInit) (by decide +kernel)) (hts (.code objectInit ⟨#[0xb1]⟩ 1 none) (by decide +kernel)) rfl (by rw [hml]; exact hl.1) rfl dX0_init_1 (Nat.le_of_ble_eq_true rfl) (Nat.le_of_ble_eq_true rfl) ?_
  refine W.eq (g2 := F0 m 4 ls []) rfl ?_
  refine lv_aload_n hx hb dX0_init_4 rfl (lv_at hl 0 rfl) ?_
  refine lv_iconst (v := nI 0) hx hb dX0_init_5 (by decide) ?_
  refine z_putS (C := RX0) (T := TX0) (N := 8) (ci := 0) (fs := [.null, .int (nI 0), .int (nI 0), .int (nI 0), .int (nI 0), .null, .int (nI 0), .null]) (f' := (va_up f n (.inr (0, [.null, .int (nI 0), .int (nI 0), .int (nI 0), .int (nI 0), .null, .int (nI 0), .null])))) F hK hP hD hS hi0 rfl tyX0 tyX0_ok nmX0 (n) 3 (by omega) (by rw [va_up_self]) (by decide) (Nat.le_of_ble_eq_true rfl) (by decide +kernel) rfl rfl rfl rfl (by funext zq; simp only [va_up]; (repeat' split) <;> (first | rfl | omega)) dX0_init_6 (fun H locs zz9 hP hD hS => ?_)
  replace hz := zz9.trans hz
  refine lv_aload_n hx hb dX0_init_9 rfl (lv_at hl 0 rfl) ?_
  refine lv_iconst (v := nI 0) hx hb dX0_init_10 (by decide) ?_
  refine z_putS (C := RX0) (T := TX0) (N := 8) (ci := 0) (fs := [.null, .int (nI 0), .int (nI 0), .int (nI 0), .int (nI 0), .null, .int (nI 0), .null]) (f' := (va_up f n (.inr (0, [.null, .int (nI 0), .int (nI 0), .int (nI 0), .int (nI 0), .null, .int (nI 0), .null])))) F hK hP hD hS hi0 rfl tyX0 tyX0_ok nmX0 (n) 4 (by omega) (by rw [va_up_self]) (by decide) (Nat.le_of_ble_eq_true rfl) (by decide +kernel) rfl rfl rfl rfl (by funext zq; simp only [va_up]; (repeat' split) <;> (first | rfl | omega)) dX0_init_11 (fun H locs zz9 hP hD hS => ?_)
  replace hz := zz9.trans hz
  refine lv_aload_n hx hb dX0_init_14 rfl (lv_at hl 0 rfl) ?_
  refine lv_null hx hb dX0_init_15 ?_
  refine z_putS (C := RX0) (T := TX0) (N := 8) (ci := 0) (fs := [.null, .int (nI 0), .int (nI 0), .int (nI 0), .int (nI 0), .null, .int (nI 0), .null]) (f' := (va_up f n (.inr (0, [.null, .int (nI 0), .int (nI 0), .int (nI 0), .int (nI 0), .null, .int (nI 0), .null])))) F hK hP hD hS hi0 rfl tyX0 tyX0_ok nmX0 (n) 5 (by omega) (by rw [va_up_self]) (by decide) (Nat.le_of_ble_eq_true rfl) (by decide +kernel) rfl rfl rfl rfl (by funext zq; simp only [va_up]; (repeat' split) <;> (first | rfl | omega)) dX0_init_16 (fun H locs zz9 hP hD hS => ?_)
  replace hz := zz9.trans hz
  refine lv_aload_n hx hb dX0_init_19 rfl (lv_at hl 0 rfl) ?_
  refine lv_iconst (v := nI 0) hx hb dX0_init_20 (by decide) ?_
  refine z_putS (C := RX0) (T := TX0) (N := 8) (ci := 0) (fs := [.null, .int (nI 0), .int (nI 0), .int (nI 0), .int (nI 0), .null, .int (nI 0), .null]) (f' := (va_up f n (.inr (0, [.null, .int (nI 0), .int (nI 0), .int (nI 0), .int (nI 0), .null, .int (nI 0), .null])))) F hK hP hD hS hi0 rfl tyX0 tyX0_ok nmX0 (n) 6 (by omega) (by rw [va_up_self]) (by decide) (Nat.le_of_ble_eq_true rfl) (by decide +kernel) rfl rfl rfl rfl (by funext zq; simp only [va_up]; (repeat' split) <;> (first | rfl | omega)) dX0_init_21 (fun H locs zz9 hP hD hS => ?_)
  replace hz := zz9.trans hz
  refine lv_aload_n hx hb dX0_init_24 rfl (lv_at hl 0 rfl) ?_
  refine lv_iconst (v := nI 3) hx hb dX0_init_25 (by decide) ?_
  refine z_newa F (atype := .int) (ty := .int) rfl (by decide +kernel) hK hP hD hS hA 0 rfl (N := 3) (a0 := (3, .inl (fun _ => 0))) (fun _ => rfl) (Nat.le_of_ble_eq_true rfl) (Nat.le_of_ble_eq_true rfl) (by rw [h1, hz]) (Nat.le_of_ble_eq_true rfl) (Nat.le_of_ble_eq_true rfl) dX0_init_26 (fun H zz9 hP hD hS => ?_)
  replace hz := zz9.trans (congrArg (· + 1) hz)
  refine z_putFS (C := RX0) (T := TX0) (N := 8) (ci := 0) (fs := [.null, .int (nI 0), .int (nI 0), .int (nI 0), .int (nI 0), .null, .int (nI 0), .null]) (f' := (va_up (va_up f n (.inr (0, [.null, .int (nI 0), .int (nI 0), .int (nI 0), .int (nI 0), .null, .int (nI 0), .ref (ad (n + 1))]))) (n + 1) (.inl (k 0, 3, .inl (fun _ => 0))))) F hK hP hD hS hi0 rfl tyX0 tyX0_ok nmX0 hin (n) 7 (by omega) (by rw [va_up_ne _ _ (by omega), va_up_self]) (by decide) (Nat.le_of_ble_eq_true rfl) (by decide +kernel) rfl rfl rfl rfl rfl (by funext zq; simp only [va_up]; (repeat' split) <;> (first | rfl | omega)) dX0_init_28 (fun H locs zz9 hP hD hS => ?_)
  replace hz := zz9.trans hz
  refine lv_aload_n hx hb dX0_init_31 rfl (lv_at hl 0 rfl) ?_
  refine lv_aload_n hx hb dX0_init_32 rfl (lv_at hl 1 rfl) ?_
  refine z_putFS (C := RX0) (T := TX0) (N := 8) (ci := 0) (fs := [.null, .int (nI 0), .int (nI 0), .int (nI 0), .int (nI 0), .null, .int (nI 0), .ref (ad (n + 1))]) (f' := (va_up (va_up f n (.inr (0, [.ref r, .int (nI 0), .int (nI 0), .int (nI 0), .int (nI 0), .null, .int (nI 0), .ref (ad (n + 1))]))) (n + 1) (.inl (k 0, 3, .inl (fun _ => 0))))) F hK hP hD hS hi0 rfl tyX0 tyX0_ok nmX0 hin (n) 0 (by omega) (by rw [va_up_ne _ _ (by omega), va_up_self]) (by decide) (Nat.le_of_ble_eq_true rfl) (by decide +kernel) rfl rfl rfl rfl rfl (by funext zq; simp only [va_up]; (repeat' split) <;> (first | rfl | omega)) dX0_init_33 (fun H locs zz9 hP hD hS => ?_)
  replace hz := zz9.trans hz
  refine lv_aload_n hx hb dX0_init_36 rfl (lv_at hl 0 rfl) ?_
  refine lv_iload_n hx hb dX0_init_37 rfl (lv_at hl 2 rfl) ?_
  refine z_putFS (C := RX0) (T := TX0) (N := 8) (ci := 0) (fs := [.ref r, .int (nI 0), .int (nI 0), .int (nI 0), .int (nI 0), .null, .int (nI 0), .ref (ad (n + 1))]) (f' := (va_up (va_up f n (.inr (0, [.ref r, .int kd, .int (nI 0), .int (nI 0), .int (nI 0), .null, .int (nI 0), .ref (ad (n + 1))]))) (n + 1) (.inl (k 0, 3, .inl (fun _ => 0))))) F hK hP hD hS hi0 rfl tyX0 tyX0_ok nmX0 hin (n) 1 (by omega) (by rw [va_up_ne _ _ (by omega), va_up_self]) (by decide) (Nat.le_of_ble_eq_true rfl) (by decide +kernel) rfl rfl rfl rfl rfl (by funext zq; simp only [va_up]; (repeat' split) <;> (first | rfl | omega)) dX0_init_38 (fun H locs zz9 hP hD hS => ?_)
  replace hz := zz9.trans hz
  refine lv_aload_n hx hb dX0_init_41 rfl (lv_at hl 0 rfl) ?_
  refine lv_iload_n hx hb dX0_init_42 rfl (lv_at hl 3 rfl) ?_
  refine z_putS (C := RX0) (T := TX0) (N := 8) (ci := 0) (fs := [.ref r, .int kd, .int (nI 0), .int (nI 0), .int (nI 0), .null, .int (nI 0), .ref (ad (n + 1))]) (f' := (va_up (va_up f n (.inr (0, [.ref r, .int kd, .int gr, .int (nI 0), .int (nI 0), .null, .int (nI 0), .ref (ad (n + 1))]))) (n + 1) (.inl (k 0, 3, .inl (fun _ => 0))))) F hK hP hD hS hi0 rfl tyX0 tyX0_ok nmX0 (n) 2 (by omega) (by rw [va_up_ne _ _ (by omega), va_up_self]) (by decide) (Nat.le_of_ble_eq_true rfl) (by decide +kernel) rfl rfl rfl rfl (by funext zq; simp only [va_up]; (repeat' split) <;> (first | rfl | omega)) dX0_init_43 (fun H locs zz9 hP hD hS => ?_)
  replace hz := zz9.trans hz
  refine W.widen (k := 1) (n := 3) (Nat.le_of_ble_eq_true rfl) (Nat.le_of_ble_eq_true rfl) ?_
  exact W.vret hx hb hr (fun t ht hW => ⟨⟨(), rfl, trivial, by rw [ht]; omega, ⟨by rw [ht]; exact hP, va_K.moved hW.alike hK⟩, hD⟩, hS.F ht⟩) hS.2.2 dX0_init_46
set_option maxRecDepth 100000 in
set_option maxHeartbeats 400000 in
theorem c_X1_init (l : Launch) (D : va_G) (k : Nat → ClassId) (ad : Nat → Nat) (sz : Nat) (f : Nat → va_E) (n : Nat) (h1 : ad (n + 1) = sz) (h2 : ad (n + 2) = sz + 1) (h3 : ad (n + 3) = sz + 1 + 1) : Met l yX1_init wsX1_init ({ frames := 1, cells := 3, slots := 24, locals := 20 }) (va_Pc [.ref (ad n)] (zG D k (n + 1) ad (va_up f n (.inr (1, [.int (nI 0), .int (nI 0), .int (nI 0), .null, .null, .null, .int (nI 0), .int (nI 0), .int (nI 0)]))) sz)) (zQn D k (n + 4) ad (va_up (va_up (va_up (va_up f n (.inr (1, [.int (nI 31), .int (nI 8), .int (nI 17), .ref (ad (n + 1)), .ref (ad (n + 2)), .ref (ad (n + 3)), .int (nI 0), .int (nI 0), .int (nI 0)]))) (n + 1) (.inl (k 0, 8, .inl (fun _ => 0)))) (n + 2) (.inl (k 0, 8, .inl (fun _ => 0)))) (n + 3) (.inl (k 0, 8, .inl (fun _ => 0)))) (sz + 3) (va_A (zw (n + 1) ad (va_up f n (.inr (1, [.int (nI 0), .int (nI 0), .int (nI 0), .null, .null, .null, .int (nI 0), .int (nI 0), .int (nI 0)])))) sz)) 3 24 (va_A (zw (n + 1) ad (va_up f n (.inr (1, [.int (nI 0), .int (nI 0), .int (nI 0), .null, .null, .null, .int (nI 0), .int (nI 0), .int (nI 0)])))) sz) := by
  refine Met.ofW (cc := cX1_init) (maxL := 1) (ret := none) (by decide) rfl ?_
  intro p e s m args below meth c s₁ B hml hv
  obtain ⟨rfl, hsz, ⟨hP, hK⟩, hD0⟩ := hv
  have hx := B.exec
  have hb := B.bytes
  have hr := B.returns
  have hts := atoms_spec (ws := wsX1_init) B.pre
  have hown : s.vm.findClass RX1 = some m.cls := findClass_of_methodNamed B.named
  have hlocks := B.notSynchronized
  have F : CallFix p m c cX1_init 1 s _ wsX1_init RX1 := ⟨hx, hb, hml, hown, hts⟩
  have hin : meth.name = "<init>" := (name_of_methodNamed B.named B.method).1
  have hD := hD0.self (sz := sz)
  generalize hAe : va_A (zw (n + 1) ad (va_up f n (.inr (1, [.int (nI 0), .int (nI 0), .int (nI 0), .null, .null, .null, .int (nI 0), .int (nI 0), .int (nI 0)])))) sz = A at hD ⊢
  have hA : ∀ q : Nat, s.heap.size ≤ q → A q := fun q h => by rw [← hAe]; exact Or.inr (by omega)
  have hS : va_S A s.heap s.heap [] := va_S.rf
  have hz : s.heap.size = sz := hsz
  have hl := lv_entry ([.ref (ad n)]) (n := 1) (Nat.le_of_ble_eq_true rfl)
  rw [lg_entry_eq]
  generalize (lg_sl ([.ref (ad n)]) ++ List.replicate (1 - (lg_sl ([.ref (ad n)])).length) Slot.unset).toArray = ls at hl ⊢
  have hl : lv_has ls 1 [(0, .ref (ad n))] := hl
  have hi1 : ∀ w ∈ u_ws RX1 TX1 9, w ∈ wsX1_init := by decide +kernel
  refine lv_aload_n hx hb dX1_init_0 rfl (lv_at hl 0 rfl) ?_
  refine W.objInit hx hb hown (hts (.methodLink RX1 3 objectInit) (by decide +kernel)) (hts (.instanceMethod objectInit) (by decide +kernel)) (hts (.code objectInit ⟨#[0xb1]⟩ 1 none) (by decide +kernel)) rfl (by rw [hml]; exact hl.1) rfl dX1_init_1 (Nat.le_of_ble_eq_true rfl) (Nat.le_of_ble_eq_true rfl) ?_
  refine W.eq (g2 := F0 m 4 ls []) rfl ?_
  refine lv_aload_n hx hb dX1_init_4 rfl (lv_at hl 0 rfl) ?_
  refine lv_bipush (v := nI 31) hx hb dX1_init_5 (by decide) ?_
  refine z_putS (C := RX1) (T := TX1) (N := 9) (ci := 1) (fs := [.int (nI 0), .int (nI 0), .int (nI 0), .null, .null, .null, .int (nI 0), .int (nI 0), .int (nI 0)]) (f' := (va_up f n (.inr (1, [.int (nI 31), .int (nI 0), .int (nI 0), .null, .null, .null, .int (nI 0), .int (nI 0), .int (nI 0)])))) F hK hP hD hS hi1 rfl tyX1 tyX1_ok nmX1 (n) 0 (by omega) (by rw [va_up_self]) (by decide) (Nat.le_of_ble_eq_true rfl) (by decide +kernel) rfl rfl rfl rfl (by funext zq; simp only [va_up]; (repeat' split) <;> (first | rfl | omega)) dX1_init_7 (fun H locs zz9 hP hD hS => ?_)
  replace hz := zz9.trans hz
  refine lv_aload_n hx hb dX1_init_10 rfl (lv_at hl 0 rfl) ?_
  refine lv_bipush (v := nI 8) hx hb dX1_init_11 (by decide) ?_
  refine z_putS (C := RX1) (T := TX1) (N := 9) (ci := 1) (fs := [.int (nI 31), .int (nI 0), .int (nI 0), .null, .null, .null, .int (nI 0), .int (nI 0), .int (nI 0)]) (f' := (va_up f n (.inr (1, [.int (nI 31), .int (nI 8), .int (nI 0), .null, .null, .null, .int (nI 0), .int (nI 0), .int (nI 0)])))) F hK hP hD hS hi1 rfl tyX1 tyX1_ok nmX1 (n) 1 (by omega) (by rw [va_up_self]) (by decide) (Nat.le_of_ble_eq_true rfl) (by decide +kernel) rfl rfl rfl rfl (by funext zq; simp only [va_up]; (repeat' split) <;> (first | rfl | omega)) dX1_init_13 (fun H locs zz9 hP hD hS => ?_)
  replace hz := zz9.trans hz
  refine lv_aload_n hx hb dX1_init_16 rfl (lv_at hl 0 rfl) ?_
  refine lv_bipush (v := nI 17) hx hb dX1_init_17 (by decide) ?_
  refine z_putS (C := RX1) (T := TX1) (N := 9) (ci := 1) (fs := [.int (nI 31), .int (nI 8), .int (nI 0), .null, .null, .null, .int (nI 0), .int (nI 0), .int (nI 0)]) (f' := (va_up f n (.inr (1, [.int (nI 31), .int (nI 8), .int (nI 17), .null, .null, .null, .int (nI 0), .int (nI 0), .int (nI 0)])))) F hK hP hD hS hi1 rfl tyX1 tyX1_ok nmX1 (n) 2 (by omega) (by rw [va_up_self]) (by decide) (Nat.le_of_ble_eq_true rfl) (by decide +kernel) rfl rfl rfl rfl (by funext zq; simp only [va_up]; (repeat' split) <;> (first | rfl | omega)) dX1_init_19 (fun H locs zz9 hP hD hS => ?_)
  replace hz := zz9.trans hz
  refine lv_aload_n hx hb dX1_init_22 rfl (lv_at hl 0 rfl) ?_
  refine lv_bipush (v := nI 8) hx hb dX1_init_23 (by decide) ?_
  refine z_newa F (atype := .int) (ty := .int) rfl (by decide +kernel) hK hP hD hS hA 0 rfl (N := 8) (a0 := (8, .inl (fun _ => 0))) (fun _ => rfl) (Nat.le_of_ble_eq_true rfl) (Nat.le_of_ble_eq_true rfl) (by rw [h1, hz]) (Nat.le_of_ble_eq_true rfl) (Nat.le_of_ble_eq_true rfl) dX1_init_25 (fun H zz9 hP hD hS => ?_)
  replace hz := zz9.trans (congrArg (· + 1) hz)
  refine z_putFS (C := RX1) (T := TX1) (N := 9) (ci := 1) (fs := [.int (nI 31), .int (nI 8), .int (nI 17), .null, .null, .null, .int (nI 0), .int (nI 0), .int (nI 0)]) (f' := (va_up (va_up f n (.inr (1, [.int (nI 31), .int (nI 8), .int (nI 17), .ref (ad (n + 1)), .null, .null, .int (nI 0), .int (nI 0), .int (nI 0)]))) (n + 1) (.inl (k 0, 8, .inl (fun _ => 0))))) F hK hP hD hS hi1 rfl tyX1 tyX1_ok nmX1 hin (n) 3 (by omega) (by rw [va_up_ne _ _ (by omega), va_up_self]) (by decide) (Nat.le_of_ble_eq_true rfl) (by decide +kernel) rfl rfl rfl rfl rfl (by funext zq; simp only [va_up]; (repeat' split) <;> (first | rfl | omega)) dX1_init_27 (fun H locs zz9 hP hD hS => ?_)
  replace hz := zz9.trans hz
  refine lv_aload_n hx hb dX1_init_30 rfl (lv_at hl 0 rfl) ?_
  refine lv_bipush (v := nI 8) hx hb dX1_init_31 (by decide) ?_
  refine z_newa F (atype := .int) (ty := .int) rfl (by decide +kernel) hK hP hD hS hA 0 rfl (N := 8) (a0 := (8, .inl (fun _ => 0))) (fun _ => rfl) (Nat.le_of_ble_eq_true rfl) (Nat.le_of_ble_eq_true rfl) (by rw [h2, hz]) (Nat.le_of_ble_eq_true rfl) (Nat.le_of_ble_eq_true rfl) dX1_init_33 (fun H zz9 hP hD hS => ?_)
  replace hz := zz9.trans (congrArg (· + 1) hz)
  refine z_putFS (C := RX1) (T := TX1) (N := 9) (ci := 1) (fs := [.int (nI 31), .int (nI 8), .int (nI 17), .ref (ad (n + 1)), .null, .null, .int (nI 0), .int (nI 0), .int (nI 0)]) (f' := (va_up (va_up (va_up f n (.inr (1, [.int (nI 31), .int (nI 8), .int (nI 17), .ref (ad (n + 1)), .ref (ad (n + 2)), .null, .int (nI 0), .int (nI 0), .int (nI 0)]))) (n + 1) (.inl (k 0, 8, .inl (fun _ => 0)))) (n + 2) (.inl (k 0, 8, .inl (fun _ => 0))))) F hK hP hD hS hi1 rfl tyX1 tyX1_ok nmX1 hin (n) 4 (by omega) (by rw [va_up_ne _ _ (by omega), va_up_ne _ _ (by omega), va_up_self]) (by decide) (Nat.le_of_ble_eq_true rfl) (by decide +kernel) rfl rfl rfl rfl rfl (by funext zq; simp only [va_up]; (repeat' split) <;> (first | rfl | omega)) dX1_init_35 (fun H locs zz9 hP hD hS => ?_)
  replace hz := zz9.trans hz
  refine lv_aload_n hx hb dX1_init_38 rfl (lv_at hl 0 rfl) ?_
  refine lv_bipush (v := nI 8) hx hb dX1_init_39 (by decide) ?_
  refine z_newa F (atype := .int) (ty := .int) rfl (by decide +kernel) hK hP hD hS hA 0 rfl (N := 8) (a0 := (8, .inl (fun _ => 0))) (fun _ => rfl) (Nat.le_of_ble_eq_true rfl) (Nat.le_of_ble_eq_true rfl) (by rw [h3, hz]) (Nat.le_of_ble_eq_true rfl) (Nat.le_of_ble_eq_true rfl) dX1_init_41 (fun H zz9 hP hD hS => ?_)
  replace hz := zz9.trans (congrArg (· + 1) hz)
  refine z_putFS (C := RX1) (T := TX1) (N := 9) (ci := 1) (fs := [.int (nI 31), .int (nI 8), .int (nI 17), .ref (ad (n + 1)), .ref (ad (n + 2)), .null, .int (nI 0), .int (nI 0), .int (nI 0)]) (f' := (va_up (va_up (va_up (va_up f n (.inr (1, [.int (nI 31), .int (nI 8), .int (nI 17), .ref (ad (n + 1)), .ref (ad (n + 2)), .ref (ad (n + 3)), .int (nI 0), .int (nI 0), .int (nI 0)]))) (n + 1) (.inl (k 0, 8, .inl (fun _ => 0)))) (n + 2) (.inl (k 0, 8, .inl (fun _ => 0)))) (n + 3) (.inl (k 0, 8, .inl (fun _ => 0))))) F hK hP hD hS hi1 rfl tyX1 tyX1_ok nmX1 hin (n) 5 (by omega) (by rw [va_up_ne _ _ (by omega), va_up_ne _ _ (by omega), va_up_ne _ _ (by omega), va_up_self]) (by decide) (Nat.le_of_ble_eq_true rfl) (by decide +kernel) rfl rfl rfl rfl rfl (by funext zq; simp only [va_up]; (repeat' split) <;> (first | rfl | omega)) dX1_init_43 (fun H locs zz9 hP hD hS => ?_)
  replace hz := zz9.trans hz
  refine lv_aload_n hx hb dX1_init_46 rfl (lv_at hl 0 rfl) ?_
  refine lv_iconst (v := nI 0) hx hb dX1_init_47 (by decide) ?_
  refine z_putS (C := RX1) (T := TX1) (N := 9) (ci := 1) (fs := [.int (nI 31), .int (nI 8), .int (nI 17), .ref (ad (n + 1)), .ref (ad (n + 2)), .ref (ad (n + 3)), .int (nI 0), .int (nI 0), .int (nI 0)]) (f' := (va_up (va_up (va_up (va_up f n (.inr (1, [.int (nI 31), .int (nI 8), .int (nI 17), .ref (ad (n + 1)), .ref (ad (n + 2)), .ref (ad (n + 3)), .int (nI 0), .int (nI 0), .int (nI 0)]))) (n + 1) (.inl (k 0, 8, .inl (fun _ => 0)))) (n + 2) (.inl (k 0, 8, .inl (fun _ => 0)))) (n + 3) (.inl (k 0, 8, .inl (fun _ => 0))))) F hK hP hD hS hi1 rfl tyX1 tyX1_ok nmX1 (n) 6 (by omega) (by rw [va_up_ne _ _ (by omega), va_up_ne _ _ (by omega), va_up_ne _ _ (by omega), va_up_self]) (by decide) (Nat.le_of_ble_eq_true rfl) (by decide +kernel) rfl rfl rfl rfl (by funext zq; simp only [va_up]; (repeat' split) <;> (first | rfl | omega)) dX1_init_48 (fun H locs zz9 hP hD hS => ?_)
  replace hz := zz9.trans hz
  refine lv_aload_n hx hb dX1_init_51 rfl (lv_at hl 0 rfl) ?_
  refine lv_iconst (v := nI 0) hx hb dX1_init_52 (by decide) ?_
  refine z_putS (C := RX1) (T := TX1) (N := 9) (ci := 1) (fs := [.int (nI 31), .int (nI 8), .int (nI 17), .ref (ad (n + 1)), .ref (ad (n + 2)), .ref (ad (n + 3)), .int (nI 0), .int (nI 0), .int (nI 0)]) (f' := (va_up (va_up (va_up (va_up f n (.inr (1, [.int (nI 31), .int (nI 8), .int (nI 17), .ref (ad (n + 1)), .ref (ad (n + 2)), .ref (ad (n + 3)), .int (nI 0), .int (nI 0), .int (nI 0)]))) (n + 1) (.inl (k 0, 8, .inl (fun _ => 0)))) (n + 2) (.inl (k 0, 8, .inl (fun _ => 0)))) (n + 3) (.inl (k 0, 8, .inl (fun _ => 0))))) F hK hP hD hS hi1 rfl tyX1 tyX1_ok nmX1 (n) 7 (by omega) (by rw [va_up_ne _ _ (by omega), va_up_ne _ _ (by omega), va_up_ne _ _ (by omega), va_up_self]) (by decide) (Nat.le_of_ble_eq_true rfl) (by decide +kernel) rfl rfl rfl rfl (by funext zq; simp only [va_up]; (repeat' split) <;> (first | rfl | omega)) dX1_init_53 (fun H locs zz9 hP hD hS => ?_)
  replace hz := zz9.trans hz
  refine lv_aload_n hx hb dX1_init_56 rfl (lv_at hl 0 rfl) ?_
  refine lv_iconst (v := nI 0) hx hb dX1_init_57 (by decide) ?_
  refine z_putS (C := RX1) (T := TX1) (N := 9) (ci := 1) (fs := [.int (nI 31), .int (nI 8), .int (nI 17), .ref (ad (n + 1)), .ref (ad (n + 2)), .ref (ad (n + 3)), .int (nI 0), .int (nI 0), .int (nI 0)]) (f' := (va_up (va_up (va_up (va_up f n (.inr (1, [.int (nI 31), .int (nI 8), .int (nI 17), .ref (ad (n + 1)), .ref (ad (n + 2)), .ref (ad (n + 3)), .int (nI 0), .int (nI 0), .int (nI 0)]))) (n + 1) (.inl (k 0, 8, .inl (fun _ => 0)))) (n + 2) (.inl (k 0, 8, .inl (fun _ => 0)))) (n + 3) (.inl (k 0, 8, .inl (fun _ => 0))))) F hK hP hD hS hi1 rfl tyX1 tyX1_ok nmX1 (n) 8 (by omega) (by rw [va_up_ne _ _ (by omega), va_up_ne _ _ (by omega), va_up_ne _ _ (by omega), va_up_self]) (by decide) (Nat.le_of_ble_eq_true rfl) (by decide +kernel) rfl rfl rfl rfl (by funext zq; simp only [va_up]; (repeat' split) <;> (first | rfl | omega)) dX1_init_58 (fun H locs zz9 hP hD hS => ?_)
  replace hz := zz9.trans hz
  refine W.widen (k := 3) (n := 24) (Nat.le_of_ble_eq_true rfl) (Nat.le_of_ble_eq_true rfl) ?_
  exact W.vret hx hb hr (fun t ht hW => ⟨⟨(), rfl, trivial, by rw [ht]; omega, ⟨by rw [ht]; exact hP, va_K.moved hW.alike hK⟩, hD⟩, hS.F ht⟩) hS.2.2 dX1_init_61
