def fl8 : Nat → Int32 := F_J7_fill_53178_v8 (fun _ => 0) (nI 5)
theorem xN_i1 {U : State} (h : xN U) : va_Nw (.methodLinkNest RX1 11 yX2_init RX5) U := h.2.2.2.2.2.1
theorem xN_i2 {U : State} (h : xN U) : va_Nw (.methodLinkNest RX5 33 yX3_init RX5) U := h.2.2.2.2.2.2.1
theorem xN_i3 {U : State} (h : xN U) : va_Nw (.methodLinkNest RX3 11 yX2_init RX5) U := h.2.2.2.2.2.2.2.1
theorem xN_i4 {U : State} (h : xN U) : va_Nw (.methodLinkNest RX0 26 yX2_init RX5) U := h.2.2.2.2.2.2.2.2.1
theorem xN_i5 {U : State} (h : xN U) : va_Nw (.methodLinkNest RX5 47 yX2_init RX5) U := h.2.2.2.2.2.2.2.2.2.1
set_option maxHeartbeats 4000000 in
set_option maxRecDepth 100000 in
theorem c_X2_init (l : Launch) (dC : Nat → ClassId) (dI : Nat → Nat → Nat) (a : Nat) (cI : ClassId) (sz : Nat) : Met l yX2_init wsX2_init { frames := 1, cells := 3, slots := 18, locals := 12 } (xPcI (dC, dI) vwCl (xT cI) ([(a, .inr (2, [.int 0, .int 0, .null, .null, .null, .int 0, .int 0, .int 0]))]) sz [.ref a]) (va_Qv (fun (u : Nat → Nat) => u 0 = a) (mB (dC, dI) vwCl (xT cI) (va_A ([(a, .inr (2, [.int 0, .int 0, .null, .null, .null, .int 0, .int 0, .int 0]))]) sz) (fun u => [(u 0, .inr (2, [.int 0, .int 0, .ref (u 1), .ref (u 2), .ref (u 3), .int (-1), .int 0, .int 0])), (u 1, .inl (cI, 6, .inl ((fun _ => 0)))), (u 2, .inl (cI, 6, .inl ((fun _ => 0)))), (u 3, .inl (cI, 6, .inl ((fun _ => 0))))])) (va_A ([(a, .inr (2, [.int 0, .int 0, .null, .null, .null, .int 0, .int 0, .int 0]))]) sz)) 3 18 (va_A ([(a, .inr (2, [.int 0, .int 0, .null, .null, .null, .int 0, .int 0, .int 0]))]) sz) := by
  refine Met.ofW (cc := cX2_init) (maxL := 1) (ret := none) (by decide) rfl ?_
  intro p e s m args below meth c s₁ B hml hv
  obtain ⟨rfl, hsz, hP, hK, hD0, hN, hX⟩ := hv
  have hx := B.exec
  have hb := B.bytes
  have hr := B.returns
  have hts := atoms_spec (ws := wsX2_init) B.pre
  have hown : s.vm.findClass RX2 = some m.cls := findClass_of_methodNamed B.named
  have hlocks := B.notSynchronized
  have hini : meth.name = "<init>" := (name_of_methodNamed B.named B.method).1
  subst hsz
  have hD := hD0.self (sz := s.heap.size)
  generalize hAe : va_A ([(a, .inr (2, [.int 0, .int 0, .null, .null, .null, .int 0, .int 0, .int 0]))]) s.heap.size = A at hD ⊢
  have hA : ∀ q : Nat, s.heap.size ≤ q → A q := fun q h => by rw [← hAe]; exact Or.inr h
  have hS : va_S A s.heap s.heap [] := va_S.rf
  have hin2 : ∀ w ∈ wsX20, w ∈ wsX2_init := by decide +kernel
  have lk9 := hts (.fieldLink RX2 9 "PostRounders$Play" "kind" "[I") (by decide +kernel)
  have lk15 := hts (.fieldLink RX2 15 "PostRounders$Play" "legs" "[I") (by decide +kernel)
  have lk18 := hts (.fieldLink RX2 18 "PostRounders$Play" "where" "[I") (by decide +kernel)
  have lk21 := hts (.fieldLink RX2 21 "PostRounders$Play" "next" "I") (by decide +kernel)
  have hl := lv_entry ([.ref a]) (n := 1) (Nat.le_of_ble_eq_true rfl)
  rw [lg_entry_eq]
  generalize (lg_sl ([.ref a]) ++ List.replicate (1 - (lg_sl ([.ref a])).length) Slot.unset).toArray = ls at hl ⊢
  have hl : lv_has ls 1 [(0, .ref a)] := hl
  refine lv_aload_n hx hb dX2_init_0 rfl (lv_at hl 0 rfl) ?_
  refine W.objInit hx hb hown (hts (.methodLink RX2 3 objectInit) (by decide +kernel)) (hts (.instanceMethod objectInit) (by decide +kernel)) (hts (.code objectInit ⟨#[0xb1]⟩ 1 none) (by decide +kernel)) rfl (by rw [hml]; exact hl.1) rfl dX2_init_1 (Nat.le_of_ble_eq_true rfl) (Nat.le_of_ble_eq_true rfl) ?_
  show W _ _ _ _ _ _ _ _ _ _ _ _ _ _ _ (F0 m 4 ls [])
  refine lv_aload_n hx hb dX2_init_4 rfl (lv_at hl 0 rfl) ?_
  refine lv_bipush (v := nI 6) hx hb dX2_init_5 (by decide) ?_
  refine qv_newa (n := 6) hx hb (hts (.arrayClass .int) (by decide +kernel)) hK hP hD hS hA 0 rfl (by decide) (Nat.le_of_ble_eq_true rfl) (Nat.le_of_ble_eq_true rfl) dX2_init_7 (fun q7 H hP hD hS => ?_)
  have hP : va_P (dC, dI) vwCl ([(a, .inr (2, [.int 0, .int 0, .null, .null, .null, .int 0, .int 0, .int 0])), (q7, .inl (cI, 6, .inl ((fun _ => 0))))]) H := hP
  have hD : va_D A ([(a, .inr (2, [.int 0, .int 0, .null, .null, .null, .int 0, .int 0, .int 0])), (q7, .inl (cI, 6, .inl ((fun _ => 0))))]) := hD
  refine va_putF (D := (dC, dI)) (ci := 2) (v := .ref q7) (ty := .array .int) (C := RX2) (T := TX2) (N := 8) hx hb hts hin2 tyX2 tyX2_ok nmX2 hown hK hP hD hS 0 rfl rfl 2 (by decide) lk9 (fun _ h9 => h9) rfl hini rfl (by decide +kernel) rfl rfl (Nat.le_of_ble_eq_true rfl) dX2_init_9 (fun H locs hP hD hS => ?_)
  have hP : va_P (dC, dI) vwCl ([(a, .inr (2, [.int 0, .int 0, .ref q7, .null, .null, .int 0, .int 0, .int 0])), (q7, .inl (cI, 6, .inl ((fun _ => 0))))]) H := hP
  have hD : va_D A ([(a, .inr (2, [.int 0, .int 0, .ref q7, .null, .null, .int 0, .int 0, .int 0])), (q7, .inl (cI, 6, .inl ((fun _ => 0))))]) := hD
  refine lv_aload_n hx hb dX2_init_12 rfl (lv_at hl 0 rfl) ?_
  refine lv_bipush (v := nI 6) hx hb dX2_init_13 (by decide) ?_
  refine qv_newa (n := 6) hx hb (hts (.arrayClass .int) (by decide +kernel)) hK hP hD hS hA 0 rfl (by decide) (Nat.le_of_ble_eq_true rfl) (Nat.le_of_ble_eq_true rfl) dX2_init_15 (fun q15 H hP hD hS => ?_)
  have hP : va_P (dC, dI) vwCl ([(a, .inr (2, [.int 0, .int 0, .ref q7, .null, .null, .int 0, .int 0, .int 0])), (q7, .inl (cI, 6, .inl ((fun _ => 0)))), (q15, .inl (cI, 6, .inl ((fun _ => 0))))]) H := hP
  have hD : va_D A ([(a, .inr (2, [.int 0, .int 0, .ref q7, .null, .null, .int 0, .int 0, .int 0])), (q7, .inl (cI, 6, .inl ((fun _ => 0)))), (q15, .inl (cI, 6, .inl ((fun _ => 0))))]) := hD
  refine va_putF (D := (dC, dI)) (ci := 2) (v := .ref q15) (ty := .array .int) (C := RX2) (T := TX2) (N := 8) hx hb hts hin2 tyX2 tyX2_ok nmX2 hown hK hP hD hS 0 rfl rfl 3 (by decide) lk15 (fun _ h9 => h9) rfl hini rfl (by decide +kernel) rfl rfl (Nat.le_of_ble_eq_true rfl) dX2_init_17 (fun H locs hP hD hS => ?_)
  have hP : va_P (dC, dI) vwCl ([(a, .inr (2, [.int 0, .int 0, .ref q7, .ref q15, .null, .int 0, .int 0, .int 0])), (q7, .inl (cI, 6, .inl ((fun _ => 0)))), (q15, .inl (cI, 6, .inl ((fun _ => 0))))]) H := hP
  have hD : va_D A ([(a, .inr (2, [.int 0, .int 0, .ref q7, .ref q15, .null, .int 0, .int 0, .int 0])), (q7, .inl (cI, 6, .inl ((fun _ => 0)))), (q15, .inl (cI, 6, .inl ((fun _ => 0))))]) := hD
  refine lv_aload_n hx hb dX2_init_20 rfl (lv_at hl 0 rfl) ?_
  refine lv_bipush (v := nI 6) hx hb dX2_init_21 (by decide) ?_
  refine qv_newa (n := 6) hx hb (hts (.arrayClass .int) (by decide +kernel)) hK hP hD hS hA 0 rfl (by decide) (Nat.le_of_ble_eq_true rfl) (Nat.le_of_ble_eq_true rfl) dX2_init_23 (fun q23 H hP hD hS => ?_)
  have hP : va_P (dC, dI) vwCl ([(a, .inr (2, [.int 0, .int 0, .ref q7, .ref q15, .null, .int 0, .int 0, .int 0])), (q7, .inl (cI, 6, .inl ((fun _ => 0)))), (q15, .inl (cI, 6, .inl ((fun _ => 0)))), (q23, .inl (cI, 6, .inl ((fun _ => 0))))]) H := hP
  have hD : va_D A ([(a, .inr (2, [.int 0, .int 0, .ref q7, .ref q15, .null, .int 0, .int 0, .int 0])), (q7, .inl (cI, 6, .inl ((fun _ => 0)))), (q15, .inl (cI, 6, .inl ((fun _ => 0)))), (q23, .inl (cI, 6, .inl ((fun _ => 0))))]) := hD
  refine va_putF (D := (dC, dI)) (ci := 2) (v := .ref q23) (ty := .array .int) (C := RX2) (T := TX2) (N := 8) hx hb hts hin2 tyX2 tyX2_ok nmX2 hown hK hP hD hS 0 rfl rfl 4 (by decide) lk18 (fun _ h9 => h9) rfl hini rfl (by decide +kernel) rfl rfl (Nat.le_of_ble_eq_true rfl) dX2_init_25 (fun H locs hP hD hS => ?_)
  have hP : va_P (dC, dI) vwCl ([(a, .inr (2, [.int 0, .int 0, .ref q7, .ref q15, .ref q23, .int 0, .int 0, .int 0])), (q7, .inl (cI, 6, .inl ((fun _ => 0)))), (q15, .inl (cI, 6, .inl ((fun _ => 0)))), (q23, .inl (cI, 6, .inl ((fun _ => 0))))]) H := hP
  have hD : va_D A ([(a, .inr (2, [.int 0, .int 0, .ref q7, .ref q15, .ref q23, .int 0, .int 0, .int 0])), (q7, .inl (cI, 6, .inl ((fun _ => 0)))), (q15, .inl (cI, 6, .inl ((fun _ => 0)))), (q23, .inl (cI, 6, .inl ((fun _ => 0))))]) := hD
  refine lv_aload_n hx hb dX2_init_28 rfl (lv_at hl 0 rfl) ?_
  refine lv_iconst (v := (-1)) hx hb dX2_init_29 (by decide) ?_
  refine va_put (D := (dC, dI)) (ci := 2) (v := .int ((-1))) (ty := .int) (C := RX2) (T := TX2) (N := 8) hx hb hts hin2 tyX2 tyX2_ok nmX2 hown hK hP hD hS 0 rfl rfl 5 (by decide) lk21 (fun _ h9 => h9) rfl (by decide +kernel) rfl rfl (Nat.le_of_ble_eq_true rfl) dX2_init_30 (fun H locs hP hD hS => ?_)
  have hP : va_P (dC, dI) vwCl ([(a, .inr (2, [.int 0, .int 0, .ref q7, .ref q15, .ref q23, .int ((-1)), .int 0, .int 0])), (q7, .inl (cI, 6, .inl ((fun _ => 0)))), (q15, .inl (cI, 6, .inl ((fun _ => 0)))), (q23, .inl (cI, 6, .inl ((fun _ => 0))))]) H := hP
  have hD : va_D A ([(a, .inr (2, [.int 0, .int 0, .ref q7, .ref q15, .ref q23, .int ((-1)), .int 0, .int 0])), (q7, .inl (cI, 6, .inl ((fun _ => 0)))), (q15, .inl (cI, 6, .inl ((fun _ => 0)))), (q23, .inl (cI, 6, .inl ((fun _ => 0))))]) := hD
  obtain ⟨x, hx0⟩ : ∃ x : Nat → Nat, x = fun i => ([a, q7, q15, q23] : List Nat).getD i 0 := ⟨_, rfl⟩
  have hP9 : va_P (dC, dI) vwCl ([(x 0, .inr (2, [.int 0, .int 0, .ref (x 1), .ref (x 2), .ref (x 3), .int (-1), .int 0, .int 0])), (x 1, .inl (cI, 6, .inl ((fun _ => 0)))), (x 2, .inl (cI, 6, .inl ((fun _ => 0)))), (x 3, .inl (cI, 6, .inl ((fun _ => 0))))]) H := by rw [hx0]; exact va_Psub hP [0, 1, 2, 3] rfl
  have hD9 : va_D A ([(x 0, .inr (2, [.int 0, .int 0, .ref (x 1), .ref (x 2), .ref (x 3), .int (-1), .int 0, .int 0])), (x 1, .inl (cI, 6, .inl ((fun _ => 0)))), (x 2, .inl (cI, 6, .inl ((fun _ => 0)))), (x 3, .inl (cI, 6, .inl ((fun _ => 0))))]) := by rw [hx0]; exact hD.sub [0, 1, 2, 3] (by decide) rfl
  exact W.vret hx hb hr (fun t ht hW => ⟨⟨x, rfl, (by rw [hx0]; rfl), by rw [ht]; exact hP9, va_K.moved hW.alike hK, hD9⟩, hS.F ht⟩) hS.2.2 dX2_init_33
set_option maxHeartbeats 4000000 in
set_option maxRecDepth 100000 in
theorem c_X4_init_v3 (l : Launch) (dC : Nat → ClassId) (dI : Nat → Nat → Nat) (a : Nat) (cI : ClassId) (sz : Nat) : Met l yX4_init wsX4_init { frames := 1, cells := 1, slots := 18, locals := 15 } (xPcI (dC, dI) vwCl (xT cI) ([(a, .inr (4, [.int 0, .null, .int 0]))]) sz [.ref a, .int (nI 3), .int (nI 6)]) (va_Qv (fun (u : Nat → Nat) => u 0 = a) (mB (dC, dI) vwCl (xT cI) (va_A ([(a, .inr (4, [.int 0, .null, .int 0]))]) sz) (fun u => [(u 0, .inr (4, [.int (nI 3), .ref (u 1), .int 0])), (u 1, .inl (cI, 18, .inl ((fun _ => 0))))])) (va_A ([(a, .inr (4, [.int 0, .null, .int 0]))]) sz)) 1 18 (va_A ([(a, .inr (4, [.int 0, .null, .int 0]))]) sz) := by
  refine Met.ofW (cc := cX4_init) (maxL := 3) (ret := none) (by decide) rfl ?_
  intro p e s m args below meth c s₁ B hml hv
  obtain ⟨rfl, hsz, hP, hK, hD0, hN, hX⟩ := hv
  have hx := B.exec
  have hb := B.bytes
  have hr := B.returns
  have hts := atoms_spec (ws := wsX4_init) B.pre
  have hown : s.vm.findClass RX4 = some m.cls := findClass_of_methodNamed B.named
  have hlocks := B.notSynchronized
  have hini : meth.name = "<init>" := (name_of_methodNamed B.named B.method).1
  subst hsz
  have hD := hD0.self (sz := s.heap.size)
  generalize hAe : va_A ([(a, .inr (4, [.int 0, .null, .int 0]))]) s.heap.size = A at hD ⊢
  have hA : ∀ q : Nat, s.heap.size ≤ q → A q := fun q h => by rw [← hAe]; exact Or.inr h
  have hS : va_S A s.heap s.heap [] := va_S.rf
  have hin4 : ∀ w ∈ wsX40, w ∈ wsX4_init := by decide +kernel
  have lk13 := hts (.fieldLink RX4 13 "PostRounders$Rows" "width" "I") (by decide +kernel)
  have lk19 := hts (.fieldLink RX4 19 "PostRounders$Rows" "cells" "[I") (by decide +kernel)
  have hl := lv_entry ([.ref a, .int (nI 3), .int (nI 6)]) (n := 3) (Nat.le_of_ble_eq_true rfl)
  rw [lg_entry_eq]
  generalize (lg_sl ([.ref a, .int (nI 3), .int (nI 6)]) ++ List.replicate (3 - (lg_sl ([.ref a, .int (nI 3), .int (nI 6)])).length) Slot.unset).toArray = ls at hl ⊢
  have hl : lv_has ls 3 [(0, .ref a), (1, .int (nI 3)), (2, .int (nI 6))] := hl
  refine lv_aload_n hx hb dX4_init_0 rfl (lv_at hl 0 rfl) ?_
  refine W.objInit hx hb hown (hts (.methodLink RX4 1 objectInit) (by decide +kernel)) (hts (.instanceMethod objectInit) (by decide +kernel)) (hts (.code objectInit ⟨#[0xb1]⟩ 1 none) (by decide +kernel)) rfl (by rw [hml]; exact hl.1) rfl dX4_init_1 (Nat.le_of_ble_eq_true rfl) (Nat.le_of_ble_eq_true rfl) ?_
  show W _ _ _ _ _ _ _ _ _ _ _ _ _ _ _ (F0 m 4 ls [])
  refine lv_aload_n hx hb dX4_init_4 rfl (lv_at hl 0 rfl) ?_
  refine lv_iconst (v := nI 1) hx hb dX4_init_5 (by decide) ?_
  refine lv_iload_n hx hb dX4_init_6 rfl (lv_at hl 1 rfl) ?_
  refine va_mmax hx hb (hml.trans hl.1.symm) hown (hts (.methodLink RX4 7 Lib.Math.max.name) (by decide +kernel)) (hts (.static Lib.Math.max.name) (by decide +kernel)) (hts (.initialized "java/lang/Math") (by decide +kernel)) (hts (.code Lib.Math.max.name Lib.Math.max.code 2 (some .int)) (by decide +kernel)) (Nat.le_of_ble_eq_true rfl) (Nat.le_of_ble_eq_true rfl) (Nat.zero_le _) (Nat.zero_le _) dX4_init_7 ?_
  refine qv_top (show (if nI 1 < nI 3 then nI 3 else nI 1) = nI 3 from by decide) ?_
  refine va_putF (D := (dC, dI)) (ci := 4) (v := .int (nI 3)) (ty := .int) (C := RX4) (T := TX4) (N := 3) hx hb hts hin4 tyX4 tyX4_ok nmX4 hown hK hP hD hS 0 rfl rfl 0 (by decide) lk13 (fun _ h9 => h9) rfl hini rfl (by decide +kernel) rfl rfl (Nat.le_of_ble_eq_true rfl) dX4_init_10 (fun H locs hP hD hS => ?_)
  have hP : va_P (dC, dI) vwCl ([(a, .inr (4, [.int (nI 3), .null, .int 0]))]) H := hP
  have hD : va_D A ([(a, .inr (4, [.int (nI 3), .null, .int 0]))]) := hD
  refine lv_aload_n hx hb dX4_init_13 rfl (lv_at hl 0 rfl) ?_
  refine lv_aload_n hx hb dX4_init_14 rfl (lv_at hl 0 rfl) ?_
  refine va_get (D := (dC, dI)) (ci := 4) (v := .int (nI 3)) (C := RX4) (T := TX4) (N := 3) hx hb hts hin4 hown hK hP 0 rfl rfl 0 (by decide) lk13 (fun _ h9 => h9) rfl dX4_init_15 ?_
  refine lv_iconst (v := nI 0) hx hb dX4_init_18 (by decide) ?_
  refine lv_iload_n hx hb dX4_init_19 rfl (lv_at hl 2 rfl) ?_
  refine va_mmax hx hb (hml.trans hl.1.symm) hown (hts (.methodLink RX4 7 Lib.Math.max.name) (by decide +kernel)) (hts (.static Lib.Math.max.name) (by decide +kernel)) (hts (.initialized "java/lang/Math") (by decide +kernel)) (hts (.code Lib.Math.max.name Lib.Math.max.code 2 (some .int)) (by decide +kernel)) (Nat.le_of_ble_eq_true rfl) (Nat.le_of_ble_eq_true rfl) (Nat.zero_le _) (Nat.zero_le _) dX4_init_20 ?_
  refine qv_top (show (if nI 0 < nI 6 then nI 6 else nI 0) = nI 6 from by decide) ?_
  refine qv_imul hx hb (18) dX4_init_23 (by omega) ?_
  refine qv_newa (n := 18) hx hb (hts (.arrayClass .int) (by decide +kernel)) hK hP hD hS hA 0 rfl (by decide) (Nat.le_of_ble_eq_true rfl) (Nat.le_of_ble_eq_true rfl) dX4_init_24 (fun q24 H hP hD hS => ?_)
  have hP : va_P (dC, dI) vwCl ([(a, .inr (4, [.int (nI 3), .null, .int 0])), (q24, .inl (cI, 18, .inl ((fun _ => 0))))]) H := hP
  have hD : va_D A ([(a, .inr (4, [.int (nI 3), .null, .int 0])), (q24, .inl (cI, 18, .inl ((fun _ => 0))))]) := hD
  refine va_putF (D := (dC, dI)) (ci := 4) (v := .ref q24) (ty := .array .int) (C := RX4) (T := TX4) (N := 3) hx hb hts hin4 tyX4 tyX4_ok nmX4 hown hK hP hD hS 0 rfl rfl 1 (by decide) lk19 (fun _ h9 => h9) rfl hini rfl (by decide +kernel) rfl rfl (Nat.le_of_ble_eq_true rfl) dX4_init_26 (fun H locs hP hD hS => ?_)
  have hP : va_P (dC, dI) vwCl ([(a, .inr (4, [.int (nI 3), .ref q24, .int 0])), (q24, .inl (cI, 18, .inl ((fun _ => 0))))]) H := hP
  have hD : va_D A ([(a, .inr (4, [.int (nI 3), .ref q24, .int 0])), (q24, .inl (cI, 18, .inl ((fun _ => 0))))]) := hD
  obtain ⟨x, hx0⟩ : ∃ x : Nat → Nat, x = fun i => ([a, q24] : List Nat).getD i 0 := ⟨_, rfl⟩
  have hP9 : va_P (dC, dI) vwCl ([(x 0, .inr (4, [.int (nI 3), .ref (x 1), .int 0])), (x 1, .inl (cI, 18, .inl ((fun _ => 0))))]) H := by rw [hx0]; exact va_Psub hP [0, 1] rfl
  have hD9 : va_D A ([(x 0, .inr (4, [.int (nI 3), .ref (x 1), .int 0])), (x 1, .inl (cI, 18, .inl ((fun _ => 0))))]) := by rw [hx0]; exact hD.sub [0, 1] (by decide) rfl
  exact W.vret hx hb hr (fun t ht hW => ⟨⟨x, rfl, (by rw [hx0]; rfl), by rw [ht]; exact hP9, va_K.moved hW.alike hK, hD9⟩, hS.F ht⟩) hS.2.2 dX4_init_29
set_option maxHeartbeats 4000000 in
set_option maxRecDepth 100000 in
theorem c_X4_init_v4 (l : Launch) (dC : Nat → ClassId) (dI : Nat → Nat → Nat) (a : Nat) (cI : ClassId) (sz : Nat) : Met l yX4_init wsX4_init { frames := 1, cells := 1, slots := 24, locals := 15 } (xPcI (dC, dI) vwCl (xT cI) ([(a, .inr (4, [.int 0, .null, .int 0]))]) sz [.ref a, .int (nI 4), .int (nI 6)]) (va_Qv (fun (u : Nat → Nat) => u 0 = a) (mB (dC, dI) vwCl (xT cI) (va_A ([(a, .inr (4, [.int 0, .null, .int 0]))]) sz) (fun u => [(u 0, .inr (4, [.int (nI 4), .ref (u 1), .int 0])), (u 1, .inl (cI, 24, .inl ((fun _ => 0))))])) (va_A ([(a, .inr (4, [.int 0, .null, .int 0]))]) sz)) 1 24 (va_A ([(a, .inr (4, [.int 0, .null, .int 0]))]) sz) := by
  refine Met.ofW (cc := cX4_init) (maxL := 3) (ret := none) (by decide) rfl ?_
  intro p e s m args below meth c s₁ B hml hv
  obtain ⟨rfl, hsz, hP, hK, hD0, hN, hX⟩ := hv
  have hx := B.exec
  have hb := B.bytes
  have hr := B.returns
  have hts := atoms_spec (ws := wsX4_init) B.pre
  have hown : s.vm.findClass RX4 = some m.cls := findClass_of_methodNamed B.named
  have hlocks := B.notSynchronized
  have hini : meth.name = "<init>" := (name_of_methodNamed B.named B.method).1
  subst hsz
  have hD := hD0.self (sz := s.heap.size)
  generalize hAe : va_A ([(a, .inr (4, [.int 0, .null, .int 0]))]) s.heap.size = A at hD ⊢
  have hA : ∀ q : Nat, s.heap.size ≤ q → A q := fun q h => by rw [← hAe]; exact Or.inr h
  have hS : va_S A s.heap s.heap [] := va_S.rf
  have hin4 : ∀ w ∈ wsX40, w ∈ wsX4_init := by decide +kernel
  have lk13 := hts (.fieldLink RX4 13 "PostRounders$Rows" "width" "I") (by decide +kernel)
  have lk19 := hts (.fieldLink RX4 19 "PostRounders$Rows" "cells" "[I") (by decide +kernel)
  have hl := lv_entry ([.ref a, .int (nI 4), .int (nI 6)]) (n := 3) (Nat.le_of_ble_eq_true rfl)
  rw [lg_entry_eq]
  generalize (lg_sl ([.ref a, .int (nI 4), .int (nI 6)]) ++ List.replicate (3 - (lg_sl ([.ref a, .int (nI 4), .int (nI 6)])).length) Slot.unset).toArray = ls at hl ⊢
  have hl : lv_has ls 3 [(0, .ref a), (1, .int (nI 4)), (2, .int (nI 6))] := hl
  refine lv_aload_n hx hb dX4_init_0 rfl (lv_at hl 0 rfl) ?_
  refine W.objInit hx hb hown (hts (.methodLink RX4 1 objectInit) (by decide +kernel)) (hts (.instanceMethod objectInit) (by decide +kernel)) (hts (.code objectInit ⟨#[0xb1]⟩ 1 none) (by decide +kernel)) rfl (by rw [hml]; exact hl.1) rfl dX4_init_1 (Nat.le_of_ble_eq_true rfl) (Nat.le_of_ble_eq_true rfl) ?_
  show W _ _ _ _ _ _ _ _ _ _ _ _ _ _ _ (F0 m 4 ls [])
  refine lv_aload_n hx hb dX4_init_4 rfl (lv_at hl 0 rfl) ?_
  refine lv_iconst (v := nI 1) hx hb dX4_init_5 (by decide) ?_
  refine lv_iload_n hx hb dX4_init_6 rfl (lv_at hl 1 rfl) ?_
  refine va_mmax hx hb (hml.trans hl.1.symm) hown (hts (.methodLink RX4 7 Lib.Math.max.name) (by decide +kernel)) (hts (.static Lib.Math.max.name) (by decide +kernel)) (hts (.initialized "java/lang/Math") (by decide +kernel)) (hts (.code Lib.Math.max.name Lib.Math.max.code 2 (some .int)) (by decide +kernel)) (Nat.le_of_ble_eq_true rfl) (Nat.le_of_ble_eq_true rfl) (Nat.zero_le _) (Nat.zero_le _) dX4_init_7 ?_
  refine qv_top (show (if nI 1 < nI 4 then nI 4 else nI 1) = nI 4 from by decide) ?_
  refine va_putF (D := (dC, dI)) (ci := 4) (v := .int (nI 4)) (ty := .int) (C := RX4) (T := TX4) (N := 3) hx hb hts hin4 tyX4 tyX4_ok nmX4 hown hK hP hD hS 0 rfl rfl 0 (by decide) lk13 (fun _ h9 => h9) rfl hini rfl (by decide +kernel) rfl rfl (Nat.le_of_ble_eq_true rfl) dX4_init_10 (fun H locs hP hD hS => ?_)
  have hP : va_P (dC, dI) vwCl ([(a, .inr (4, [.int (nI 4), .null, .int 0]))]) H := hP
  have hD : va_D A ([(a, .inr (4, [.int (nI 4), .null, .int 0]))]) := hD
  refine lv_aload_n hx hb dX4_init_13 rfl (lv_at hl 0 rfl) ?_
  refine lv_aload_n hx hb dX4_init_14 rfl (lv_at hl 0 rfl) ?_
  refine va_get (D := (dC, dI)) (ci := 4) (v := .int (nI 4)) (C := RX4) (T := TX4) (N := 3) hx hb hts hin4 hown hK hP 0 rfl rfl 0 (by decide) lk13 (fun _ h9 => h9) rfl dX4_init_15 ?_
  refine lv_iconst (v := nI 0) hx hb dX4_init_18 (by decide) ?_
  refine lv_iload_n hx hb dX4_init_19 rfl (lv_at hl 2 rfl) ?_
  refine va_mmax hx hb (hml.trans hl.1.symm) hown (hts (.methodLink RX4 7 Lib.Math.max.name) (by decide +kernel)) (hts (.static Lib.Math.max.name) (by decide +kernel)) (hts (.initialized "java/lang/Math") (by decide +kernel)) (hts (.code Lib.Math.max.name Lib.Math.max.code 2 (some .int)) (by decide +kernel)) (Nat.le_of_ble_eq_true rfl) (Nat.le_of_ble_eq_true rfl) (Nat.zero_le _) (Nat.zero_le _) dX4_init_20 ?_
  refine qv_top (show (if nI 0 < nI 6 then nI 6 else nI 0) = nI 6 from by decide) ?_
  refine qv_imul hx hb (24) dX4_init_23 (by omega) ?_
  refine qv_newa (n := 24) hx hb (hts (.arrayClass .int) (by decide +kernel)) hK hP hD hS hA 0 rfl (by decide) (Nat.le_of_ble_eq_true rfl) (Nat.le_of_ble_eq_true rfl) dX4_init_24 (fun q24 H hP hD hS => ?_)
  have hP : va_P (dC, dI) vwCl ([(a, .inr (4, [.int (nI 4), .null, .int 0])), (q24, .inl (cI, 24, .inl ((fun _ => 0))))]) H := hP
  have hD : va_D A ([(a, .inr (4, [.int (nI 4), .null, .int 0])), (q24, .inl (cI, 24, .inl ((fun _ => 0))))]) := hD
  refine va_putF (D := (dC, dI)) (ci := 4) (v := .ref q24) (ty := .array .int) (C := RX4) (T := TX4) (N := 3) hx hb hts hin4 tyX4 tyX4_ok nmX4 hown hK hP hD hS 0 rfl rfl 1 (by decide) lk19 (fun _ h9 => h9) rfl hini rfl (by decide +kernel) rfl rfl (Nat.le_of_ble_eq_true rfl) dX4_init_26 (fun H locs hP hD hS => ?_)
  have hP : va_P (dC, dI) vwCl ([(a, .inr (4, [.int (nI 4), .ref q24, .int 0])), (q24, .inl (cI, 24, .inl ((fun _ => 0))))]) H := hP
  have hD : va_D A ([(a, .inr (4, [.int (nI 4), .ref q24, .int 0])), (q24, .inl (cI, 24, .inl ((fun _ => 0))))]) := hD
  obtain ⟨x, hx0⟩ : ∃ x : Nat → Nat, x = fun i => ([a, q24] : List Nat).getD i 0 := ⟨_, rfl⟩
  have hP9 : va_P (dC, dI) vwCl ([(x 0, .inr (4, [.int (nI 4), .ref (x 1), .int 0])), (x 1, .inl (cI, 24, .inl ((fun _ => 0))))]) H := by rw [hx0]; exact va_Psub hP [0, 1] rfl
  have hD9 : va_D A ([(x 0, .inr (4, [.int (nI 4), .ref (x 1), .int 0])), (x 1, .inl (cI, 24, .inl ((fun _ => 0))))]) := by rw [hx0]; exact hD.sub [0, 1] (by decide) rfl
  exact W.vret hx hb hr (fun t ht hW => ⟨⟨x, rfl, (by rw [hx0]; rfl), by rw [ht]; exact hP9, va_K.moved hW.alike hK, hD9⟩, hS.F ht⟩) hS.2.2 dX4_init_29
set_option maxHeartbeats 4000000 in
set_option maxRecDepth 100000 in
theorem c_X4_init_v9 (l : Launch) (dC : Nat → ClassId) (dI : Nat → Nat → Nat) (a : Nat) (cI : ClassId) (sz : Nat) : Met l yX4_init wsX4_init { frames := 1, cells := 1, slots := 72, locals := 15 } (xPcI (dC, dI) vwCl (xT cI) ([(a, .inr (4, [.int 0, .null, .int 0]))]) sz [.ref a, .int (nI 9), .int (nI 8)]) (va_Qv (fun (u : Nat → Nat) => u 0 = a) (mB (dC, dI) vwCl (xT cI) (va_A ([(a, .inr (4, [.int 0, .null, .int 0]))]) sz) (fun u => [(u 0, .inr (4, [.int (nI 9), .ref (u 1), .int 0])), (u 1, .inl (cI, 72, .inl ((fun _ => 0))))])) (va_A ([(a, .inr (4, [.int 0, .null, .int 0]))]) sz)) 1 72 (va_A ([(a, .inr (4, [.int 0, .null, .int 0]))]) sz) := by
  refine Met.ofW (cc := cX4_init) (maxL := 3) (ret := none) (by decide) rfl ?_
  intro p e s m args below meth c s₁ B hml hv
  obtain ⟨rfl, hsz, hP, hK, hD0, hN, hX⟩ := hv
  have hx := B.exec
  have hb := B.bytes
  have hr := B.returns
  have hts := atoms_spec (ws := wsX4_init) B.pre
  have hown : s.vm.findClass RX4 = some m.cls := findClass_of_methodNamed B.named
  have hlocks := B.notSynchronized
  have hini : meth.name = "<init>" := (name_of_methodNamed B.named B.method).1
  subst hsz
  have hD := hD0.self (sz := s.heap.size)
  generalize hAe : va_A ([(a, .inr (4, [.int 0, .null, .int 0]))]) s.heap.size = A at hD ⊢
  have hA : ∀ q : Nat, s.heap.size ≤ q → A q := fun q h => by rw [← hAe]; exact Or.inr h
  have hS : va_S A s.heap s.heap [] := va_S.rf
  have hin4 : ∀ w ∈ wsX40, w ∈ wsX4_init := by decide +kernel
  have lk13 := hts (.fieldLink RX4 13 "PostRounders$Rows" "width" "I") (by decide +kernel)
  have lk19 := hts (.fieldLink RX4 19 "PostRounders$Rows" "cells" "[I") (by decide +kernel)
  have hl := lv_entry ([.ref a, .int (nI 9), .int (nI 8)]) (n := 3) (Nat.le_of_ble_eq_true rfl)
  rw [lg_entry_eq]
  generalize (lg_sl ([.ref a, .int (nI 9), .int (nI 8)]) ++ List.replicate (3 - (lg_sl ([.ref a, .int (nI 9), .int (nI 8)])).length) Slot.unset).toArray = ls at hl ⊢
  have hl : lv_has ls 3 [(0, .ref a), (1, .int (nI 9)), (2, .int (nI 8))] := hl
  refine lv_aload_n hx hb dX4_init_0 rfl (lv_at hl 0 rfl) ?_
  refine W.objInit hx hb hown (hts (.methodLink RX4 1 objectInit) (by decide +kernel)) (hts (.instanceMethod objectInit) (by decide +kernel)) (hts (.code objectInit ⟨#[0xb1]⟩ 1 none) (by decide +kernel)) rfl (by rw [hml]; exact hl.1) rfl dX4_init_1 (Nat.le_of_ble_eq_true rfl) (Nat.le_of_ble_eq_true rfl) ?_
  show W _ _ _ _ _ _ _ _ _ _ _ _ _ _ _ (F0 m 4 ls [])
  refine lv_aload_n hx hb dX4_init_4 rfl (lv_at hl 0 rfl) ?_
  refine lv_iconst (v := nI 1) hx hb dX4_init_5 (by decide) ?_
  refine lv_iload_n hx hb dX4_init_6 rfl (lv_at hl 1 rfl) ?_
  refine va_mmax hx hb (hml.trans hl.1.symm) hown (hts (.methodLink RX4 7 Lib.Math.max.name) (by decide +kernel)) (hts (.static Lib.Math.max.name) (by decide +kernel)) (hts (.initialized "java/lang/Math") (by decide +kernel)) (hts (.code Lib.Math.max.name Lib.Math.max.code 2 (some .int)) (by decide +kernel)) (Nat.le_of_ble_eq_true rfl) (Nat.le_of_ble_eq_true rfl) (Nat.zero_le _) (Nat.zero_le _) dX4_init_7 ?_
  refine qv_top (show (if nI 1 < nI 9 then nI 9 else nI 1) = nI 9 from by decide) ?_
  refine va_putF (D := (dC, dI)) (ci := 4) (v := .int (nI 9)) (ty := .int) (C := RX4) (T := TX4) (N := 3) hx hb hts hin4 tyX4 tyX4_ok nmX4 hown hK hP hD hS 0 rfl rfl 0 (by decide) lk13 (fun _ h9 => h9) rfl hini rfl (by decide +kernel) rfl rfl (Nat.le_of_ble_eq_true rfl) dX4_init_10 (fun H locs hP hD hS => ?_)
  have hP : va_P (dC, dI) vwCl ([(a, .inr (4, [.int (nI 9), .null, .int 0]))]) H := hP
  have hD : va_D A ([(a, .inr (4, [.int (nI 9), .null, .int 0]))]) := hD
  refine lv_aload_n hx hb dX4_init_13 rfl (lv_at hl 0 rfl) ?_
  refine lv_aload_n hx hb dX4_init_14 rfl (lv_at hl 0 rfl) ?_
  refine va_get (D := (dC, dI)) (ci := 4) (v := .int (nI 9)) (C := RX4) (T := TX4) (N := 3) hx hb hts hin4 hown hK hP 0 rfl rfl 0 (by decide) lk13 (fun _ h9 => h9) rfl dX4_init_15 ?_
  refine lv_iconst (v := nI 0) hx hb dX4_init_18 (by decide) ?_
  refine lv_iload_n hx hb dX4_init_19 rfl (lv_at hl 2 rfl) ?_
  refine va_mmax hx hb (hml.trans hl.1.symm) hown (hts (.methodLink RX4 7 Lib.Math.max.name) (by decide +kernel)) (hts (.static Lib.Math.max.name) (by decide +kernel)) (hts (.initialized "java/lang/Math") (by decide +kernel)) (hts (.code Lib.Math.max.name Lib.Math.max.code 2 (some .int)) (by decide +kernel)) (Nat.le_of_ble_eq_true rfl) (Nat.le_of_ble_eq_true rfl) (Nat.zero_le _) (Nat.zero_le _) dX4_init_20 ?_
  refine qv_top (show (if nI 0 < nI 8 then nI 8 else nI 0) = nI 8 from by decide) ?_
  refine qv_imul hx hb (72) dX4_init_23 (by omega) ?_
  refine qv_newa (n := 72) hx hb (hts (.arrayClass .int) (by decide +kernel)) hK hP hD hS hA 0 rfl (by decide) (Nat.le_of_ble_eq_true rfl) (Nat.le_of_ble_eq_true rfl) dX4_init_24 (fun q24 H hP hD hS => ?_)
  have hP : va_P (dC, dI) vwCl ([(a, .inr (4, [.int (nI 9), .null, .int 0])), (q24, .inl (cI, 72, .inl ((fun _ => 0))))]) H := hP
  have hD : va_D A ([(a, .inr (4, [.int (nI 9), .null, .int 0])), (q24, .inl (cI, 72, .inl ((fun _ => 0))))]) := hD
  refine va_putF (D := (dC, dI)) (ci := 4) (v := .ref q24) (ty := .array .int) (C := RX4) (T := TX4) (N := 3) hx hb hts hin4 tyX4 tyX4_ok nmX4 hown hK hP hD hS 0 rfl rfl 1 (by decide) lk19 (fun _ h9 => h9) rfl hini rfl (by decide +kernel) rfl rfl (Nat.le_of_ble_eq_true rfl) dX4_init_26 (fun H locs hP hD hS => ?_)
  have hP : va_P (dC, dI) vwCl ([(a, .inr (4, [.int (nI 9), .ref q24, .int 0])), (q24, .inl (cI, 72, .inl ((fun _ => 0))))]) H := hP
  have hD : va_D A ([(a, .inr (4, [.int (nI 9), .ref q24, .int 0])), (q24, .inl (cI, 72, .inl ((fun _ => 0))))]) := hD
  obtain ⟨x, hx0⟩ : ∃ x : Nat → Nat, x = fun i => ([a, q24] : List Nat).getD i 0 := ⟨_, rfl⟩
  have hP9 : va_P (dC, dI) vwCl ([(x 0, .inr (4, [.int (nI 9), .ref (x 1), .int 0])), (x 1, .inl (cI, 72, .inl ((fun _ => 0))))]) H := by rw [hx0]; exact va_Psub hP [0, 1] rfl
  have hD9 : va_D A ([(x 0, .inr (4, [.int (nI 9), .ref (x 1), .int 0])), (x 1, .inl (cI, 72, .inl ((fun _ => 0))))]) := by rw [hx0]; exact hD.sub [0, 1] (by decide) rfl
  exact W.vret hx hb hr (fun t ht hW => ⟨⟨x, rfl, (by rw [hx0]; rfl), by rw [ht]; exact hP9, va_K.moved hW.alike hK, hD9⟩, hS.F ht⟩) hS.2.2 dX4_init_29
