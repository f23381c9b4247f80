abbrev xS : Type := Int32 × Int64 × Int64
abbrev Xtl (X : xS) : Int32 := X.1
abbrev Xab (X : xS) : Int64 := X.2.1
abbrev Xbe (X : xS) : Int64 := X.2.2
abbrev xO (x : Nat → Nat) (X : xS) : va_W := [(x 0, .inr (5, [.ref (x 1), .ref (x 13), .ref (x 14), .int (Xtl X), .long (Xab X), .long (Xbe X), .ref (x 15), .ref (x 16), .ref (x 22), .ref (x 51), .ref (x 55), .ref (x 56), .ref (x 57), .ref (x 58)]))]
def F_X5_refuse (Rf : Nat → Int32) (why : Int32) : Int32 × (Nat → Int32) := if (F_X5_within (((-2)) - why) (nI 0) (nI 2)) = true then (why, (upd Rf (tN (((-2)) - why)) ((Rf (tN (((-2)) - why))) + (nI 1)))) else (why, Rf)
set_option maxHeartbeats 4000000 in
set_option maxRecDepth 100000 in
theorem c_X5_refuse (l : Launch) (dC : Nat → ClassId) (dI : Nat → Nat → Nat) (x : Nat → Nat) (cI : ClassId) (sz : Nat) (X : xS) (Rf : Nat → Int32) (why : Int32) : Met l yX5_refuse wsX5_refuse { frames := 1, cells := 0, slots := 0, locals := 22 } (xPc (dC, dI) vwCl (xT cI) ((xO x X) ++ ([(x 15, .inl (cI, 3, .inl Rf))])) sz [.ref (x 0), .int why]) (va_Qi (fun (r : Int32) (u : (Nat → Int32)) => F_X5_refuse Rf why = (r, u)) (mB (dC, dI) vwCl (xT cI) (va_A ((xO x X) ++ ([(x 15, .inl (cI, 3, .inl Rf))])) sz) (fun u => (xO x X) ++ ([(x 15, .inl (cI, 3, .inl u))]))) (va_A ((xO x X) ++ ([(x 15, .inl (cI, 3, .inl Rf))])) sz)) 0 0 (va_A ((xO x X) ++ ([(x 15, .inl (cI, 3, .inl Rf))])) sz) := by
  refine Met.ofW (cc := cX5_refuse) (maxL := 3) (ret := (some .int)) (by decide) rfl ?_
  intro p e s m args below meth c s₁ B hml hv
  obtain ⟨rfl, hsz, hP, hK, hD0, hN⟩ := hv
  have hx := B.exec
  have hb := B.bytes
  have hr := B.returns
  have hts := atoms_spec (ws := wsX5_refuse) B.pre
  have hown : s.vm.findClass RX5 = some m.cls := findClass_of_methodNamed B.named
  have hlocks := B.notSynchronized
  subst hsz
  have hD := hD0.self (sz := s.heap.size)
  generalize hAe : va_A ((xO x X) ++ ([(x 15, .inl (cI, 3, .inl Rf))])) s.heap.size = A at hD ⊢
  have hA : ∀ q : Nat, s.heap.size ≤ q → A q := fun q h => by rw [← hAe]; exact Or.inr h
  have hS : va_S A s.heap s.heap [] := va_S.rf
  have hin5 : ∀ w ∈ wsX50, w ∈ wsX5_refuse := by decide +kernel
  have lk28 := hts (.fieldLink RX5 28 "PostRounders" "refusals" "[I") (by decide +kernel)
  have hl := lv_entry ([.ref (x 0), .int why]) (n := 3) (Nat.le_of_ble_eq_true rfl)
  rw [lg_entry_eq]
  generalize (lg_sl ([.ref (x 0), .int why]) ++ List.replicate (3 - (lg_sl ([.ref (x 0), .int why])).length) Slot.unset).toArray = ls at hl ⊢
  have hl : lv_has ls 3 [(0, .ref (x 0)), (1, .int why)] := hl
  obtain ⟨OUT, hO⟩ : ∃ z, z = F_X5_refuse Rf why := ⟨_, rfl⟩
  have hF := hO
  unfold F_X5_refuse at hF
  refine lv_bipush (v := (-2)) hx hb dX5_refuse_0 (by decide) ?_
  refine lv_iload_n hx hb dX5_refuse_2 rfl (lv_at hl 1 rfl) ?_
  refine lv_isub hx hb dX5_refuse_3 ?_
  refine lv_istore_n (lv' := [(2, .int (((-2)) - why)), (0, .ref (x 0)), (1, .int why)]) hx hb dX5_refuse_4 rfl hl (by decide) rfl (fun ls hl => ?_)
  refine lv_iload_n hx hb dX5_refuse_5 rfl (lv_at hl 0 rfl) ?_
  refine lv_iconst (v := nI 0) hx hb dX5_refuse_6 (by decide) ?_
  refine lv_iconst (v := nI 2) hx hb dX5_refuse_7 (by decide) ?_
  refine qc_Si (As := [.int (((-2)) - why), .int (nI 0), .int (nI 2)]) (rest := []) ⟨hx, hb, hml, hown, hts⟩ (c_X5_within l (((-2)) - why) (nI 0) (nI 2)) (va_cwS 3 hts gX5_refuse_X5_within rfl rfl rfl (by decide +kernel) ⟨Nat.le_of_ble_eq_true rfl, Nat.le_of_ble_eq_true rfl⟩) rfl hl.1 rfl (Nat.le_of_ble_eq_true rfl) dX5_refuse_8 ⟨Nat.zero_le _, Nat.zero_le _⟩ (fun r_8 hw_8 => ?_)
  refine qv_top hw_8 ?_
  refine qv_zif_eq (tgt := 24) hx hb dX5_refuse_11 (by decide) (fun c_11 => ?_) (fun c_11 => ?_)
  · rw [if_neg c_11] at hF
    refine lv_iload_n hx hb dX5_refuse_24 rfl (lv_at hl 2 rfl) ?_
    have hP9 : va_P (dC, dI) vwCl ((xO x X) ++ ([(x 15, .inl (cI, 3, .inl Rf))])) s.heap := hP
    exact W.iret (v := why) hx hb hr (fun t ht hW => ⟨⟨_, (Rf), rfl, hO.symm.trans hF, by rw [ht]; exact hP9, va_K.moved hW.alike hK, hD⟩, hS.F ht⟩) hS.2.2 dX5_refuse_25
  · rw [if_pos c_11] at hF
    obtain ⟨f_y, fa_y, fb_y⟩ := within_nat (by decide) (by decide) c_11
    have e_y := tN_eq f_y
    refine lv_aload_n hx hb dX5_refuse_14 rfl (lv_at hl 1 rfl) ?_
    refine va_get (D := (dC, dI)) (ci := 5) (v := .ref (x 15)) (C := RX5) (T := TX5) (N := 14) hx hb hts hin5 hown hK hP 0 rfl rfl 6 (by decide) lk28 (fun _ h9 => h9) rfl dX5_refuse_15 ?_
    refine lv_iload_n hx hb dX5_refuse_18 rfl (lv_at hl 0 rfl) ?_
    refine qv_top (e_y) ?_
    refine lv_dup2_11 hx hb dX5_refuse_19 rfl rfl ?_
    refine qv_ald (v := Rf (tN (((-2)) - why))) hx hb hK hP 1 0 rfl rfl (by omega) (by decide) (rfl) dX5_refuse_20 ?_
    refine lv_iconst (v := nI 1) hx hb dX5_refuse_21 (by decide) ?_
    refine lv_iadd hx hb dX5_refuse_22 ?_
    refine qv_ast (ws' := (xO x X) ++ ([(x 15, .inl (cI, 3, .inl (upd Rf (tN (((-2)) - why)) ((Rf (tN (((-2)) - why))) + (nI 1)))))])) hx hb hK hP hD hS 1 0 rfl rfl (by omega) (by decide) dX5_refuse_23 rfl (fun H locs hP hD hS => ?_)
    refine lv_iload_n hx hb dX5_refuse_24 rfl (lv_at hl 2 rfl) ?_
    have hP9 : va_P (dC, dI) vwCl ((xO x X) ++ ([(x 15, .inl (cI, 3, .inl (upd Rf (tN (((-2)) - why)) ((Rf (tN (((-2)) - why))) + (nI 1)))))])) H := hP
    exact W.iret (v := why) hx hb hr (fun t ht hW => ⟨⟨_, (upd Rf (tN (((-2)) - why)) ((Rf (tN (((-2)) - why))) + (nI 1))), rfl, hO.symm.trans hF, by rw [ht]; exact hP9, va_K.moved hW.alike hK, hD⟩, hS.F ht⟩) hS.2.2 dX5_refuse_25
def F_X5_isBatter (P : pS) (i : Int32) : Bool := (F_X5_within i (nI 0) ((nI (tN (Psz P))) - (nI 1)))
set_option maxHeartbeats 4000000 in
set_option maxRecDepth 100000 in
theorem c_X5_isBatter (l : Launch) (dC : Nat → ClassId) (dI : Nat → Nat → Nat) (x : Nat → Nat) (cI : ClassId) (sz : Nat) (X : xS) (P : pS) (i : Int32) (pz : inB (Psz P) 6) : Met l yX5_isBatter wsX5_isBatter { frames := 1, cells := 0, slots := 0, locals := 22 } (xPc (dC, dI) vwCl (xT cI) ((xO x X) ++ (fO ((fun i => x (1 + i)))) ++ (pW ((fun i => x (2 + i))) cI P)) sz [.ref (x 0), .int i]) (va_Qi (fun (r : Int32) (u : Unit) => ∃ z : Bool, F_X5_isBatter P i = z ∧ r = if z = true then 1 else 0) (mB (dC, dI) vwCl (xT cI) (va_A ((xO x X) ++ (fO ((fun i => x (1 + i)))) ++ (pW ((fun i => x (2 + i))) cI P)) sz) (fun u => (xO x X) ++ (fO ((fun i => x (1 + i)))) ++ (pW ((fun i => x (2 + i))) cI P))) (va_A ((xO x X) ++ (fO ((fun i => x (1 + i)))) ++ (pW ((fun i => x (2 + i))) cI P)) sz)) 0 0 (va_A ((xO x X) ++ (fO ((fun i => x (1 + i)))) ++ (pW ((fun i => x (2 + i))) cI P)) sz) := by
  refine Met.ofW (cc := cX5_isBatter) (maxL := 2) (ret := (some .boolean)) (by decide) rfl ?_
  intro p e s m args below meth c s₁ B hml hv
  obtain ⟨rfl, hsz, hP, hK, hD0, hN⟩ := hv
  have hx := B.exec
  have hb := B.bytes
  have hr := B.returns
  have hts := atoms_spec (ws := wsX5_isBatter) B.pre
  have hown : s.vm.findClass RX5 = some m.cls := findClass_of_methodNamed B.named
  have hlocks := B.notSynchronized
  subst hsz
  have hD := hD0.self (sz := s.heap.size)
  generalize hAe : va_A ((xO x X) ++ (fO ((fun i => x (1 + i)))) ++ (pW ((fun i => x (2 + i))) cI P)) s.heap.size = A at hD ⊢
  have hA : ∀ q : Nat, s.heap.size ≤ q → A q := fun q h => by rw [← hAe]; exact Or.inr h
  have hS : va_S A s.heap s.heap [] := va_S.rf
  have hin1 : ∀ w ∈ wsX10, w ∈ wsX5_isBatter := by decide +kernel
  have hin2 : ∀ w ∈ wsX20, w ∈ wsX5_isBatter := by decide +kernel
  have hin5 : ∀ w ∈ wsX50, w ∈ wsX5_isBatter := by decide +kernel
  have lk12 := hts (.fieldLink RX5 12 "PostRounders" "now" "LPostRounders$Field;") (by decide +kernel)
  have lk74 := hts (.fieldLink RX5 74 "PostRounders$Field" "play" "LPostRounders$Play;") (by decide +kernel)
  have lk77 := hts (.fieldLink RX5 77 "PostRounders$Play" "size" "I") (by decide +kernel)
  have hl := lv_entry ([.ref (x 0), .int i]) (n := 2) (Nat.le_of_ble_eq_true rfl)
  rw [lg_entry_eq]
  generalize (lg_sl ([.ref (x 0), .int i]) ++ List.replicate (2 - (lg_sl ([.ref (x 0), .int i])).length) Slot.unset).toArray = ls at hl ⊢
  have hl : lv_has ls 2 [(0, .ref (x 0)), (1, .int i)] := hl
  obtain ⟨OUT, hO⟩ : ∃ z, z = F_X5_isBatter P i := ⟨_, rfl⟩
  have hF := hO
  unfold F_X5_isBatter at hF
  have e_pz := tN_eq pz.1
  have b_pz := pz.2
  refine lv_iload_n hx hb dX5_isBatter_0 rfl (lv_at hl 1 rfl) ?_
  refine lv_iconst (v := nI 0) hx hb dX5_isBatter_1 (by decide) ?_
  refine lv_aload_n hx hb dX5_isBatter_2 rfl (lv_at hl 0 rfl) ?_
  refine va_get (D := (dC, dI)) (ci := 5) (v := .ref (x 1)) (C := RX5) (T := TX5) (N := 14) hx hb hts hin5 hown hK hP 0 rfl rfl 0 (by decide) lk12 (fun _ h9 => h9) rfl dX5_isBatter_3 ?_
  refine va_get (D := (dC, dI)) (ci := 1) (v := .ref (x 2)) (C := RX1) (T := TX1) (N := 5) hx hb hts hin1 hown hK hP 1 rfl rfl 0 (by decide) lk74 (fun _ h9 => h9) rfl dX5_isBatter_6 ?_
  refine va_get (D := (dC, dI)) (ci := 2) (v := .int (Psz P)) (C := RX2) (T := TX2) (N := 8) hx hb hts hin2 hown hK hP 2 rfl rfl 1 (by decide) lk77 (fun _ h9 => h9) rfl dX5_isBatter_9 ?_
  refine qv_top (e_pz) ?_
  refine lv_iconst (v := nI 1) hx hb dX5_isBatter_12 (by decide) ?_
  refine lv_isub hx hb dX5_isBatter_13 ?_
  refine qc_Si (As := [.int i, .int (nI 0), .int ((nI (tN (Psz P))) - (nI 1))]) (rest := []) ⟨hx, hb, hml, hown, hts⟩ (c_X5_within l i (nI 0) ((nI (tN (Psz P))) - (nI 1))) (va_cwS 3 hts gX5_isBatter_X5_within rfl rfl rfl (by decide +kernel) ⟨Nat.le_of_ble_eq_true rfl, Nat.le_of_ble_eq_true rfl⟩) rfl hl.1 rfl (Nat.le_of_ble_eq_true rfl) dX5_isBatter_14 ⟨Nat.zero_le _, Nat.zero_le _⟩ (fun r_14 hw_14 => ?_)
  subst hw_14
  have hP9 : va_P (dC, dI) vwCl ((xO x X) ++ (fO ((fun i => x (1 + i)))) ++ (pW ((fun i => x (2 + i))) cI P)) s.heap := hP
  exact W.zret (v := if (F_X5_within i (nI 0) ((nI (tN (Psz P))) - (nI 1))) = true then 1 else 0) hx hb hr (zb_nar _) (fun t ht hW => ⟨⟨_, (()), rfl, ⟨(F_X5_within i (nI 0) ((nI (tN (Psz P))) - (nI 1))), hO.symm.trans hF, rfl⟩, by rw [ht]; exact hP9, va_K.moved hW.alike hK, hD⟩, hS.F ht⟩) hS.2.2 dX5_isBatter_17
theorem isBatter2 {P : pS} {i : Int32} {z : Bool} (e : F_X5_isBatter P i = z) (c : z = true) (h : inB (Psz P) 6) : 0 ≤ i ∧ tN i < tN (Psz P) := by
  rw [c] at e
  exact within_sz (by have := h.2; omega) e
def F_X5_field (P : pS) (Rw : Nat → Int32) (No : rS) (Ma : rS) (Pa : rS) (Rf : Nat → Int32) (k : Int32) : Int32 × (pS) × (Nat → Int32) × (rS) × (rS) × (rS) × (Nat → Int32) := if (F_X5_isKind k) = true then let5 (F_X1_begin P Rw No Ma Pa (nI (tN k))) (fun P_30 Rw_30 No_30 Ma_30 Pa_30 => (Psz P, P_30, Rw_30, No_30, Ma_30, Pa_30, Rf)) else let2 (F_X5_refuse Rf ((-2))) (fun r_10 Rf_10 => (r_10, P, Rw, No, Ma, Pa, Rf_10))
set_option maxHeartbeats 4000000 in
set_option maxRecDepth 100000 in
theorem c_X5_field (l : Launch) (dC : Nat → ClassId) (dI : Nat → Nat → Nat) (x : Nat → Nat) (cI : ClassId) (sz : Nat) (X : xS) (P : pS) (Rw : Nat → Int32) (No : rS) (Ma : rS) (Pa : rS) (Rf : Nat → Int32) (k : Int32) : Met l yX5_field wsX5_field { frames := 2, cells := 0, slots := 0, locals := 44 } (xPc (dC, dI) vwCl (xT cI) ((xO x X) ++ (fO ((fun i => x (1 + i)))) ++ (pW ((fun i => x (2 + i))) cI P) ++ ([(x 6, .inl (cI, 8, .inl Rw))]) ++ (rW ((fun i => x (7 + i))) cI 3 18 No) ++ (rW ((fun i => x (9 + i))) cI 4 24 Ma) ++ (rW ((fun i => x (11 + i))) cI 9 72 Pa) ++ ([(x 15, .inl (cI, 3, .inl Rf))])) sz [.ref (x 0), .int k]) (va_Qi (fun (r : Int32) (u : (pS) × (Nat → Int32) × (rS) × (rS) × (rS) × (Nat → Int32)) => F_X5_field P Rw No Ma Pa Rf k = (r, u)) (mB (dC, dI) vwCl (xT cI) (va_A ((xO x X) ++ (fO ((fun i => x (1 + i)))) ++ (pW ((fun i => x (2 + i))) cI P) ++ ([(x 6, .inl (cI, 8, .inl Rw))]) ++ (rW ((fun i => x (7 + i))) cI 3 18 No) ++ (rW ((fun i => x (9 + i))) cI 4 24 Ma) ++ (rW ((fun i => x (11 + i))) cI 9 72 Pa) ++ ([(x 15, .inl (cI, 3, .inl Rf))])) sz) (fun u => (xO x X) ++ (fO ((fun i => x (1 + i)))) ++ (pW ((fun i => x (2 + i))) cI (u.1)) ++ ([(x 6, .inl (cI, 8, .inl (u.2.1)))]) ++ (rW ((fun i => x (7 + i))) cI 3 18 (u.2.2.1)) ++ (rW ((fun i => x (9 + i))) cI 4 24 (u.2.2.2.1)) ++ (rW ((fun i => x (11 + i))) cI 9 72 (u.2.2.2.2.1)) ++ ([(x 15, .inl (cI, 3, .inl (u.2.2.2.2.2)))]))) (va_A ((xO x X) ++ (fO ((fun i => x (1 + i)))) ++ (pW ((fun i => x (2 + i))) cI P) ++ ([(x 6, .inl (cI, 8, .inl Rw))]) ++ (rW ((fun i => x (7 + i))) cI 3 18 No) ++ (rW ((fun i => x (9 + i))) cI 4 24 Ma) ++ (rW ((fun i => x (11 + i))) cI 9 72 Pa) ++ ([(x 15, .inl (cI, 3, .inl Rf))])) sz)) 0 0 (va_A ((xO x X) ++ (fO ((fun i => x (1 + i)))) ++ (pW ((fun i => x (2 + i))) cI P) ++ ([(x 6, .inl (cI, 8, .inl Rw))]) ++ (rW ((fun i => x (7 + i))) cI 3 18 No) ++ (rW ((fun i => x (9 + i))) cI 4 24 Ma) ++ (rW ((fun i => x (11 + i))) cI 9 72 Pa) ++ ([(x 15, .inl (cI, 3, .inl Rf))])) sz) := by
  refine Met.ofW (cc := cX5_field) (maxL := 3) (ret := (some .int)) (by decide) rfl ?_
  intro p e s m args below meth c s₁ B hml hv
  obtain ⟨rfl, hsz, hP, hK, hD0, hN⟩ := hv
  have hx := B.exec
  have hb := B.bytes
  have hr := B.returns
  have hts := atoms_spec (ws := wsX5_field) B.pre
  have hown : s.vm.findClass RX5 = some m.cls := findClass_of_methodNamed B.named
  have hlocks := B.notSynchronized
  subst hsz
  have hD := hD0.self (sz := s.heap.size)
  generalize hAe : va_A ((xO x X) ++ (fO ((fun i => x (1 + i)))) ++ (pW ((fun i => x (2 + i))) cI P) ++ ([(x 6, .inl (cI, 8, .inl Rw))]) ++ (rW ((fun i => x (7 + i))) cI 3 18 No) ++ (rW ((fun i => x (9 + i))) cI 4 24 Ma) ++ (rW ((fun i => x (11 + i))) cI 9 72 Pa) ++ ([(x 15, .inl (cI, 3, .inl Rf))])) s.heap.size = A at hD ⊢
  have hA : ∀ q : Nat, s.heap.size ≤ q → A q := fun q h => by rw [← hAe]; exact Or.inr h
  have hS : va_S A s.heap s.heap [] := va_S.rf
  have hin1 : ∀ w ∈ wsX10, w ∈ wsX5_field := by decide +kernel
  have hin2 : ∀ w ∈ wsX20, w ∈ wsX5_field := by decide +kernel
  have hin5 : ∀ w ∈ wsX50, w ∈ wsX5_field := by decide +kernel
  have lk12 := hts (.fieldLink RX5 12 "PostRounders" "now" "LPostRounders$Field;") (by decide +kernel)
  have lk74 := hts (.fieldLink RX5 74 "PostRounders$Field" "play" "LPostRounders$Play;") (by decide +kernel)
  have lk77 := hts (.fieldLink RX5 77 "PostRounders$Play" "size" "I") (by decide +kernel)
  have hl := lv_entry ([.ref (x 0), .int k]) (n := 3) (Nat.le_of_ble_eq_true rfl)
  rw [lg_entry_eq]
  generalize (lg_sl ([.ref (x 0), .int k]) ++ List.replicate (3 - (lg_sl ([.ref (x 0), .int k])).length) Slot.unset).toArray = ls at hl ⊢
  have hl : lv_has ls 3 [(0, .ref (x 0)), (1, .int k)] := hl
  obtain ⟨OUT, hO⟩ : ∃ z, z = F_X5_field P Rw No Ma Pa Rf k := ⟨_, rfl⟩
  have hF := hO
  unfold F_X5_field at hF
  refine lv_iload_n hx hb dX5_field_0 rfl (lv_at hl 1 rfl) ?_
  refine qc_Si (As := [.int k]) (rest := []) ⟨hx, hb, hml, hown, hts⟩ (c_X5_isKind l k) (va_cwS 1 hts gX5_field_X5_isKind rfl rfl rfl (by decide +kernel) ⟨Nat.le_of_ble_eq_true rfl, Nat.le_of_ble_eq_true rfl⟩) rfl hl.1 rfl (Nat.le_of_ble_eq_true rfl) dX5_field_1 ⟨Nat.zero_le _, Nat.zero_le _⟩ (fun r_1 hw_1 => ?_)
  subst hw_1
  refine qv_zif_ne (tgt := 14) hx hb dX5_field_4 (by decide) (fun c_4 => ?_) (fun c_4 => ?_)
  · rw [if_pos c_4] at hF
    obtain ⟨f_k, fa_k, fb_k⟩ := isKind_nat c_4
    have e_k := tN_eq f_k
    refine lv_aload_n hx hb dX5_field_14 rfl (lv_at hl 0 rfl) ?_
    refine va_get (D := (dC, dI)) (ci := 5) (v := .ref (x 1)) (C := RX5) (T := TX5) (N := 14) hx hb hts hin5 hown hK hP 0 rfl rfl 0 (by decide) lk12 (fun _ h9 => h9) rfl dX5_field_15 ?_
    refine va_get (D := (dC, dI)) (ci := 1) (v := .ref (x 2)) (C := RX1) (T := TX1) (N := 5) hx hb hts hin1 hown hK hP 1 rfl rfl 0 (by decide) lk74 (fun _ h9 => h9) rfl dX5_field_18 ?_
    refine va_get (D := (dC, dI)) (ci := 2) (v := .int (Psz P)) (C := RX2) (T := TX2) (N := 8) hx hb hts hin2 hown hK hP 2 rfl rfl 1 (by decide) lk77 (fun _ h9 => h9) rfl dX5_field_21 ?_
    refine lv_istore_n (lv' := [(2, .int (Psz P)), (0, .ref (x 0)), (1, .int k)]) hx hb dX5_field_24 rfl hl (by decide) rfl (fun ls hl => ?_)
    refine lv_aload_n hx hb dX5_field_25 rfl (lv_at hl 1 rfl) ?_
    refine va_get (D := (dC, dI)) (ci := 5) (v := .ref (x 1)) (C := RX5) (T := TX5) (N := 14) hx hb hts hin5 hown hK hP 0 rfl rfl 0 (by decide) lk12 (fun _ h9 => h9) rfl dX5_field_26 ?_
    refine lv_iload_n hx hb dX5_field_29 rfl (lv_at hl 2 rfl) ?_
    refine qv_top (e_k) ?_
    refine qx_Vv (C := RX1) (As := [.int (nI (tN k))]) (rest := []) (ci := 1) (k0 := 1) (wr := (xO x X) ++ ([(x 15, .inl (cI, 3, .inl Rf))])) (ws2 := fun u => (xO x X) ++ (fO ((fun i => x (1 + i)))) ++ (pW ((fun i => x (2 + i))) cI (u.1)) ++ ([(x 6, .inl (cI, 8, .inl (u.2.1)))]) ++ (rW ((fun i => x (7 + i))) cI 3 18 (u.2.2.1)) ++ (rW ((fun i => x (9 + i))) cI 4 24 (u.2.2.2.1)) ++ (rW ((fun i => x (11 + i))) cI 9 72 (u.2.2.2.2)) ++ ([(x 15, .inl (cI, 3, .inl Rf))])) [1, 2, 3, 4, 5, 6, 7, 8, 9, 10, 11, 12] [0, 13] [0, 2, 3, 4, 5, 6, 7, 8, 9, 10, 11, 12, 13, 1] ⟨hx, hb, hml, hown, hts⟩ (c_X1_begin l dC dI (fun i => x (1 + i)) cI s.heap.size P Rw No Ma Pa (nI (tN k)) ) (cwV 1 hts gX5_field_X1_begin rfl rfl rfl (by decide +kernel) ⟨Nat.le_of_ble_eq_true rfl, Nat.le_of_ble_eq_true rfl⟩) (hK.sub [0] rfl) hK hP hD hS hA hN rfl rfl (by decide) (by decide) (by decide) (by decide) (fun _ => rfl) rfl rfl rfl rfl hl.1 rfl (Nat.le_of_ble_eq_true rfl) dX5_field_30 ⟨Nat.zero_le _, Nat.zero_le _⟩ (fun u_30 H locs hw_30 hP hD hS => ?_)
    obtain ⟨P_30, Rw_30, No_30, Ma_30, Pa_30⟩ := u_30
    have hP : va_P (dC, dI) vwCl ((xO x X) ++ (fO ((fun i => x (1 + i)))) ++ (pW ((fun i => x (2 + i))) cI P_30) ++ ([(x 6, .inl (cI, 8, .inl Rw_30))]) ++ (rW ((fun i => x (7 + i))) cI 3 18 No_30) ++ (rW ((fun i => x (9 + i))) cI 4 24 Ma_30) ++ (rW ((fun i => x (11 + i))) cI 9 72 Pa_30) ++ ([(x 15, .inl (cI, 3, .inl Rf))])) H := hP
    have hD : va_D A ((xO x X) ++ (fO ((fun i => x (1 + i)))) ++ (pW ((fun i => x (2 + i))) cI P_30) ++ ([(x 6, .inl (cI, 8, .inl Rw_30))]) ++ (rW ((fun i => x (7 + i))) cI 3 18 No_30) ++ (rW ((fun i => x (9 + i))) cI 4 24 Ma_30) ++ (rW ((fun i => x (11 + i))) cI 9 72 Pa_30) ++ ([(x 15, .inl (cI, 3, .inl Rf))])) := hD
    rw [hw_30, let5_mk P_30 Rw_30 No_30 Ma_30 Pa_30] at hF
    refine lv_iload_n hx hb dX5_field_33 rfl (lv_at hl 0 rfl) ?_
    have hP9 : va_P (dC, dI) vwCl ((xO x X) ++ (fO ((fun i => x (1 + i)))) ++ (pW ((fun i => x (2 + i))) cI P_30) ++ ([(x 6, .inl (cI, 8, .inl Rw_30))]) ++ (rW ((fun i => x (7 + i))) cI 3 18 No_30) ++ (rW ((fun i => x (9 + i))) cI 4 24 Ma_30) ++ (rW ((fun i => x (11 + i))) cI 9 72 Pa_30) ++ ([(x 15, .inl (cI, 3, .inl Rf))])) H := hP
    exact W.iret (v := Psz P) hx hb hr (fun t ht hW => ⟨⟨_, ((P_30, Rw_30, No_30, Ma_30, Pa_30, Rf)), rfl, hO.symm.trans hF, by rw [ht]; exact hP9, va_K.moved hW.alike hK, hD⟩, hS.F ht⟩) hS.2.2 dX5_field_34
  · rw [if_neg c_4] at hF
    refine lv_aload_n hx hb dX5_field_7 rfl (lv_at hl 0 rfl) ?_
    refine lv_bipush (v := (-2)) hx hb dX5_field_8 (by decide) ?_
    refine qx_Vi (C := RX5) (As := [.int ((-2))]) (rest := []) (ci := 5) (k0 := 0) (wr := (fO ((fun i => x (1 + i)))) ++ (pW ((fun i => x (2 + i))) cI P) ++ ([(x 6, .inl (cI, 8, .inl Rw))]) ++ (rW ((fun i => x (7 + i))) cI 3 18 No) ++ (rW ((fun i => x (9 + i))) cI 4 24 Ma) ++ (rW ((fun i => x (11 + i))) cI 9 72 Pa)) (ws2 := fun u => (xO x X) ++ (fO ((fun i => x (1 + i)))) ++ (pW ((fun i => x (2 + i))) cI P) ++ ([(x 6, .inl (cI, 8, .inl Rw))]) ++ (rW ((fun i => x (7 + i))) cI 3 18 No) ++ (rW ((fun i => x (9 + i))) cI 4 24 Ma) ++ (rW ((fun i => x (11 + i))) cI 9 72 Pa) ++ ([(x 15, .inl (cI, 3, .inl u))])) [0, 13] [1, 2, 3, 4, 5, 6, 7, 8, 9, 10, 11, 12] [12, 0, 1, 2, 3, 4, 5, 6, 7, 8, 9, 10, 11, 13] ⟨hx, hb, hml, hown, hts⟩ (c_X5_refuse l dC dI x cI s.heap.size X Rf ((-2)) ) (cwV 1 hts gX5_field_X5_refuse rfl rfl rfl (by decide +kernel) ⟨Nat.le_of_ble_eq_true rfl, Nat.le_of_ble_eq_true rfl⟩) (hK.sub [0] rfl) hK hP hD hS hA hN rfl rfl (by decide) (by decide) (by decide) (by decide) (fun _ => rfl) rfl rfl rfl rfl hl.1 rfl (Nat.le_of_ble_eq_true rfl) dX5_field_10 ⟨Nat.zero_le _, Nat.zero_le _⟩ (fun r_10 u_10 H locs hw_10 hP hD hS => ?_)
    obtain ⟨Rf_10, rfl⟩ : ∃ z, z = u_10 := ⟨_, rfl⟩
    have hP : va_P (dC, dI) vwCl ((xO x X) ++ (fO ((fun i => x (1 + i)))) ++ (pW ((fun i => x (2 + i))) cI P) ++ ([(x 6, .inl (cI, 8, .inl Rw))]) ++ (rW ((fun i => x (7 + i))) cI 3 18 No) ++ (rW ((fun i => x (9 + i))) cI 4 24 Ma) ++ (rW ((fun i => x (11 + i))) cI 9 72 Pa) ++ ([(x 15, .inl (cI, 3, .inl Rf_10))])) H := hP
    have hD : va_D A ((xO x X) ++ (fO ((fun i => x (1 + i)))) ++ (pW ((fun i => x (2 + i))) cI P) ++ ([(x 6, .inl (cI, 8, .inl Rw))]) ++ (rW ((fun i => x (7 + i))) cI 3 18 No) ++ (rW ((fun i => x (9 + i))) cI 4 24 Ma) ++ (rW ((fun i => x (11 + i))) cI 9 72 Pa) ++ ([(x 15, .inl (cI, 3, .inl Rf_10))])) := hD
    rw [hw_10, let2_mk r_10 Rf_10] at hF
    have hP9 : va_P (dC, dI) vwCl ((xO x X) ++ (fO ((fun i => x (1 + i)))) ++ (pW ((fun i => x (2 + i))) cI P) ++ ([(x 6, .inl (cI, 8, .inl Rw))]) ++ (rW ((fun i => x (7 + i))) cI 3 18 No) ++ (rW ((fun i => x (9 + i))) cI 4 24 Ma) ++ (rW ((fun i => x (11 + i))) cI 9 72 Pa) ++ ([(x 15, .inl (cI, 3, .inl Rf_10))])) H := hP
    exact W.iret (v := r_10) hx hb hr (fun t ht hW => ⟨⟨_, ((P, Rw, No, Ma, Pa, Rf_10)), rfl, hO.symm.trans hF, by rw [ht]; exact hP9, va_K.moved hW.alike hK, hD⟩, hS.F ht⟩) hS.2.2 dX5_field_13
def F_X5_bowler (P : pS) (Pa : rS) (Rf : Nat → Int32) (k : Int32) : Int32 × (pS) × (rS) × (Nat → Int32) := if (F_X5_isKind k) = true then let1 (F_X4_empty_v9 Pa) (fun Pa_43 => (Pbo P, ((nI (tN k), Psz P, Pkd P, Plg P, Pwh P, Pnx P, Ppt P, Pbl P)), Pa_43, Rf)) else let2 (F_X5_refuse Rf ((-2))) (fun r_10 Rf_10 => (r_10, P, Pa, Rf_10))
set_option maxHeartbeats 4000000 in
set_option maxRecDepth 100000 in
theorem c_X5_bowler (l : Launch) (dC : Nat → ClassId) (dI : Nat → Nat → Nat) (x : Nat → Nat) (cI : ClassId) (sz : Nat) (X : xS) (P : pS) (Pa : rS) (Rf : Nat → Int32) (k : Int32) : Met l yX5_bowler wsX5_bowler { frames := 2, cells := 0, slots := 0, locals := 44 } (xPc (dC, dI) vwCl (xT cI) ((xO x X) ++ (fO ((fun i => x (1 + i)))) ++ (pW ((fun i => x (2 + i))) cI P) ++ (rW ((fun i => x (11 + i))) cI 9 72 Pa) ++ ([(x 15, .inl (cI, 3, .inl Rf))])) sz [.ref (x 0), .int k]) (va_Qi (fun (r : Int32) (u : (pS) × (rS) × (Nat → Int32)) => F_X5_bowler P Pa Rf k = (r, u)) (mB (dC, dI) vwCl (xT cI) (va_A ((xO x X) ++ (fO ((fun i => x (1 + i)))) ++ (pW ((fun i => x (2 + i))) cI P) ++ (rW ((fun i => x (11 + i))) cI 9 72 Pa) ++ ([(x 15, .inl (cI, 3, .inl Rf))])) sz) (fun u => (xO x X) ++ (fO ((fun i => x (1 + i)))) ++ (pW ((fun i => x (2 + i))) cI (u.1)) ++ (rW ((fun i => x (11 + i))) cI 9 72 (u.2.1)) ++ ([(x 15, .inl (cI, 3, .inl (u.2.2)))]))) (va_A ((xO x X) ++ (fO ((fun i => x (1 + i)))) ++ (pW ((fun i => x (2 + i))) cI P) ++ (rW ((fun i => x (11 + i))) cI 9 72 Pa) ++ ([(x 15, .inl (cI, 3, .inl Rf))])) sz)) 0 0 (va_A ((xO x X) ++ (fO ((fun i => x (1 + i)))) ++ (pW ((fun i => x (2 + i))) cI P) ++ (rW ((fun i => x (11 + i))) cI 9 72 Pa) ++ ([(x 15, .inl (cI, 3, .inl Rf))])) sz) := by
  refine Met.ofW (cc := cX5_bowler) (maxL := 3) (ret := (some .int)) (by decide) rfl ?_
  intro p e s m args below meth c s₁ B hml hv
  obtain ⟨rfl, hsz, hP, hK, hD0, hN⟩ := hv
  have hx := B.exec
  have hb := B.bytes
  have hr := B.returns
  have hts := atoms_spec (ws := wsX5_bowler) B.pre
  have hown : s.vm.findClass RX5 = some m.cls := findClass_of_methodNamed B.named
  have hlocks := B.notSynchronized
  subst hsz
  have hD := hD0.self (sz := s.heap.size)
  generalize hAe : va_A ((xO x X) ++ (fO ((fun i => x (1 + i)))) ++ (pW ((fun i => x (2 + i))) cI P) ++ (rW ((fun i => x (11 + i))) cI 9 72 Pa) ++ ([(x 15, .inl (cI, 3, .inl Rf))])) s.heap.size = A at hD ⊢
  have hA : ∀ q : Nat, s.heap.size ≤ q → A q := fun q h => by rw [← hAe]; exact Or.inr h
  have hS : va_S A s.heap s.heap [] := va_S.rf
  have hin1 : ∀ w ∈ wsX10, w ∈ wsX5_bowler := by decide +kernel
  have hin2 : ∀ w ∈ wsX20, w ∈ wsX5_bowler := by decide +kernel
  have hin5 : ∀ w ∈ wsX50, w ∈ wsX5_bowler := by decide +kernel
  have lk12 := hts (.fieldLink RX5 12 "PostRounders" "now" "LPostRounders$Field;") (by decide +kernel)
  have lk74 := hts (.fieldLink RX5 74 "PostRounders$Field" "play" "LPostRounders$Play;") (by decide +kernel)
  have lk85 := hts (.fieldLink RX5 85 "PostRounders$Play" "bowler" "I") (by decide +kernel)
  have lk88 := hts (.fieldLink RX5 88 "PostRounders$Field" "past" "LPostRounders$Rows;") (by decide +kernel)
  have hl := lv_entry ([.ref (x 0), .int k]) (n := 3) (Nat.le_of_ble_eq_true rfl)
  rw [lg_entry_eq]
  generalize (lg_sl ([.ref (x 0), .int k]) ++ List.replicate (3 - (lg_sl ([.ref (x 0), .int k])).length) Slot.unset).toArray = ls at hl ⊢
  have hl : lv_has ls 3 [(0, .ref (x 0)), (1, .int k)] := hl
  obtain ⟨OUT, hO⟩ : ∃ z, z = F_X5_bowler P Pa Rf k := ⟨_, rfl⟩
  have hF := hO
  unfold F_X5_bowler at hF
  refine lv_iload_n hx hb dX5_bowler_0 rfl (lv_at hl 1 rfl) ?_
  refine qc_Si (As := [.int k]) (rest := []) ⟨hx, hb, hml, hown, hts⟩ (c_X5_isKind l k) (va_cwS 1 hts gX5_bowler_X5_isKind rfl rfl rfl (by decide +kernel) ⟨Nat.le_of_ble_eq_true rfl, Nat.le_of_ble_eq_true rfl⟩) rfl hl.1 rfl (Nat.le_of_ble_eq_true rfl) dX5_bowler_1 ⟨Nat.zero_le _, Nat.zero_le _⟩ (fun r_1 hw_1 => ?_)
  subst hw_1
  refine qv_zif_ne (tgt := 14) hx hb dX5_bowler_4 (by decide) (fun c_4 => ?_) (fun c_4 => ?_)
  · rw [if_pos c_4] at hF
    obtain ⟨f_k, fa_k, fb_k⟩ := isKind_nat c_4
    have e_k := tN_eq f_k
    refine lv_aload_n hx hb dX5_bowler_14 rfl (lv_at hl 0 rfl) ?_
    refine va_get (D := (dC, dI)) (ci := 5) (v := .ref (x 1)) (C := RX5) (T := TX5) (N := 14) hx hb hts hin5 hown hK hP 0 rfl rfl 0 (by decide) lk12 (fun _ h9 => h9) rfl dX5_bowler_15 ?_
    refine va_get (D := (dC, dI)) (ci := 1) (v := .ref (x 2)) (C := RX1) (T := TX1) (N := 5) hx hb hts hin1 hown hK hP 1 rfl rfl 0 (by decide) lk74 (fun _ h9 => h9) rfl dX5_bowler_18 ?_
    refine va_get (D := (dC, dI)) (ci := 2) (v := .int (Pbo P)) (C := RX2) (T := TX2) (N := 8) hx hb hts hin2 hown hK hP 2 rfl rfl 0 (by decide) lk85 (fun _ h9 => h9) rfl dX5_bowler_21 ?_
    refine lv_istore_n (lv' := [(2, .int (Pbo P)), (0, .ref (x 0)), (1, .int k)]) hx hb dX5_bowler_24 rfl hl (by decide) rfl (fun ls hl => ?_)
    refine lv_aload_n hx hb dX5_bowler_25 rfl (lv_at hl 1 rfl) ?_
    refine va_get (D := (dC, dI)) (ci := 5) (v := .ref (x 1)) (C := RX5) (T := TX5) (N := 14) hx hb hts hin5 hown hK hP 0 rfl rfl 0 (by decide) lk12 (fun _ h9 => h9) rfl dX5_bowler_26 ?_
    refine va_get (D := (dC, dI)) (ci := 1) (v := .ref (x 2)) (C := RX1) (T := TX1) (N := 5) hx hb hts hin1 hown hK hP 1 rfl rfl 0 (by decide) lk74 (fun _ h9 => h9) rfl dX5_bowler_29 ?_
    refine lv_iload_n hx hb dX5_bowler_32 rfl (lv_at hl 2 rfl) ?_
    refine qv_top (e_k) ?_
    refine va_put (D := (dC, dI)) (ci := 2) (v := .int (nI (tN k))) (ty := .int) (C := RX2) (T := TX2) (N := 8) hx hb hts hin2 tyX2 tyX2_ok nmX2 hown hK hP hD hS 2 rfl rfl 0 (by decide) lk85 (fun _ h9 => h9) rfl (by decide +kernel) rfl rfl (Nat.le_of_ble_eq_true rfl) dX5_bowler_33 (fun H locs hP hD hS => ?_)
    have hP : va_P (dC, dI) vwCl ((xO x X) ++ (fO ((fun i => x (1 + i)))) ++ (pW ((fun i => x (2 + i))) cI ((nI (tN k), Psz P, Pkd P, Plg P, Pwh P, Pnx P, Ppt P, Pbl P))) ++ (rW ((fun i => x (11 + i))) cI 9 72 Pa) ++ ([(x 15, .inl (cI, 3, .inl Rf))])) H := hP
    have hD : va_D A ((xO x X) ++ (fO ((fun i => x (1 + i)))) ++ (pW ((fun i => x (2 + i))) cI ((nI (tN k), Psz P, Pkd P, Plg P, Pwh P, Pnx P, Ppt P, Pbl P))) ++ (rW ((fun i => x (11 + i))) cI 9 72 Pa) ++ ([(x 15, .inl (cI, 3, .inl Rf))])) := hD
    refine lv_aload_n hx hb dX5_bowler_36 rfl (lv_at hl 1 rfl) ?_
    refine va_get (D := (dC, dI)) (ci := 5) (v := .ref (x 1)) (C := RX5) (T := TX5) (N := 14) hx hb hts hin5 hown hK hP 0 rfl rfl 0 (by decide) lk12 (fun _ h9 => h9) rfl dX5_bowler_37 ?_
    refine va_get (D := (dC, dI)) (ci := 1) (v := .ref (x 11)) (C := RX1) (T := TX1) (N := 5) hx hb hts hin1 hown hK hP 1 rfl rfl 4 (by decide) lk88 (fun _ h9 => h9) rfl dX5_bowler_40 ?_
    refine qx_Vv (C := RX4) (As := []) (rest := []) (ci := 4) (k0 := 6) (wr := (xO x X) ++ (fO ((fun i => x (1 + i)))) ++ (pW ((fun i => x (2 + i))) cI ((nI (tN k), Psz P, Pkd P, Plg P, Pwh P, Pnx P, Ppt P, Pbl P))) ++ ([(x 15, .inl (cI, 3, .inl Rf))])) (ws2 := fun u => (xO x X) ++ (fO ((fun i => x (1 + i)))) ++ (pW ((fun i => x (2 + i))) cI ((nI (tN k), Psz P, Pkd P, Plg P, Pwh P, Pnx P, Ppt P, Pbl P))) ++ (rW ((fun i => x (11 + i))) cI 9 72 u) ++ ([(x 15, .inl (cI, 3, .inl Rf))])) [6, 7] [0, 1, 2, 3, 4, 5, 8] [0, 1, 2, 3, 4, 5, 7, 8, 6] ⟨hx, hb, hml, hown, hts⟩ (c_X4_empty_v9 l dC dI (fun i => x (11 + i)) cI H.size Pa  ) (cwV 0 hts gX5_bowler_X4_empty rfl rfl rfl (by decide +kernel) ⟨Nat.le_of_ble_eq_true rfl, Nat.le_of_ble_eq_true rfl⟩) (hK.sub [0] rfl) hK hP hD hS hA hN rfl rfl (by decide) (by decide) (by decide) (by decide) (fun _ => rfl) rfl rfl rfl rfl hl.1 rfl (Nat.le_of_ble_eq_true rfl) dX5_bowler_43 ⟨Nat.zero_le _, Nat.zero_le _⟩ (fun u_43 H locs hw_43 hP hD hS => ?_)
    obtain ⟨Pa_43, rfl⟩ : ∃ z, z = u_43 := ⟨_, rfl⟩
    have hP : va_P (dC, dI) vwCl ((xO x X) ++ (fO ((fun i => x (1 + i)))) ++ (pW ((fun i => x (2 + i))) cI ((nI (tN k), Psz P, Pkd P, Plg P, Pwh P, Pnx P, Ppt P, Pbl P))) ++ (rW ((fun i => x (11 + i))) cI 9 72 Pa_43) ++ ([(x 15, .inl (cI, 3, .inl Rf))])) H := hP
    have hD : va_D A ((xO x X) ++ (fO ((fun i => x (1 + i)))) ++ (pW ((fun i => x (2 + i))) cI ((nI (tN k), Psz P, Pkd P, Plg P, Pwh P, Pnx P, Ppt P, Pbl P))) ++ (rW ((fun i => x (11 + i))) cI 9 72 Pa_43) ++ ([(x 15, .inl (cI, 3, .inl Rf))])) := hD
    rw [hw_43, let1_mk Pa_43] at hF
    refine lv_iload_n hx hb dX5_bowler_46 rfl (lv_at hl 0 rfl) ?_
    have hP9 : va_P (dC, dI) vwCl ((xO x X) ++ (fO ((fun i => x (1 + i)))) ++ (pW ((fun i => x (2 + i))) cI ((nI (tN k), Psz P, Pkd P, Plg P, Pwh P, Pnx P, Ppt P, Pbl P))) ++ (rW ((fun i => x (11 + i))) cI 9 72 Pa_43) ++ ([(x 15, .inl (cI, 3, .inl Rf))])) H := hP
    exact W.iret (v := Pbo P) hx hb hr (fun t ht hW => ⟨⟨_, (((nI (tN k), Psz P, Pkd P, Plg P, Pwh P, Pnx P, Ppt P, Pbl P), Pa_43, Rf)), rfl, hO.symm.trans hF, by rw [ht]; exact hP9, va_K.moved hW.alike hK, hD⟩, hS.F ht⟩) hS.2.2 dX5_bowler_47
  · rw [if_neg c_4] at hF
    refine lv_aload_n hx hb dX5_bowler_7 rfl (lv_at hl 0 rfl) ?_
    refine lv_bipush (v := (-2)) hx hb dX5_bowler_8 (by decide) ?_
    refine qx_Vi (C := RX5) (As := [.int ((-2))]) (rest := []) (ci := 5) (k0 := 0) (wr := (fO ((fun i => x (1 + i)))) ++ (pW ((fun i => x (2 + i))) cI P) ++ (rW ((fun i => x (11 + i))) cI 9 72 Pa)) (ws2 := fun u => (xO x X) ++ (fO ((fun i => x (1 + i)))) ++ (pW ((fun i => x (2 + i))) cI P) ++ (rW ((fun i => x (11 + i))) cI 9 72 Pa) ++ ([(x 15, .inl (cI, 3, .inl u))])) [0, 8] [1, 2, 3, 4, 5, 6, 7] [7, 0, 1, 2, 3, 4, 5, 6, 8] ⟨hx, hb, hml, hown, hts⟩ (c_X5_refuse l dC dI x cI s.heap.size X Rf ((-2)) ) (cwV 1 hts gX5_bowler_X5_refuse rfl rfl rfl (by decide +kernel) ⟨Nat.le_of_ble_eq_true rfl, Nat.le_of_ble_eq_true rfl⟩) (hK.sub [0] rfl) hK hP hD hS hA hN rfl rfl (by decide) (by decide) (by decide) (by decide) (fun _ => rfl) rfl rfl rfl rfl hl.1 rfl (Nat.le_of_ble_eq_true rfl) dX5_bowler_10 ⟨Nat.zero_le _, Nat.zero_le _⟩ (fun r_10 u_10 H locs hw_10 hP hD hS => ?_)
    obtain ⟨Rf_10, rfl⟩ : ∃ z, z = u_10 := ⟨_, rfl⟩
    have hP : va_P (dC, dI) vwCl ((xO x X) ++ (fO ((fun i => x (1 + i)))) ++ (pW ((fun i => x (2 + i))) cI P) ++ (rW ((fun i => x (11 + i))) cI 9 72 Pa) ++ ([(x 15, .inl (cI, 3, .inl Rf_10))])) H := hP
    have hD : va_D A ((xO x X) ++ (fO ((fun i => x (1 + i)))) ++ (pW ((fun i => x (2 + i))) cI P) ++ (rW ((fun i => x (11 + i))) cI 9 72 Pa) ++ ([(x 15, .inl (cI, 3, .inl Rf_10))])) := hD
    rw [hw_10, let2_mk r_10 Rf_10] at hF
    have hP9 : va_P (dC, dI) vwCl ((xO x X) ++ (fO ((fun i => x (1 + i)))) ++ (pW ((fun i => x (2 + i))) cI P) ++ (rW ((fun i => x (11 + i))) cI 9 72 Pa) ++ ([(x 15, .inl (cI, 3, .inl Rf_10))])) H := hP
    exact W.iret (v := r_10) hx hb hr (fun t ht hW => ⟨⟨_, ((P, Pa, Rf_10)), rfl, hO.symm.trans hF, by rw [ht]; exact hP9, va_K.moved hW.alike hK, hD⟩, hS.F ht⟩) hS.2.2 dX5_bowler_13
def F_X5_batter (P : pS) (Pa : rS) (Rf : Nat → Int32) (k : Int32) (lg : Int32) : Int32 × (pS) × (rS) × (Nat → Int32) := if (F_X5_isKind k) = true then (if (F_X5_within lg (nI 1) (nI 5)) = true then (if tN (Psz P) < 6 then let1 (F_X4_empty_v9 Pa) (fun Pa_52 => let2 (F_X2_join P (nI (tN k)) (nI (tN lg))) (fun r_64 P_64 => (r_64, P_64, Pa_52, Rf))) else let2 (F_X5_refuse Rf ((-4))) (fun r_41 Rf_41 => (r_41, P, Pa, Rf_41))) else let2 (F_X5_refuse Rf ((-2))) (fun r_19 Rf_19 => (r_19, P, Pa, Rf_19))) else let2 (F_X5_refuse Rf ((-2))) (fun r_19 Rf_19 => (r_19, P, Pa, Rf_19))
set_option maxHeartbeats 4000000 in
set_option maxRecDepth 100000 in
theorem c_X5_batter (l : Launch) (dC : Nat → ClassId) (dI : Nat → Nat → Nat) (x : Nat → Nat) (cI : ClassId) (sz : Nat) (X : xS) (P : pS) (Pa : rS) (Rf : Nat → Int32) (k : Int32) (lg : Int32) (pz : inB (Psz P) 6) : Met l yX5_batter wsX5_batter { frames := 2, cells := 0, slots := 0, locals := 44 } (xPc (dC, dI) vwCl (xT cI) ((xO x X) ++ (fO ((fun i => x (1 + i)))) ++ (pW ((fun i => x (2 + i))) cI P) ++ (rW ((fun i => x (11 + i))) cI 9 72 Pa) ++ ([(x 15, .inl (cI, 3, .inl Rf))])) sz [.ref (x 0), .int k, .int lg]) (va_Qi (fun (r : Int32) (u : (pS) × (rS) × (Nat → Int32)) => F_X5_batter P Pa Rf k lg = (r, u)) (mB (dC, dI) vwCl (xT cI) (va_A ((xO x X) ++ (fO ((fun i => x (1 + i)))) ++ (pW ((fun i => x (2 + i))) cI P) ++ (rW ((fun i => x (11 + i))) cI 9 72 Pa) ++ ([(x 15, .inl (cI, 3, .inl Rf))])) sz) (fun u => (xO x X) ++ (fO ((fun i => x (1 + i)))) ++ (pW ((fun i => x (2 + i))) cI (u.1)) ++ (rW ((fun i => x (11 + i))) cI 9 72 (u.2.1)) ++ ([(x 15, .inl (cI, 3, .inl (u.2.2)))]))) (va_A ((xO x X) ++ (fO ((fun i => x (1 + i)))) ++ (pW ((fun i => x (2 + i))) cI P) ++ (rW ((fun i => x (11 + i))) cI 9 72 Pa) ++ ([(x 15, .inl (cI, 3, .inl Rf))])) sz)) 0 0 (va_A ((xO x X) ++ (fO ((fun i => x (1 + i)))) ++ (pW ((fun i => x (2 + i))) cI P) ++ (rW ((fun i => x (11 + i))) cI 9 72 Pa) ++ ([(x 15, .inl (cI, 3, .inl Rf))])) sz) := by
  refine Met.ofW (cc := cX5_batter) (maxL := 3) (ret := (some .int)) (by decide) rfl ?_
  intro p e s m args below meth c s₁ B hml hv
  obtain ⟨rfl, hsz, hP, hK, hD0, hN⟩ := hv
  have hx := B.exec
  have hb := B.bytes
  have hr := B.returns
  have hts := atoms_spec (ws := wsX5_batter) B.pre
  have hown : s.vm.findClass RX5 = some m.cls := findClass_of_methodNamed B.named
  have hlocks := B.notSynchronized
  subst hsz
  have hD := hD0.self (sz := s.heap.size)
  generalize hAe : va_A ((xO x X) ++ (fO ((fun i => x (1 + i)))) ++ (pW ((fun i => x (2 + i))) cI P) ++ (rW ((fun i => x (11 + i))) cI 9 72 Pa) ++ ([(x 15, .inl (cI, 3, .inl Rf))])) s.heap.size = A at hD ⊢
  have hA : ∀ q : Nat, s.heap.size ≤ q → A q := fun q h => by rw [← hAe]; exact Or.inr h
  have hS : va_S A s.heap s.heap [] := va_S.rf
  have hin1 : ∀ w ∈ wsX10, w ∈ wsX5_batter := by decide +kernel
  have hin2 : ∀ w ∈ wsX20, w ∈ wsX5_batter := by decide +kernel
  have hin5 : ∀ w ∈ wsX50, w ∈ wsX5_batter := by decide +kernel
  have lk12 := hts (.fieldLink RX5 12 "PostRounders" "now" "LPostRounders$Field;") (by decide +kernel)
  have lk74 := hts (.fieldLink RX5 74 "PostRounders$Field" "play" "LPostRounders$Play;") (by decide +kernel)
  have lk77 := hts (.fieldLink RX5 77 "PostRounders$Play" "size" "I") (by decide +kernel)
  have lk88 := hts (.fieldLink RX5 88 "PostRounders$Field" "past" "LPostRounders$Rows;") (by decide +kernel)
  have hl := lv_entry ([.ref (x 0), .int k, .int lg]) (n := 3) (Nat.le_of_ble_eq_true rfl)
  rw [lg_entry_eq]
  generalize (lg_sl ([.ref (x 0), .int k, .int lg]) ++ List.replicate (3 - (lg_sl ([.ref (x 0), .int k, .int lg])).length) Slot.unset).toArray = ls at hl ⊢
  have hl : lv_has ls 3 [(0, .ref (x 0)), (1, .int k), (2, .int lg)] := hl
  obtain ⟨OUT, hO⟩ : ∃ z, z = F_X5_batter P Pa Rf k lg := ⟨_, rfl⟩
  have hF := hO
  unfold F_X5_batter at hF
  have e_pz := tN_eq pz.1
  have b_pz := pz.2
  refine lv_iload_n hx hb dX5_batter_0 rfl (lv_at hl 1 rfl) ?_
  refine qc_Si (As := [.int k]) (rest := []) ⟨hx, hb, hml, hown, hts⟩ (c_X5_isKind l k) (va_cwS 1 hts gX5_batter_X5_isKind rfl rfl rfl (by decide +kernel) ⟨Nat.le_of_ble_eq_true rfl, Nat.le_of_ble_eq_true rfl⟩) rfl hl.1 rfl (Nat.le_of_ble_eq_true rfl) dX5_batter_1 ⟨Nat.zero_le _, Nat.zero_le _⟩ (fun r_1 hw_1 => ?_)
  subst hw_1
  refine qv_zif_eq (tgt := 16) hx hb dX5_batter_4 (by decide) (fun c_4 => ?_) (fun c_4 => ?_)
  · rw [if_neg c_4] at hF
    refine lv_aload_n hx hb dX5_batter_16 rfl (lv_at hl 0 rfl) ?_
    refine lv_bipush (v := (-2)) hx hb dX5_batter_17 (by decide) ?_
    refine qx_Vi (C := RX5) (As := [.int ((-2))]) (rest := []) (ci := 5) (k0 := 0) (wr := (fO ((fun i => x (1 + i)))) ++ (pW ((fun i => x (2 + i))) cI P) ++ (rW ((fun i => x (11 + i))) cI 9 72 Pa)) (ws2 := fun u => (xO x X) ++ (fO ((fun i => x (1 + i)))) ++ (pW ((fun i => x (2 + i))) cI P) ++ (rW ((fun i => x (11 + i))) cI 9 72 Pa) ++ ([(x 15, .inl (cI, 3, .inl u))])) [0, 8] [1, 2, 3, 4, 5, 6, 7] [7, 0, 1, 2, 3, 4, 5, 6, 8] ⟨hx, hb, hml, hown, hts⟩ (c_X5_refuse l dC dI x cI s.heap.size X Rf ((-2)) ) (cwV 1 hts gX5_batter_X5_refuse rfl rfl rfl (by decide +kernel) ⟨Nat.le_of_ble_eq_true rfl, Nat.le_of_ble_eq_true rfl⟩) (hK.sub [0] rfl) hK hP hD hS hA hN rfl rfl (by decide) (by decide) (by decide) (by decide) (fun _ => rfl) rfl rfl rfl rfl hl.1 rfl (Nat.le_of_ble_eq_true rfl) dX5_batter_19 ⟨Nat.zero_le _, Nat.zero_le _⟩ (fun r_19 u_19 H locs hw_19 hP hD hS => ?_)
    obtain ⟨Rf_19, rfl⟩ : ∃ z, z = u_19 := ⟨_, rfl⟩
    have hP : va_P (dC, dI) vwCl ((xO x X) ++ (fO ((fun i => x (1 + i)))) ++ (pW ((fun i => x (2 + i))) cI P) ++ (rW ((fun i => x (11 + i))) cI 9 72 Pa) ++ ([(x 15, .inl (cI, 3, .inl Rf_19))])) H := hP
    have hD : va_D A ((xO x X) ++ (fO ((fun i => x (1 + i)))) ++ (pW ((fun i => x (2 + i))) cI P) ++ (rW ((fun i => x (11 + i))) cI 9 72 Pa) ++ ([(x 15, .inl (cI, 3, .inl Rf_19))])) := hD
    rw [hw_19, let2_mk r_19 Rf_19] at hF
    have hP9 : va_P (dC, dI) vwCl ((xO x X) ++ (fO ((fun i => x (1 + i)))) ++ (pW ((fun i => x (2 + i))) cI P) ++ (rW ((fun i => x (11 + i))) cI 9 72 Pa) ++ ([(x 15, .inl (cI, 3, .inl Rf_19))])) H := hP
    exact W.iret (v := r_19) hx hb hr (fun t ht hW => ⟨⟨_, ((P, Pa, Rf_19)), rfl, hO.symm.trans hF, by rw [ht]; exact hP9, va_K.moved hW.alike hK, hD⟩, hS.F ht⟩) hS.2.2 dX5_batter_22
  · rw [if_pos c_4] at hF
    obtain ⟨f_k, fa_k, fb_k⟩ := isKind_nat c_4
    have e_k := tN_eq f_k
    refine lv_iload_n hx hb dX5_batter_7 rfl (lv_at hl 2 rfl) ?_
    refine lv_iconst (v := nI 1) hx hb dX5_batter_8 (by decide) ?_
    refine lv_iconst (v := nI 5) hx hb dX5_batter_9 (by decide) ?_
    refine qc_Si (As := [.int lg, .int (nI 1), .int (nI 5)]) (rest := []) ⟨hx, hb, hml, hown, hts⟩ (c_X5_within l lg (nI 1) (nI 5)) (va_cwS 3 hts gX5_batter_X5_within rfl rfl rfl (by decide +kernel) ⟨Nat.le_of_ble_eq_true rfl, Nat.le_of_ble_eq_true rfl⟩) rfl hl.1 rfl (Nat.le_of_ble_eq_true rfl) dX5_batter_10 ⟨Nat.zero_le _, Nat.zero_le _⟩ (fun r_10 hw_10 => ?_)
    subst hw_10
    refine qv_zif_ne (tgt := 23) hx hb dX5_batter_13 (by decide) (fun c_13 => ?_) (fun c_13 => ?_)
    · rw [if_pos c_13] at hF
      obtain ⟨f_lg, fa_lg, fb_lg⟩ := within_nat (by decide) (by decide) c_13
      have e_lg := tN_eq f_lg
      refine lv_aload_n hx hb dX5_batter_23 rfl (lv_at hl 0 rfl) ?_
      refine va_get (D := (dC, dI)) (ci := 5) (v := .ref (x 1)) (C := RX5) (T := TX5) (N := 14) hx hb hts hin5 hown hK hP 0 rfl rfl 0 (by decide) lk12 (fun _ h9 => h9) rfl dX5_batter_24 ?_
      refine va_get (D := (dC, dI)) (ci := 1) (v := .ref (x 2)) (C := RX1) (T := TX1) (N := 5) hx hb hts hin1 hown hK hP 1 rfl rfl 0 (by decide) lk74 (fun _ h9 => h9) rfl dX5_batter_27 ?_
      refine va_get (D := (dC, dI)) (ci := 2) (v := .int (Psz P)) (C := RX2) (T := TX2) (N := 8) hx hb hts hin2 hown hK hP 2 rfl rfl 1 (by decide) lk77 (fun _ h9 => h9) rfl dX5_batter_30 ?_
      refine qv_top (e_pz) ?_
      refine lv_bipush (v := nI 6) hx hb dX5_batter_33 (by decide) ?_
      refine qv_icmp_lt (tgt := 45) hx hb dX5_batter_35 (by decide) (by omega) (by omega) (fun c_35 => ?_) (fun c_35 => ?_)
      · rw [if_pos c_35] at hF
        refine lv_aload_n hx hb dX5_batter_45 rfl (lv_at hl 0 rfl) ?_
        refine va_get (D := (dC, dI)) (ci := 5) (v := .ref (x 1)) (C := RX5) (T := TX5) (N := 14) hx hb hts hin5 hown hK hP 0 rfl rfl 0 (by decide) lk12 (fun _ h9 => h9) rfl dX5_batter_46 ?_
        refine va_get (D := (dC, dI)) (ci := 1) (v := .ref (x 11)) (C := RX1) (T := TX1) (N := 5) hx hb hts hin1 hown hK hP 1 rfl rfl 4 (by decide) lk88 (fun _ h9 => h9) rfl dX5_batter_49 ?_
        refine qx_Vv (C := RX4) (As := []) (rest := []) (ci := 4) (k0 := 6) (wr := (xO x X) ++ (fO ((fun i => x (1 + i)))) ++ (pW ((fun i => x (2 + i))) cI P) ++ ([(x 15, .inl (cI, 3, .inl Rf))])) (ws2 := fun u => (xO x X) ++ (fO ((fun i => x (1 + i)))) ++ (pW ((fun i => x (2 + i))) cI P) ++ (rW ((fun i => x (11 + i))) cI 9 72 u) ++ ([(x 15, .inl (cI, 3, .inl Rf))])) [6, 7] [0, 1, 2, 3, 4, 5, 8] [0, 1, 2, 3, 4, 5, 7, 8, 6] ⟨hx, hb, hml, hown, hts⟩ (c_X4_empty_v9 l dC dI (fun i => x (11 + i)) cI s.heap.size Pa  ) (cwV 0 hts gX5_batter_X4_empty rfl rfl rfl (by decide +kernel) ⟨Nat.le_of_ble_eq_true rfl, Nat.le_of_ble_eq_true rfl⟩) (hK.sub [0] rfl) hK hP hD hS hA hN rfl rfl (by decide) (by decide) (by decide) (by decide) (fun _ => rfl) rfl rfl rfl rfl hl.1 rfl (Nat.le_of_ble_eq_true rfl) dX5_batter_52 ⟨Nat.zero_le _, Nat.zero_le _⟩ (fun u_52 H locs hw_52 hP hD hS => ?_)
        obtain ⟨Pa_52, rfl⟩ : ∃ z, z = u_52 := ⟨_, rfl⟩
        have hP : va_P (dC, dI) vwCl ((xO x X) ++ (fO ((fun i => x (1 + i)))) ++ (pW ((fun i => x (2 + i))) cI P) ++ (rW ((fun i => x (11 + i))) cI 9 72 Pa_52) ++ ([(x 15, .inl (cI, 3, .inl Rf))])) H := hP
        have hD : va_D A ((xO x X) ++ (fO ((fun i => x (1 + i)))) ++ (pW ((fun i => x (2 + i))) cI P) ++ (rW ((fun i => x (11 + i))) cI 9 72 Pa_52) ++ ([(x 15, .inl (cI, 3, .inl Rf))])) := hD
        rw [hw_52, let1_mk Pa_52] at hF
        refine lv_aload_n hx hb dX5_batter_55 rfl (lv_at hl 0 rfl) ?_
        refine va_get (D := (dC, dI)) (ci := 5) (v := .ref (x 1)) (C := RX5) (T := TX5) (N := 14) hx hb hts hin5 hown hK hP 0 rfl rfl 0 (by decide) lk12 (fun _ h9 => h9) rfl dX5_batter_56 ?_
        refine va_get (D := (dC, dI)) (ci := 1) (v := .ref (x 2)) (C := RX1) (T := TX1) (N := 5) hx hb hts hin1 hown hK hP 1 rfl rfl 0 (by decide) lk74 (fun _ h9 => h9) rfl dX5_batter_59 ?_
        refine lv_iload_n hx hb dX5_batter_62 rfl (lv_at hl 1 rfl) ?_
        refine qv_top (e_k) ?_
        refine lv_iload_n hx hb dX5_batter_63 rfl (lv_at hl 2 rfl) ?_
        refine qv_top (e_lg) ?_
        refine qx_Vi (C := RX2) (As := [.int (nI (tN k)), .int (nI (tN lg))]) (rest := []) (ci := 2) (k0 := 2) (wr := (xO x X) ++ (fO ((fun i => x (1 + i)))) ++ (rW ((fun i => x (11 + i))) cI 9 72 Pa_52) ++ ([(x 15, .inl (cI, 3, .inl Rf))])) (ws2 := fun u => (xO x X) ++ (fO ((fun i => x (1 + i)))) ++ (pW ((fun i => x (2 + i))) cI u) ++ (rW ((fun i => x (11 + i))) cI 9 72 Pa_52) ++ ([(x 15, .inl (cI, 3, .inl Rf))])) [2, 3, 4, 5] [0, 1, 6, 7, 8] [0, 1, 5, 6, 7, 8, 2, 3, 4] ⟨hx, hb, hml, hown, hts⟩ (c_X2_join l dC dI (fun i => x (2 + i)) cI H.size P (nI (tN k)) (nI (tN lg)) (pz : inB (Psz P) 6)) (cwV 2 hts gX5_batter_X2_join rfl rfl rfl (by decide +kernel) ⟨Nat.le_of_ble_eq_true rfl, Nat.le_of_ble_eq_true rfl⟩) (hK.sub [0] rfl) hK hP hD hS hA hN rfl rfl (by decide) (by decide) (by decide) (by decide) (fun _ => rfl) rfl rfl rfl rfl hl.1 rfl (Nat.le_of_ble_eq_true rfl) dX5_batter_64 ⟨Nat.zero_le _, Nat.zero_le _⟩ (fun r_64 u_64 H locs hw_64 hP hD hS => ?_)
        obtain ⟨P_64, rfl⟩ : ∃ z, z = u_64 := ⟨_, rfl⟩
        have hP : va_P (dC, dI) vwCl ((xO x X) ++ (fO ((fun i => x (1 + i)))) ++ (pW ((fun i => x (2 + i))) cI P_64) ++ (rW ((fun i => x (11 + i))) cI 9 72 Pa_52) ++ ([(x 15, .inl (cI, 3, .inl Rf))])) H := hP
        have hD : va_D A ((xO x X) ++ (fO ((fun i => x (1 + i)))) ++ (pW ((fun i => x (2 + i))) cI P_64) ++ (rW ((fun i => x (11 + i))) cI 9 72 Pa_52) ++ ([(x 15, .inl (cI, 3, .inl Rf))])) := hD
        rw [hw_64, let2_mk r_64 P_64] at hF
        have hP9 : va_P (dC, dI) vwCl ((xO x X) ++ (fO ((fun i => x (1 + i)))) ++ (pW ((fun i => x (2 + i))) cI P_64) ++ (rW ((fun i => x (11 + i))) cI 9 72 Pa_52) ++ ([(x 15, .inl (cI, 3, .inl Rf))])) H := hP
        exact W.iret (v := r_64) hx hb hr (fun t ht hW => ⟨⟨_, ((P_64, Pa_52, Rf)), rfl, hO.symm.trans hF, by rw [ht]; exact hP9, va_K.moved hW.alike hK, hD⟩, hS.F ht⟩) hS.2.2 dX5_batter_67
      · rw [if_neg c_35] at hF
        refine lv_aload_n hx hb dX5_batter_38 rfl (lv_at hl 0 rfl) ?_
        refine lv_bipush (v := (-4)) hx hb dX5_batter_39 (by decide) ?_
        refine qx_Vi (C := RX5) (As := [.int ((-4))]) (rest := []) (ci := 5) (k0 := 0) (wr := (fO ((fun i => x (1 + i)))) ++ (pW ((fun i => x (2 + i))) cI P) ++ (rW ((fun i => x (11 + i))) cI 9 72 Pa)) (ws2 := fun u => (xO x X) ++ (fO ((fun i => x (1 + i)))) ++ (pW ((fun i => x (2 + i))) cI P) ++ (rW ((fun i => x (11 + i))) cI 9 72 Pa) ++ ([(x 15, .inl (cI, 3, .inl u))])) [0, 8] [1, 2, 3, 4, 5, 6, 7] [7, 0, 1, 2, 3, 4, 5, 6, 8] ⟨hx, hb, hml, hown, hts⟩ (c_X5_refuse l dC dI x cI s.heap.size X Rf ((-4)) ) (cwV 1 hts gX5_batter_X5_refuse rfl rfl rfl (by decide +kernel) ⟨Nat.le_of_ble_eq_true rfl, Nat.le_of_ble_eq_true rfl⟩) (hK.sub [0] rfl) hK hP hD hS hA hN rfl rfl (by decide) (by decide) (by decide) (by decide) (fun _ => rfl) rfl rfl rfl rfl hl.1 rfl (Nat.le_of_ble_eq_true rfl) dX5_batter_41 ⟨Nat.zero_le _, Nat.zero_le _⟩ (fun r_41 u_41 H locs hw_41 hP hD hS => ?_)
        obtain ⟨Rf_41, rfl⟩ : ∃ z, z = u_41 := ⟨_, rfl⟩
        have hP : va_P (dC, dI) vwCl ((xO x X) ++ (fO ((fun i => x (1 + i)))) ++ (pW ((fun i => x (2 + i))) cI P) ++ (rW ((fun i => x (11 + i))) cI 9 72 Pa) ++ ([(x 15, .inl (cI, 3, .inl Rf_41))])) H := hP
        have hD : va_D A ((xO x X) ++ (fO ((fun i => x (1 + i)))) ++ (pW ((fun i => x (2 + i))) cI P) ++ (rW ((fun i => x (11 + i))) cI 9 72 Pa) ++ ([(x 15, .inl (cI, 3, .inl Rf_41))])) := hD
        rw [hw_41, let2_mk r_41 Rf_41] at hF
        have hP9 : va_P (dC, dI) vwCl ((xO x X) ++ (fO ((fun i => x (1 + i)))) ++ (pW ((fun i => x (2 + i))) cI P) ++ (rW ((fun i => x (11 + i))) cI 9 72 Pa) ++ ([(x 15, .inl (cI, 3, .inl Rf_41))])) H := hP
        exact W.iret (v := r_41) hx hb hr (fun t ht hW => ⟨⟨_, ((P, Pa, Rf_41)), rfl, hO.symm.trans hF, by rw [ht]; exact hP9, va_K.moved hW.alike hK, hD⟩, hS.F ht⟩) hS.2.2 dX5_batter_44
    · rw [if_neg c_13] at hF
      refine lv_aload_n hx hb dX5_batter_16 rfl (lv_at hl 0 rfl) ?_
      refine lv_bipush (v := (-2)) hx hb dX5_batter_17 (by decide) ?_
      refine qx_Vi (C := RX5) (As := [.int ((-2))]) (rest := []) (ci := 5) (k0 := 0) (wr := (fO ((fun i => x (1 + i)))) ++ (pW ((fun i => x (2 + i))) cI P) ++ (rW ((fun i => x (11 + i))) cI 9 72 Pa)) (ws2 := fun u => (xO x X) ++ (fO ((fun i => x (1 + i)))) ++ (pW ((fun i => x (2 + i))) cI P) ++ (rW ((fun i => x (11 + i))) cI 9 72 Pa) ++ ([(x 15, .inl (cI, 3, .inl u))])) [0, 8] [1, 2, 3, 4, 5, 6, 7] [7, 0, 1, 2, 3, 4, 5, 6, 8] ⟨hx, hb, hml, hown, hts⟩ (c_X5_refuse l dC dI x cI s.heap.size X Rf ((-2)) ) (cwV 1 hts gX5_batter_X5_refuse rfl rfl rfl (by decide +kernel) ⟨Nat.le_of_ble_eq_true rfl, Nat.le_of_ble_eq_true rfl⟩) (hK.sub [0] rfl) hK hP hD hS hA hN rfl rfl (by decide) (by decide) (by decide) (by decide) (fun _ => rfl) rfl rfl rfl rfl hl.1 rfl (Nat.le_of_ble_eq_true rfl) dX5_batter_19 ⟨Nat.zero_le _, Nat.zero_le _⟩ (fun r_19 u_19 H locs hw_19 hP hD hS => ?_)
      obtain ⟨Rf_19, rfl⟩ : ∃ z, z = u_19 := ⟨_, rfl⟩
      have hP : va_P (dC, dI) vwCl ((xO x X) ++ (fO ((fun i => x (1 + i)))) ++ (pW ((fun i => x (2 + i))) cI P) ++ (rW ((fun i => x (11 + i))) cI 9 72 Pa) ++ ([(x 15, .inl (cI, 3, .inl Rf_19))])) H := hP
      have hD : va_D A ((xO x X) ++ (fO ((fun i => x (1 + i)))) ++ (pW ((fun i => x (2 + i))) cI P) ++ (rW ((fun i => x (11 + i))) cI 9 72 Pa) ++ ([(x 15, .inl (cI, 3, .inl Rf_19))])) := hD
      rw [hw_19, let2_mk r_19 Rf_19] at hF
      have hP9 : va_P (dC, dI) vwCl ((xO x X) ++ (fO ((fun i => x (1 + i)))) ++ (pW ((fun i => x (2 + i))) cI P) ++ (rW ((fun i => x (11 + i))) cI 9 72 Pa) ++ ([(x 15, .inl (cI, 3, .inl Rf_19))])) H := hP
      exact W.iret (v := r_19) hx hb hr (fun t ht hW => ⟨⟨_, ((P, Pa, Rf_19)), rfl, hO.symm.trans hF, by rw [ht]; exact hP9, va_K.moved hW.alike hK, hD⟩, hS.F ht⟩) hS.2.2 dX5_batter_22
def F_X5_type (X : xS) (Tx : Nat → Int32) (Rf : Nat → Int32) (c0 : Int32) : Int32 × (xS) × (Nat → Int32) × (Nat → Int32) := if (F_X5_within c0 (nI 0) (nI 127)) = true then (if tN (Xtl X) < 150 then (nI (tN (Xtl X) + 1), ((nI (tN (Xtl X) + 1), Xab X, Xbe X)), (upd Tx (tN (Xtl X)) (nI (tN c0))), Rf) else let2 (F_X5_refuse Rf ((-4))) (fun r_30 Rf_30 => (r_30, X, Tx, Rf_30))) else let2 (F_X5_refuse Rf ((-2))) (fun r_13 Rf_13 => (r_13, X, Tx, Rf_13))
set_option maxHeartbeats 4000000 in
set_option maxRecDepth 100000 in
theorem c_X5_type (l : Launch) (dC : Nat → ClassId) (dI : Nat → Nat → Nat) (x : Nat → Nat) (cI : ClassId) (sz : Nat) (X : xS) (Tx : Nat → Int32) (Rf : Nat → Int32) (c0 : Int32) (ptl : inB (Xtl X) 150) : Met l yX5_type wsX5_type { frames := 2, cells := 0, slots := 0, locals := 44 } (xPc (dC, dI) vwCl (xT cI) ((xO x X) ++ ([(x 14, .inl (cI, 150, .inl Tx))]) ++ ([(x 15, .inl (cI, 3, .inl Rf))])) sz [.ref (x 0), .int c0]) (va_Qi (fun (r : Int32) (u : (xS) × (Nat → Int32) × (Nat → Int32)) => F_X5_type X Tx Rf c0 = (r, u)) (mB (dC, dI) vwCl (xT cI) (va_A ((xO x X) ++ ([(x 14, .inl (cI, 150, .inl Tx))]) ++ ([(x 15, .inl (cI, 3, .inl Rf))])) sz) (fun u => (xO x (u.1)) ++ ([(x 14, .inl (cI, 150, .inl (u.2.1)))]) ++ ([(x 15, .inl (cI, 3, .inl (u.2.2)))]))) (va_A ((xO x X) ++ ([(x 14, .inl (cI, 150, .inl Tx))]) ++ ([(x 15, .inl (cI, 3, .inl Rf))])) sz)) 0 0 (va_A ((xO x X) ++ ([(x 14, .inl (cI, 150, .inl Tx))]) ++ ([(x 15, .inl (cI, 3, .inl Rf))])) sz) := by
  refine Met.ofW (cc := cX5_type) (maxL := 2) (ret := (some .int)) (by decide) rfl ?_
  intro p e s m args below meth c s₁ B hml hv
  obtain ⟨rfl, hsz, hP, hK, hD0, hN⟩ := hv
  have hx := B.exec
  have hb := B.bytes
  have hr := B.returns
  have hts := atoms_spec (ws := wsX5_type) B.pre
  have hown : s.vm.findClass RX5 = some m.cls := findClass_of_methodNamed B.named
  have hlocks := B.notSynchronized
  subst hsz
  have hD := hD0.self (sz := s.heap.size)
  generalize hAe : va_A ((xO x X) ++ ([(x 14, .inl (cI, 150, .inl Tx))]) ++ ([(x 15, .inl (cI, 3, .inl Rf))])) s.heap.size = A at hD ⊢
  have hA : ∀ q : Nat, s.heap.size ≤ q → A q := fun q h => by rw [← hAe]; exact Or.inr h
  have hS : va_S A s.heap s.heap [] := va_S.rf
  have hin5 : ∀ w ∈ wsX50, w ∈ wsX5_type := by decide +kernel
  have lk20 := hts (.fieldLink RX5 20 "PostRounders" "text" "[I") (by decide +kernel)
  have lk105 := hts (.fieldLink RX5 105 "PostRounders" "textLength" "I") (by decide +kernel)
  have hl := lv_entry ([.ref (x 0), .int c0]) (n := 2) (Nat.le_of_ble_eq_true rfl)
  rw [lg_entry_eq]
  generalize (lg_sl ([.ref (x 0), .int c0]) ++ List.replicate (2 - (lg_sl ([.ref (x 0), .int c0])).length) Slot.unset).toArray = ls at hl ⊢
  have hl : lv_has ls 2 [(0, .ref (x 0)), (1, .int c0)] := hl
  obtain ⟨OUT, hO⟩ : ∃ z, z = F_X5_type X Tx Rf c0 := ⟨_, rfl⟩
  have hF := hO
  unfold F_X5_type at hF
  have e_ptl := tN_eq ptl.1
  have b_ptl := ptl.2
  refine lv_iload_n hx hb dX5_type_0 rfl (lv_at hl 1 rfl) ?_
  refine lv_iconst (v := nI 0) hx hb dX5_type_1 (by decide) ?_
  refine lv_bipush (v := nI 127) hx hb dX5_type_2 (by decide) ?_
  refine qc_Si (As := [.int c0, .int (nI 0), .int (nI 127)]) (rest := []) ⟨hx, hb, hml, hown, hts⟩ (c_X5_within l c0 (nI 0) (nI 127)) (va_cwS 3 hts gX5_type_X5_within rfl rfl rfl (by decide +kernel) ⟨Nat.le_of_ble_eq_true rfl, Nat.le_of_ble_eq_true rfl⟩) rfl hl.1 rfl (Nat.le_of_ble_eq_true rfl) dX5_type_4 ⟨Nat.zero_le _, Nat.zero_le _⟩ (fun r_4 hw_4 => ?_)
  subst hw_4
  refine qv_zif_ne (tgt := 17) hx hb dX5_type_7 (by decide) (fun c_7 => ?_) (fun c_7 => ?_)
  · rw [if_pos c_7] at hF
    obtain ⟨f_c0, fa_c0, fb_c0⟩ := within_nat (by decide) (by decide) c_7
    have e_c0 := tN_eq f_c0
    refine lv_aload_n hx hb dX5_type_17 rfl (lv_at hl 0 rfl) ?_
    refine va_get (D := (dC, dI)) (ci := 5) (v := .int (Xtl X)) (C := RX5) (T := TX5) (N := 14) hx hb hts hin5 hown hK hP 0 rfl rfl 3 (by decide) lk105 (fun _ h9 => h9) rfl dX5_type_18 ?_
    refine qv_top (e_ptl) ?_
    refine lv_sipush (v := nI 150) hx hb dX5_type_21 (by decide) ?_
    refine qv_icmp_lt (tgt := 34) hx hb dX5_type_24 (by decide) (by omega) (by omega) (fun c_24 => ?_) (fun c_24 => ?_)
    · rw [if_pos c_24] at hF
      refine lv_aload_n hx hb dX5_type_34 rfl (lv_at hl 0 rfl) ?_
      refine va_get (D := (dC, dI)) (ci := 5) (v := .ref (x 14)) (C := RX5) (T := TX5) (N := 14) hx hb hts hin5 hown hK hP 0 rfl rfl 2 (by decide) lk20 (fun _ h9 => h9) rfl dX5_type_35 ?_
      refine lv_aload_n hx hb dX5_type_38 rfl (lv_at hl 0 rfl) ?_
      refine va_get (D := (dC, dI)) (ci := 5) (v := .int (Xtl X)) (C := RX5) (T := TX5) (N := 14) hx hb hts hin5 hown hK hP 0 rfl rfl 3 (by decide) lk105 (fun _ h9 => h9) rfl dX5_type_39 ?_
      refine qv_top (e_ptl) ?_
      refine lv_iload_n hx hb dX5_type_42 rfl (lv_at hl 1 rfl) ?_
      refine qv_top (e_c0) ?_
      refine qv_ast (ws' := (xO x X) ++ ([(x 14, .inl (cI, 150, .inl (upd Tx (tN (Xtl X)) (nI (tN c0)))))]) ++ ([(x 15, .inl (cI, 3, .inl Rf))])) hx hb hK hP hD hS 1 0 rfl rfl (by omega) (by decide) dX5_type_43 rfl (fun H locs hP hD hS => ?_)
      refine lv_aload_n hx hb dX5_type_44 rfl (lv_at hl 0 rfl) ?_
      refine lv_dup hx hb dX5_type_45 rfl ?_
      refine va_get (D := (dC, dI)) (ci := 5) (v := .int (Xtl X)) (C := RX5) (T := TX5) (N := 14) hx hb hts hin5 hown hK hP 0 rfl rfl 3 (by decide) lk105 (fun _ h9 => h9) rfl dX5_type_46 ?_
      refine qv_top (e_ptl) ?_
      refine lv_iconst (v := nI 1) hx hb dX5_type_49 (by decide) ?_
      refine qv_iadd hx hb (tN (Xtl X) + 1) dX5_type_50 (by omega) ?_
      refine va_put (D := (dC, dI)) (ci := 5) (v := .int (nI (tN (Xtl X) + 1))) (ty := .int) (C := RX5) (T := TX5) (N := 14) hx hb hts hin5 tyX5 tyX5_ok nmX5 hown hK hP hD hS 0 rfl rfl 3 (by decide) lk105 (fun _ h9 => h9) rfl (by decide +kernel) rfl rfl (Nat.le_of_ble_eq_true rfl) dX5_type_51 (fun H locs hP hD hS => ?_)
      have hP : va_P (dC, dI) vwCl ((xO x ((nI (tN (Xtl X) + 1), Xab X, Xbe X))) ++ ([(x 14, .inl (cI, 150, .inl (upd Tx (tN (Xtl X)) (nI (tN c0)))))]) ++ ([(x 15, .inl (cI, 3, .inl Rf))])) H := hP
      have hD : va_D A ((xO x ((nI (tN (Xtl X) + 1), Xab X, Xbe X))) ++ ([(x 14, .inl (cI, 150, .inl (upd Tx (tN (Xtl X)) (nI (tN c0)))))]) ++ ([(x 15, .inl (cI, 3, .inl Rf))])) := hD
      refine lv_aload_n hx hb dX5_type_54 rfl (lv_at hl 0 rfl) ?_
      refine va_get (D := (dC, dI)) (ci := 5) (v := .int (nI (tN (Xtl X) + 1))) (C := RX5) (T := TX5) (N := 14) hx hb hts hin5 hown hK hP 0 rfl rfl 3 (by decide) lk105 (fun _ h9 => h9) rfl dX5_type_55 ?_
      have hP9 : va_P (dC, dI) vwCl ((xO x ((nI (tN (Xtl X) + 1), Xab X, Xbe X))) ++ ([(x 14, .inl (cI, 150, .inl (upd Tx (tN (Xtl X)) (nI (tN c0)))))]) ++ ([(x 15, .inl (cI, 3, .inl Rf))])) H := hP
      exact W.iret (v := nI (tN (Xtl X) + 1)) hx hb hr (fun t ht hW => ⟨⟨_, (((nI (tN (Xtl X) + 1), Xab X, Xbe X), upd Tx (tN (Xtl X)) (nI (tN c0)), Rf)), rfl, hO.symm.trans hF, by rw [ht]; exact hP9, va_K.moved hW.alike hK, hD⟩, hS.F ht⟩) hS.2.2 dX5_type_58
    · rw [if_neg c_24] at hF
      refine lv_aload_n hx hb dX5_type_27 rfl (lv_at hl 0 rfl) ?_
      refine lv_bipush (v := (-4)) hx hb dX5_type_28 (by decide) ?_
      refine qx_Vi (C := RX5) (As := [.int ((-4))]) (rest := []) (ci := 5) (k0 := 0) (wr := ([(x 14, .inl (cI, 150, .inl Tx))])) (ws2 := fun u => (xO x X) ++ ([(x 14, .inl (cI, 150, .inl Tx))]) ++ ([(x 15, .inl (cI, 3, .inl u))])) [0, 2] [1] [1, 0, 2] ⟨hx, hb, hml, hown, hts⟩ (c_X5_refuse l dC dI x cI s.heap.size X Rf ((-4)) ) (cwV 1 hts gX5_type_X5_refuse rfl rfl rfl (by decide +kernel) ⟨Nat.le_of_ble_eq_true rfl, Nat.le_of_ble_eq_true rfl⟩) (hK.sub [0] rfl) hK hP hD hS hA hN rfl rfl (by decide) (by decide) (by decide) (by decide) (fun _ => rfl) rfl rfl rfl rfl hl.1 rfl (Nat.le_of_ble_eq_true rfl) dX5_type_30 ⟨Nat.zero_le _, Nat.zero_le _⟩ (fun r_30 u_30 H locs hw_30 hP hD hS => ?_)
      obtain ⟨Rf_30, rfl⟩ : ∃ z, z = u_30 := ⟨_, rfl⟩
      have hP : va_P (dC, dI) vwCl ((xO x X) ++ ([(x 14, .inl (cI, 150, .inl Tx))]) ++ ([(x 15, .inl (cI, 3, .inl Rf_30))])) H := hP
      have hD : va_D A ((xO x X) ++ ([(x 14, .inl (cI, 150, .inl Tx))]) ++ ([(x 15, .inl (cI, 3, .inl Rf_30))])) := hD
      rw [hw_30, let2_mk r_30 Rf_30] at hF
      have hP9 : va_P (dC, dI) vwCl ((xO x X) ++ ([(x 14, .inl (cI, 150, .inl Tx))]) ++ ([(x 15, .inl (cI, 3, .inl Rf_30))])) H := hP
      exact W.iret (v := r_30) hx hb hr (fun t ht hW => ⟨⟨_, ((X, Tx, Rf_30)), rfl, hO.symm.trans hF, by rw [ht]; exact hP9, va_K.moved hW.alike hK, hD⟩, hS.F ht⟩) hS.2.2 dX5_type_33
  · rw [if_neg c_7] at hF
    refine lv_aload_n hx hb dX5_type_10 rfl (lv_at hl 0 rfl) ?_
    refine lv_bipush (v := (-2)) hx hb dX5_type_11 (by decide) ?_
    refine qx_Vi (C := RX5) (As := [.int ((-2))]) (rest := []) (ci := 5) (k0 := 0) (wr := ([(x 14, .inl (cI, 150, .inl Tx))])) (ws2 := fun u => (xO x X) ++ ([(x 14, .inl (cI, 150, .inl Tx))]) ++ ([(x 15, .inl (cI, 3, .inl u))])) [0, 2] [1] [1, 0, 2] ⟨hx, hb, hml, hown, hts⟩ (c_X5_refuse l dC dI x cI s.heap.size X Rf ((-2)) ) (cwV 1 hts gX5_type_X5_refuse rfl rfl rfl (by decide +kernel) ⟨Nat.le_of_ble_eq_true rfl, Nat.le_of_ble_eq_true rfl⟩) (hK.sub [0] rfl) hK hP hD hS hA hN rfl rfl (by decide) (by decide) (by decide) (by decide) (fun _ => rfl) rfl rfl rfl rfl hl.1 rfl (Nat.le_of_ble_eq_true rfl) dX5_type_13 ⟨Nat.zero_le _, Nat.zero_le _⟩ (fun r_13 u_13 H locs hw_13 hP hD hS => ?_)
    obtain ⟨Rf_13, rfl⟩ : ∃ z, z = u_13 := ⟨_, rfl⟩
    have hP : va_P (dC, dI) vwCl ((xO x X) ++ ([(x 14, .inl (cI, 150, .inl Tx))]) ++ ([(x 15, .inl (cI, 3, .inl Rf_13))])) H := hP
    have hD : va_D A ((xO x X) ++ ([(x 14, .inl (cI, 150, .inl Tx))]) ++ ([(x 15, .inl (cI, 3, .inl Rf_13))])) := hD
    rw [hw_13, let2_mk r_13 Rf_13] at hF
    have hP9 : va_P (dC, dI) vwCl ((xO x X) ++ ([(x 14, .inl (cI, 150, .inl Tx))]) ++ ([(x 15, .inl (cI, 3, .inl Rf_13))])) H := hP
    exact W.iret (v := r_13) hx hb hr (fun t ht hW => ⟨⟨_, ((X, Tx, Rf_13)), rfl, hO.symm.trans hF, by rw [ht]; exact hP9, va_K.moved hW.alike hK, hD⟩, hS.F ht⟩) hS.2.2 dX5_type_16
def F_X5_clear (X : xS) : Int32 × (xS) := (Xtl X, ((nI 0, Xab X, Xbe X)))
set_option maxHeartbeats 4000000 in
set_option maxRecDepth 100000 in
theorem c_X5_clear (l : Launch) (dC : Nat → ClassId) (dI : Nat → Nat → Nat) (x : Nat → Nat) (cI : ClassId) (sz : Nat) (X : xS) : Met l yX5_clear wsX5_clear { frames := 0, cells := 0, slots := 0, locals := 0 } (xPc (dC, dI) vwCl (xT cI) (xO x X) sz [.ref (x 0)]) (va_Qi (fun (r : Int32) (u : (xS)) => F_X5_clear X = (r, u)) (mB (dC, dI) vwCl (xT cI) (va_A (xO x X) sz) (fun u => xO x u)) (va_A (xO x X) sz)) 0 0 (va_A (xO x X) sz) := by
  refine Met.ofW (cc := cX5_clear) (maxL := 2) (ret := (some .int)) (by decide) rfl ?_
  intro p e s m args below meth c s₁ B hml hv
  obtain ⟨rfl, hsz, hP, hK, hD0, hN⟩ := hv
  have hx := B.exec
  have hb := B.bytes
  have hr := B.returns
  have hts := atoms_spec (ws := wsX5_clear) B.pre
  have hown : s.vm.findClass RX5 = some m.cls := findClass_of_methodNamed B.named
  have hlocks := B.notSynchronized
  subst hsz
  have hD := hD0.self (sz := s.heap.size)
  generalize hAe : va_A (xO x X) s.heap.size = A at hD ⊢
  have hA : ∀ q : Nat, s.heap.size ≤ q → A q := fun q h => by rw [← hAe]; exact Or.inr h
  have hS : va_S A s.heap s.heap [] := va_S.rf
  have hin5 : ∀ w ∈ wsX50, w ∈ wsX5_clear := by decide +kernel
  have lk105 := hts (.fieldLink RX5 105 "PostRounders" "textLength" "I") (by decide +kernel)
  have hl := lv_entry ([.ref (x 0)]) (n := 2) (Nat.le_of_ble_eq_true rfl)
  rw [lg_entry_eq]
  generalize (lg_sl ([.ref (x 0)]) ++ List.replicate (2 - (lg_sl ([.ref (x 0)])).length) Slot.unset).toArray = ls at hl ⊢
  have hl : lv_has ls 2 [(0, .ref (x 0))] := hl
  obtain ⟨OUT, hO⟩ : ∃ z, z = F_X5_clear X := ⟨_, rfl⟩
  have hF := hO
  unfold F_X5_clear at hF
  refine lv_aload_n hx hb dX5_clear_0 rfl (lv_at hl 0 rfl) ?_
  refine va_get (D := (dC, dI)) (ci := 5) (v := .int (Xtl X)) (C := RX5) (T := TX5) (N := 14) hx hb hts hin5 hown hK hP 0 rfl rfl 3 (by decide) lk105 (fun _ h9 => h9) rfl dX5_clear_1 ?_
  refine lv_istore_n (lv' := [(1, .int (Xtl X)), (0, .ref (x 0))]) hx hb dX5_clear_4 rfl hl (by decide) rfl (fun ls hl => ?_)
  refine lv_aload_n hx hb dX5_clear_5 rfl (lv_at hl 1 rfl) ?_
  refine lv_iconst (v := nI 0) hx hb dX5_clear_6 (by decide) ?_
  refine va_put (D := (dC, dI)) (ci := 5) (v := .int (nI 0)) (ty := .int) (C := RX5) (T := TX5) (N := 14) hx hb hts hin5 tyX5 tyX5_ok nmX5 hown hK hP hD hS 0 rfl rfl 3 (by decide) lk105 (fun _ h9 => h9) rfl (by decide +kernel) rfl rfl (Nat.le_of_ble_eq_true rfl) dX5_clear_7 (fun H locs hP hD hS => ?_)
  have hP : va_P (dC, dI) vwCl (xO x ((nI 0, Xab X, Xbe X))) H := hP
  have hD : va_D A (xO x ((nI 0, Xab X, Xbe X))) := hD
  refine lv_iload_n hx hb dX5_clear_10 rfl (lv_at hl 0 rfl) ?_
  have hP9 : va_P (dC, dI) vwCl (xO x ((nI 0, Xab X, Xbe X))) H := hP
  exact W.iret (v := Xtl X) hx hb hr (fun t ht hW => ⟨⟨_, ((nI 0, Xab X, Xbe X)), rfl, hO.symm.trans hF, by rw [ht]; exact hP9, va_K.moved hW.alike hK, hD⟩, hS.F ht⟩) hS.2.2 dX5_clear_11
def F_X5_hits (P : pS) (Pa : rS) (Rf : Nat → Int32) (h : Int32) : Int32 × (pS) × (rS) × (Nat → Int32) := if (F_X5_isHit h) = true then let1 (F_X2_isDone P) (fun z_21 => if z_21 = true then let2 (F_X5_refuse Rf ((-3))) (fun r_46 Rf_46 => (r_46, P, Pa, Rf_46)) else (if (Pbl P) < (nI 9999) then let1 (F_X1_remember P Pa) (fun Pa_65 => let2 (F_X2_ball P (nI (tN h))) (fun r_76 P_76 => if (Ppt P_76) < (nI 9999) then ((Ppt P_76) - (Ppt P), P_76, Pa_65, Rf) else ((nI 9999) - (Ppt P), ((Pbo P_76, Psz P_76, Pkd P_76, Plg P_76, Pwh P_76, Pnx P_76, nI 9999, Pbl P_76)), Pa_65, Rf))) else let2 (F_X5_refuse Rf ((-3))) (fun r_46 Rf_46 => (r_46, P, Pa, Rf_46)))) else let2 (F_X5_refuse Rf ((-2))) (fun r_10 Rf_10 => (r_10, P, Pa, Rf_10))
set_option maxHeartbeats 4000000 in
set_option maxRecDepth 100000 in
theorem c_X5_hits (l : Launch) (dC : Nat → ClassId) (dI : Nat → Nat → Nat) (x : Nat → Nat) (cI : ClassId) (sz : Nat) (X : xS) (P : pS) (Rw : Nat → Int32) (No : rS) (Ma : rS) (Pa : rS) (Rf : Nat → Int32) (h : Int32) (pz : inB (Psz P) 6) (ppa : inB (Rus Pa) 72) : Met l yX5_hits wsX5_hits { frames := 4, cells := 0, slots := 0, locals := 101 } (xPc (dC, dI) vwCl (xT cI) ((xO x X) ++ (fO ((fun i => x (1 + i)))) ++ (pW ((fun i => x (2 + i))) cI P) ++ ([(x 6, .inl (cI, 8, .inl Rw))]) ++ (rW ((fun i => x (7 + i))) cI 3 18 No) ++ (rW ((fun i => x (9 + i))) cI 4 24 Ma) ++ (rW ((fun i => x (11 + i))) cI 9 72 Pa) ++ ([(x 15, .inl (cI, 3, .inl Rf))])) sz [.ref (x 0), .int h]) (va_Qi (fun (r : Int32) (u : (pS) × (rS) × (Nat → Int32)) => F_X5_hits P Pa Rf h = (r, u)) (mB (dC, dI) vwCl (xT cI) (va_A ((xO x X) ++ (fO ((fun i => x (1 + i)))) ++ (pW ((fun i => x (2 + i))) cI P) ++ ([(x 6, .inl (cI, 8, .inl Rw))]) ++ (rW ((fun i => x (7 + i))) cI 3 18 No) ++ (rW ((fun i => x (9 + i))) cI 4 24 Ma) ++ (rW ((fun i => x (11 + i))) cI 9 72 Pa) ++ ([(x 15, .inl (cI, 3, .inl Rf))])) sz) (fun u => (xO x X) ++ (fO ((fun i => x (1 + i)))) ++ (pW ((fun i => x (2 + i))) cI (u.1)) ++ ([(x 6, .inl (cI, 8, .inl Rw))]) ++ (rW ((fun i => x (7 + i))) cI 3 18 No) ++ (rW ((fun i => x (9 + i))) cI 4 24 Ma) ++ (rW ((fun i => x (11 + i))) cI 9 72 (u.2.1)) ++ ([(x 15, .inl (cI, 3, .inl (u.2.2)))]))) (va_A ((xO x X) ++ (fO ((fun i => x (1 + i)))) ++ (pW ((fun i => x (2 + i))) cI P) ++ ([(x 6, .inl (cI, 8, .inl Rw))]) ++ (rW ((fun i => x (7 + i))) cI 3 18 No) ++ (rW ((fun i => x (9 + i))) cI 4 24 Ma) ++ (rW ((fun i => x (11 + i))) cI 9 72 Pa) ++ ([(x 15, .inl (cI, 3, .inl Rf))])) sz)) 0 0 (va_A ((xO x X) ++ (fO ((fun i => x (1 + i)))) ++ (pW ((fun i => x (2 + i))) cI P) ++ ([(x 6, .inl (cI, 8, .inl Rw))]) ++ (rW ((fun i => x (7 + i))) cI 3 18 No) ++ (rW ((fun i => x (9 + i))) cI 4 24 Ma) ++ (rW ((fun i => x (11 + i))) cI 9 72 Pa) ++ ([(x 15, .inl (cI, 3, .inl Rf))])) sz) := by
  refine Met.ofW (cc := cX5_hits) (maxL := 3) (ret := (some .int)) (by decide) rfl ?_
  intro p e s m args below meth c s₁ B hml hv
  obtain ⟨rfl, hsz, hP, hK, hD0, hN⟩ := hv
  have hx := B.exec
  have hb := B.bytes
  have hr := B.returns
  have hts := atoms_spec (ws := wsX5_hits) B.pre
  have hown : s.vm.findClass RX5 = some m.cls := findClass_of_methodNamed B.named
  have hlocks := B.notSynchronized
  subst hsz
  have hD := hD0.self (sz := s.heap.size)
  generalize hAe : va_A ((xO x X) ++ (fO ((fun i => x (1 + i)))) ++ (pW ((fun i => x (2 + i))) cI P) ++ ([(x 6, .inl (cI, 8, .inl Rw))]) ++ (rW ((fun i => x (7 + i))) cI 3 18 No) ++ (rW ((fun i => x (9 + i))) cI 4 24 Ma) ++ (rW ((fun i => x (11 + i))) cI 9 72 Pa) ++ ([(x 15, .inl (cI, 3, .inl Rf))])) s.heap.size = A at hD ⊢
  have hA : ∀ q : Nat, s.heap.size ≤ q → A q := fun q h => by rw [← hAe]; exact Or.inr h
  have hS : va_S A s.heap s.heap [] := va_S.rf
  have hin1 : ∀ w ∈ wsX10, w ∈ wsX5_hits := by decide +kernel
  have hin2 : ∀ w ∈ wsX20, w ∈ wsX5_hits := by decide +kernel
  have hin5 : ∀ w ∈ wsX50, w ∈ wsX5_hits := by decide +kernel
  have lk12 := hts (.fieldLink RX5 12 "PostRounders" "now" "LPostRounders$Field;") (by decide +kernel)
  have lk74 := hts (.fieldLink RX5 74 "PostRounders$Field" "play" "LPostRounders$Play;") (by decide +kernel)
  have lk124 := hts (.fieldLink RX5 124 "PostRounders$Play" "balls" "I") (by decide +kernel)
  have lk127 := hts (.fieldLink RX5 127 "PostRounders$Play" "points" "I") (by decide +kernel)
  have hl := lv_entry ([.ref (x 0), .int h]) (n := 3) (Nat.le_of_ble_eq_true rfl)
  rw [lg_entry_eq]
  generalize (lg_sl ([.ref (x 0), .int h]) ++ List.replicate (3 - (lg_sl ([.ref (x 0), .int h])).length) Slot.unset).toArray = ls at hl ⊢
  have hl : lv_has ls 3 [(0, .ref (x 0)), (1, .int h)] := hl
  obtain ⟨OUT, hO⟩ : ∃ z, z = F_X5_hits P Pa Rf h := ⟨_, rfl⟩
  have hF := hO
  unfold F_X5_hits at hF
  have e_pz := tN_eq pz.1
  have b_pz := pz.2
  have e_ppa := tN_eq ppa.1
  have b_ppa := ppa.2
  refine lv_iload_n hx hb dX5_hits_0 rfl (lv_at hl 1 rfl) ?_
  refine qc_Si (As := [.int h]) (rest := []) ⟨hx, hb, hml, hown, hts⟩ (c_X5_isHit l h) (va_cwS 1 hts gX5_hits_X5_isHit rfl rfl rfl (by decide +kernel) ⟨Nat.le_of_ble_eq_true rfl, Nat.le_of_ble_eq_true rfl⟩) rfl hl.1 rfl (Nat.le_of_ble_eq_true rfl) dX5_hits_1 ⟨Nat.zero_le _, Nat.zero_le _⟩ (fun r_1 hw_1 => ?_)
  subst hw_1
  refine qv_zif_ne (tgt := 14) hx hb dX5_hits_4 (by decide) (fun c_4 => ?_) (fun c_4 => ?_)
  · rw [if_pos c_4] at hF
    obtain ⟨f_h, fa_h, fb_h⟩ := isHit_nat c_4
    have e_h := tN_eq f_h
    refine lv_aload_n hx hb dX5_hits_14 rfl (lv_at hl 0 rfl) ?_
    refine va_get (D := (dC, dI)) (ci := 5) (v := .ref (x 1)) (C := RX5) (T := TX5) (N := 14) hx hb hts hin5 hown hK hP 0 rfl rfl 0 (by decide) lk12 (fun _ h9 => h9) rfl dX5_hits_15 ?_
    refine va_get (D := (dC, dI)) (ci := 1) (v := .ref (x 2)) (C := RX1) (T := TX1) (N := 5) hx hb hts hin1 hown hK hP 1 rfl rfl 0 (by decide) lk74 (fun _ h9 => h9) rfl dX5_hits_18 ?_
    refine qx_Vi (C := RX2) (As := []) (rest := []) (ci := 2) (k0 := 2) (wr := (xO x X) ++ (fO ((fun i => x (1 + i)))) ++ ([(x 6, .inl (cI, 8, .inl Rw))]) ++ (rW ((fun i => x (7 + i))) cI 3 18 No) ++ (rW ((fun i => x (9 + i))) cI 4 24 Ma) ++ (rW ((fun i => x (11 + i))) cI 9 72 Pa) ++ ([(x 15, .inl (cI, 3, .inl Rf))])) (ws2 := fun u => (xO x X) ++ (fO ((fun i => x (1 + i)))) ++ (pW ((fun i => x (2 + i))) cI P) ++ ([(x 6, .inl (cI, 8, .inl Rw))]) ++ (rW ((fun i => x (7 + i))) cI 3 18 No) ++ (rW ((fun i => x (9 + i))) cI 4 24 Ma) ++ (rW ((fun i => x (11 + i))) cI 9 72 Pa) ++ ([(x 15, .inl (cI, 3, .inl Rf))])) [2, 3, 4, 5] [0, 1, 6, 7, 8, 9, 10, 11, 12, 13] [0, 1, 10, 11, 12, 13, 2, 3, 4, 5, 6, 7, 8, 9] ⟨hx, hb, hml, hown, hts⟩ (c_X2_isDone l dC dI (fun i => x (2 + i)) cI s.heap.size P  ) (cwV 0 hts gX5_hits_X2_isDone rfl rfl rfl (by decide +kernel) ⟨Nat.le_of_ble_eq_true rfl, Nat.le_of_ble_eq_true rfl⟩) (hK.sub [0] rfl) hK hP hD hS hA hN rfl rfl (by decide) (by decide) (by decide) (by decide) (fun _ => rfl) rfl rfl rfl rfl hl.1 rfl (Nat.le_of_ble_eq_true rfl) dX5_hits_21 ⟨Nat.zero_le _, Nat.zero_le _⟩ (fun r_21 u_21 H locs hw_21 hP hD hS => ?_)
    have hP : va_P (dC, dI) vwCl ((xO x X) ++ (fO ((fun i => x (1 + i)))) ++ (pW ((fun i => x (2 + i))) cI P) ++ ([(x 6, .inl (cI, 8, .inl Rw))]) ++ (rW ((fun i => x (7 + i))) cI 3 18 No) ++ (rW ((fun i => x (9 + i))) cI 4 24 Ma) ++ (rW ((fun i => x (11 + i))) cI 9 72 Pa) ++ ([(x 15, .inl (cI, 3, .inl Rf))])) H := hP
    have hD : va_D A ((xO x X) ++ (fO ((fun i => x (1 + i)))) ++ (pW ((fun i => x (2 + i))) cI P) ++ ([(x 6, .inl (cI, 8, .inl Rw))]) ++ (rW ((fun i => x (7 + i))) cI 3 18 No) ++ (rW ((fun i => x (9 + i))) cI 4 24 Ma) ++ (rW ((fun i => x (11 + i))) cI 9 72 Pa) ++ ([(x 15, .inl (cI, 3, .inl Rf))])) := hD
    obtain ⟨z_21, hw_21, rfl⟩ := hw_21
    rw [hw_21, let1_mk z_21] at hF
    refine qv_zif_ne (tgt := 43) hx hb dX5_hits_24 (by decide) (fun c_24 => ?_) (fun c_24 => ?_)
    · rw [if_pos c_24] at hF
      refine lv_aload_n hx hb dX5_hits_43 rfl (lv_at hl 0 rfl) ?_
      refine lv_bipush (v := (-3)) hx hb dX5_hits_44 (by decide) ?_
      refine qx_Vi (C := RX5) (As := [.int ((-3))]) (rest := []) (ci := 5) (k0 := 0) (wr := (fO ((fun i => x (1 + i)))) ++ (pW ((fun i => x (2 + i))) cI P) ++ ([(x 6, .inl (cI, 8, .inl Rw))]) ++ (rW ((fun i => x (7 + i))) cI 3 18 No) ++ (rW ((fun i => x (9 + i))) cI 4 24 Ma) ++ (rW ((fun i => x (11 + i))) cI 9 72 Pa)) (ws2 := fun u => (xO x X) ++ (fO ((fun i => x (1 + i)))) ++ (pW ((fun i => x (2 + i))) cI P) ++ ([(x 6, .inl (cI, 8, .inl Rw))]) ++ (rW ((fun i => x (7 + i))) cI 3 18 No) ++ (rW ((fun i => x (9 + i))) cI 4 24 Ma) ++ (rW ((fun i => x (11 + i))) cI 9 72 Pa) ++ ([(x 15, .inl (cI, 3, .inl u))])) [0, 13] [1, 2, 3, 4, 5, 6, 7, 8, 9, 10, 11, 12] [12, 0, 1, 2, 3, 4, 5, 6, 7, 8, 9, 10, 11, 13] ⟨hx, hb, hml, hown, hts⟩ (c_X5_refuse l dC dI x cI H.size X Rf ((-3)) ) (cwV 1 hts gX5_hits_X5_refuse rfl rfl rfl (by decide +kernel) ⟨Nat.le_of_ble_eq_true rfl, Nat.le_of_ble_eq_true rfl⟩) (hK.sub [0] rfl) hK hP hD hS hA hN rfl rfl (by decide) (by decide) (by decide) (by decide) (fun _ => rfl) rfl rfl rfl rfl hl.1 rfl (Nat.le_of_ble_eq_true rfl) dX5_hits_46 ⟨Nat.zero_le _, Nat.zero_le _⟩ (fun r_46 u_46 H locs hw_46 hP hD hS => ?_)
      obtain ⟨Rf_46, rfl⟩ : ∃ z, z = u_46 := ⟨_, rfl⟩
      have hP : va_P (dC, dI) vwCl ((xO x X) ++ (fO ((fun i => x (1 + i)))) ++ (pW ((fun i => x (2 + i))) cI P) ++ ([(x 6, .inl (cI, 8, .inl Rw))]) ++ (rW ((fun i => x (7 + i))) cI 3 18 No) ++ (rW ((fun i => x (9 + i))) cI 4 24 Ma) ++ (rW ((fun i => x (11 + i))) cI 9 72 Pa) ++ ([(x 15, .inl (cI, 3, .inl Rf_46))])) H := hP
      have hD : va_D A ((xO x X) ++ (fO ((fun i => x (1 + i)))) ++ (pW ((fun i => x (2 + i))) cI P) ++ ([(x 6, .inl (cI, 8, .inl Rw))]) ++ (rW ((fun i => x (7 + i))) cI 3 18 No) ++ (rW ((fun i => x (9 + i))) cI 4 24 Ma) ++ (rW ((fun i => x (11 + i))) cI 9 72 Pa) ++ ([(x 15, .inl (cI, 3, .inl Rf_46))])) := hD
      rw [hw_46, let2_mk r_46 Rf_46] at hF
      have hP9 : va_P (dC, dI) vwCl ((xO x X) ++ (fO ((fun i => x (1 + i)))) ++ (pW ((fun i => x (2 + i))) cI P) ++ ([(x 6, .inl (cI, 8, .inl Rw))]) ++ (rW ((fun i => x (7 + i))) cI 3 18 No) ++ (rW ((fun i => x (9 + i))) cI 4 24 Ma) ++ (rW ((fun i => x (11 + i))) cI 9 72 Pa) ++ ([(x 15, .inl (cI, 3, .inl Rf_46))])) H := hP
      exact W.iret (v := r_46) hx hb hr (fun t ht hW => ⟨⟨_, ((P, Pa, Rf_46)), rfl, hO.symm.trans hF, by rw [ht]; exact hP9, va_K.moved hW.alike hK, hD⟩, hS.F ht⟩) hS.2.2 dX5_hits_49
    · rw [if_neg c_24] at hF
      refine lv_aload_n hx hb dX5_hits_27 rfl (lv_at hl 0 rfl) ?_
      refine va_get (D := (dC, dI)) (ci := 5) (v := .ref (x 1)) (C := RX5) (T := TX5) (N := 14) hx hb hts hin5 hown hK hP 0 rfl rfl 0 (by decide) lk12 (fun _ h9 => h9) rfl dX5_hits_28 ?_
      refine va_get (D := (dC, dI)) (ci := 1) (v := .ref (x 2)) (C := RX1) (T := TX1) (N := 5) hx hb hts hin1 hown hK hP 1 rfl rfl 0 (by decide) lk74 (fun _ h9 => h9) rfl dX5_hits_31 ?_
      refine va_get (D := (dC, dI)) (ci := 2) (v := .int (Pbl P)) (C := RX2) (T := TX2) (N := 8) hx hb hts hin2 hown hK hP 2 rfl rfl 7 (by decide) lk124 (fun _ h9 => h9) rfl dX5_hits_34 ?_
      refine lv_sipush (v := nI 9999) hx hb dX5_hits_37 (by decide) ?_
      refine lv_icmp_lt (tgt := 50) hx hb dX5_hits_40 (by decide) (fun c_40 => ?_) (fun c_40 => ?_)
      · rw [if_pos c_40] at hF
        refine lv_aload_n hx hb dX5_hits_50 rfl (lv_at hl 0 rfl) ?_
        refine va_get (D := (dC, dI)) (ci := 5) (v := .ref (x 1)) (C := RX5) (T := TX5) (N := 14) hx hb hts hin5 hown hK hP 0 rfl rfl 0 (by decide) lk12 (fun _ h9 => h9) rfl dX5_hits_51 ?_
        refine va_get (D := (dC, dI)) (ci := 1) (v := .ref (x 2)) (C := RX1) (T := TX1) (N := 5) hx hb hts hin1 hown hK hP 1 rfl rfl 0 (by decide) lk74 (fun _ h9 => h9) rfl dX5_hits_54 ?_
        refine va_get (D := (dC, dI)) (ci := 2) (v := .int (Ppt P)) (C := RX2) (T := TX2) (N := 8) hx hb hts hin2 hown hK hP 2 rfl rfl 6 (by decide) lk127 (fun _ h9 => h9) rfl dX5_hits_57 ?_
        refine lv_istore_n (lv' := [(2, .int (Ppt P)), (0, .ref (x 0)), (1, .int h)]) hx hb dX5_hits_60 rfl hl (by decide) rfl (fun ls hl => ?_)
        refine lv_aload_n hx hb dX5_hits_61 rfl (lv_at hl 1 rfl) ?_
        refine va_get (D := (dC, dI)) (ci := 5) (v := .ref (x 1)) (C := RX5) (T := TX5) (N := 14) hx hb hts hin5 hown hK hP 0 rfl rfl 0 (by decide) lk12 (fun _ h9 => h9) rfl dX5_hits_62 ?_
        refine qx_Vv (C := RX1) (As := []) (rest := []) (ci := 1) (k0 := 1) (wr := (xO x X) ++ ([(x 15, .inl (cI, 3, .inl Rf))])) (ws2 := fun u => (xO x X) ++ (fO ((fun i => x (1 + i)))) ++ (pW ((fun i => x (2 + i))) cI P) ++ ([(x 6, .inl (cI, 8, .inl Rw))]) ++ (rW ((fun i => x (7 + i))) cI 3 18 No) ++ (rW ((fun i => x (9 + i))) cI 4 24 Ma) ++ (rW ((fun i => x (11 + i))) cI 9 72 u) ++ ([(x 15, .inl (cI, 3, .inl Rf))])) [1, 2, 3, 4, 5, 6, 7, 8, 9, 10, 11, 12] [0, 13] [0, 2, 3, 4, 5, 6, 7, 8, 9, 10, 11, 12, 13, 1] ⟨hx, hb, hml, hown, hts⟩ (c_X1_remember l dC dI (fun i => x (1 + i)) cI H.size P Rw No Ma Pa  (ppa : inB (Rus Pa) 72)) (cwV 0 hts gX5_hits_X1_remember rfl rfl rfl (by decide +kernel) ⟨Nat.le_of_ble_eq_true rfl, Nat.le_of_ble_eq_true rfl⟩) (hK.sub [0] rfl) hK hP hD hS hA hN rfl rfl (by decide) (by decide) (by decide) (by decide) (fun _ => rfl) rfl rfl rfl rfl hl.1 rfl (Nat.le_of_ble_eq_true rfl) dX5_hits_65 ⟨Nat.zero_le _, Nat.zero_le _⟩ (fun u_65 H locs hw_65 hP hD hS => ?_)
        obtain ⟨Pa_65, rfl⟩ : ∃ z, z = u_65 := ⟨_, rfl⟩
        have hP : va_P (dC, dI) vwCl ((xO x X) ++ (fO ((fun i => x (1 + i)))) ++ (pW ((fun i => x (2 + i))) cI P) ++ ([(x 6, .inl (cI, 8, .inl Rw))]) ++ (rW ((fun i => x (7 + i))) cI 3 18 No) ++ (rW ((fun i => x (9 + i))) cI 4 24 Ma) ++ (rW ((fun i => x (11 + i))) cI 9 72 Pa_65) ++ ([(x 15, .inl (cI, 3, .inl Rf))])) H := hP
        have hD : va_D A ((xO x X) ++ (fO ((fun i => x (1 + i)))) ++ (pW ((fun i => x (2 + i))) cI P) ++ ([(x 6, .inl (cI, 8, .inl Rw))]) ++ (rW ((fun i => x (7 + i))) cI 3 18 No) ++ (rW ((fun i => x (9 + i))) cI 4 24 Ma) ++ (rW ((fun i => x (11 + i))) cI 9 72 Pa_65) ++ ([(x 15, .inl (cI, 3, .inl Rf))])) := hD
        rw [hw_65, let1_mk Pa_65] at hF
        refine lv_aload_n hx hb dX5_hits_68 rfl (lv_at hl 1 rfl) ?_
        refine va_get (D := (dC, dI)) (ci := 5) (v := .ref (x 1)) (C := RX5) (T := TX5) (N := 14) hx hb hts hin5 hown hK hP 0 rfl rfl 0 (by decide) lk12 (fun _ h9 => h9) rfl dX5_hits_69 ?_
        refine va_get (D := (dC, dI)) (ci := 1) (v := .ref (x 2)) (C := RX1) (T := TX1) (N := 5) hx hb hts hin1 hown hK hP 1 rfl rfl 0 (by decide) lk74 (fun _ h9 => h9) rfl dX5_hits_72 ?_
        refine lv_iload_n hx hb dX5_hits_75 rfl (lv_at hl 2 rfl) ?_
        refine qv_top (e_h) ?_
        refine qx_Vi (C := RX2) (As := [.int (nI (tN h))]) (rest := []) (ci := 2) (k0 := 2) (wr := (xO x X) ++ (fO ((fun i => x (1 + i)))) ++ ([(x 6, .inl (cI, 8, .inl Rw))]) ++ (rW ((fun i => x (7 + i))) cI 3 18 No) ++ (rW ((fun i => x (9 + i))) cI 4 24 Ma) ++ (rW ((fun i => x (11 + i))) cI 9 72 Pa_65) ++ ([(x 15, .inl (cI, 3, .inl Rf))])) (ws2 := fun u => (xO x X) ++ (fO ((fun i => x (1 + i)))) ++ (pW ((fun i => x (2 + i))) cI u) ++ ([(x 6, .inl (cI, 8, .inl Rw))]) ++ (rW ((fun i => x (7 + i))) cI 3 18 No) ++ (rW ((fun i => x (9 + i))) cI 4 24 Ma) ++ (rW ((fun i => x (11 + i))) cI 9 72 Pa_65) ++ ([(x 15, .inl (cI, 3, .inl Rf))])) [2, 3, 4, 5] [0, 1, 6, 7, 8, 9, 10, 11, 12, 13] [0, 1, 10, 11, 12, 13, 2, 3, 4, 5, 6, 7, 8, 9] ⟨hx, hb, hml, hown, hts⟩ (c_X2_ball l dC dI (fun i => x (2 + i)) cI H.size P (nI (tN h)) (pz : inB (Psz P) 6)) (cwV 1 hts gX5_hits_X2_ball rfl rfl rfl (by decide +kernel) ⟨Nat.le_of_ble_eq_true rfl, Nat.le_of_ble_eq_true rfl⟩) (hK.sub [0] rfl) hK hP hD hS hA hN rfl rfl (by decide) (by decide) (by decide) (by decide) (fun _ => rfl) rfl rfl rfl rfl hl.1 rfl (Nat.le_of_ble_eq_true rfl) dX5_hits_76 ⟨Nat.zero_le _, Nat.zero_le _⟩ (fun r_76 u_76 H locs hw_76 hP hD hS => ?_)
        obtain ⟨P_76, rfl⟩ : ∃ z, z = u_76 := ⟨_, rfl⟩
        have hP : va_P (dC, dI) vwCl ((xO x X) ++ (fO ((fun i => x (1 + i)))) ++ (pW ((fun i => x (2 + i))) cI P_76) ++ ([(x 6, .inl (cI, 8, .inl Rw))]) ++ (rW ((fun i => x (7 + i))) cI 3 18 No) ++ (rW ((fun i => x (9 + i))) cI 4 24 Ma) ++ (rW ((fun i => x (11 + i))) cI 9 72 Pa_65) ++ ([(x 15, .inl (cI, 3, .inl Rf))])) H := hP
        have hD : va_D A ((xO x X) ++ (fO ((fun i => x (1 + i)))) ++ (pW ((fun i => x (2 + i))) cI P_76) ++ ([(x 6, .inl (cI, 8, .inl Rw))]) ++ (rW ((fun i => x (7 + i))) cI 3 18 No) ++ (rW ((fun i => x (9 + i))) cI 4 24 Ma) ++ (rW ((fun i => x (11 + i))) cI 9 72 Pa_65) ++ ([(x 15, .inl (cI, 3, .inl Rf))])) := hD
        rw [hw_76, let2_mk r_76 P_76] at hF
        refine lv_pop hx hb dX5_hits_79 rfl ?_
        refine lv_aload_n hx hb dX5_hits_80 rfl (lv_at hl 1 rfl) ?_
        refine va_get (D := (dC, dI)) (ci := 5) (v := .ref (x 1)) (C := RX5) (T := TX5) (N := 14) hx hb hts hin5 hown hK hP 0 rfl rfl 0 (by decide) lk12 (fun _ h9 => h9) rfl dX5_hits_81 ?_
        refine va_get (D := (dC, dI)) (ci := 1) (v := .ref (x 2)) (C := RX1) (T := TX1) (N := 5) hx hb hts hin1 hown hK hP 1 rfl rfl 0 (by decide) lk74 (fun _ h9 => h9) rfl dX5_hits_84 ?_
        refine lv_sipush (v := nI 9999) hx hb dX5_hits_87 (by decide) ?_
        refine lv_aload_n hx hb dX5_hits_90 rfl (lv_at hl 1 rfl) ?_
        refine va_get (D := (dC, dI)) (ci := 5) (v := .ref (x 1)) (C := RX5) (T := TX5) (N := 14) hx hb hts hin5 hown hK hP 0 rfl rfl 0 (by decide) lk12 (fun _ h9 => h9) rfl dX5_hits_91 ?_
        refine va_get (D := (dC, dI)) (ci := 1) (v := .ref (x 2)) (C := RX1) (T := TX1) (N := 5) hx hb hts hin1 hown hK hP 1 rfl rfl 0 (by decide) lk74 (fun _ h9 => h9) rfl dX5_hits_94 ?_
        refine va_get (D := (dC, dI)) (ci := 2) (v := .int (Ppt P_76)) (C := RX2) (T := TX2) (N := 8) hx hb hts hin2 hown hK hP 2 rfl rfl 6 (by decide) lk127 (fun _ h9 => h9) rfl dX5_hits_97 ?_
        refine va_mmin hx hb (hml.trans hl.1.symm) hown (hts (.methodLink RX5 136 Lib.Math.min.name) (by decide +kernel)) (hts (.static Lib.Math.min.name) (by decide +kernel)) (hts (.initialized "java/lang/Math") (by decide +kernel)) (hts (.code Lib.Math.min.name Lib.Math.min.code 2 (some .int)) (by decide +kernel)) (Nat.le_of_ble_eq_true rfl) (Nat.le_of_ble_eq_true rfl) (Nat.zero_le _) (Nat.zero_le _) dX5_hits_100 ?_
        by_cases c_100 : (Ppt P_76) < (nI 9999)
        · rw [if_pos c_100] at hF ⊢
          refine va_put (D := (dC, dI)) (ci := 2) (v := .int (Ppt P_76)) (ty := .int) (C := RX2) (T := TX2) (N := 8) hx hb hts hin2 tyX2 tyX2_ok nmX2 hown hK hP hD hS 2 rfl rfl 6 (by decide) lk127 (fun _ h9 => h9) rfl (by decide +kernel) rfl rfl (Nat.le_of_ble_eq_true rfl) dX5_hits_103 (fun H locs hP hD hS => ?_)
          have hP : va_P (dC, dI) vwCl ((xO x X) ++ (fO ((fun i => x (1 + i)))) ++ (pW ((fun i => x (2 + i))) cI P_76) ++ ([(x 6, .inl (cI, 8, .inl Rw))]) ++ (rW ((fun i => x (7 + i))) cI 3 18 No) ++ (rW ((fun i => x (9 + i))) cI 4 24 Ma) ++ (rW ((fun i => x (11 + i))) cI 9 72 Pa_65) ++ ([(x 15, .inl (cI, 3, .inl Rf))])) H := hP
          have hD : va_D A ((xO x X) ++ (fO ((fun i => x (1 + i)))) ++ (pW ((fun i => x (2 + i))) cI P_76) ++ ([(x 6, .inl (cI, 8, .inl Rw))]) ++ (rW ((fun i => x (7 + i))) cI 3 18 No) ++ (rW ((fun i => x (9 + i))) cI 4 24 Ma) ++ (rW ((fun i => x (11 + i))) cI 9 72 Pa_65) ++ ([(x 15, .inl (cI, 3, .inl Rf))])) := hD
          refine lv_aload_n hx hb dX5_hits_106 rfl (lv_at hl 1 rfl) ?_
          refine va_get (D := (dC, dI)) (ci := 5) (v := .ref (x 1)) (C := RX5) (T := TX5) (N := 14) hx hb hts hin5 hown hK hP 0 rfl rfl 0 (by decide) lk12 (fun _ h9 => h9) rfl dX5_hits_107 ?_
          refine va_get (D := (dC, dI)) (ci := 1) (v := .ref (x 2)) (C := RX1) (T := TX1) (N := 5) hx hb hts hin1 hown hK hP 1 rfl rfl 0 (by decide) lk74 (fun _ h9 => h9) rfl dX5_hits_110 ?_
          refine va_get (D := (dC, dI)) (ci := 2) (v := .int (Ppt P_76)) (C := RX2) (T := TX2) (N := 8) hx hb hts hin2 hown hK hP 2 rfl rfl 6 (by decide) lk127 (fun _ h9 => h9) rfl dX5_hits_113 ?_
          refine lv_iload_n hx hb dX5_hits_116 rfl (lv_at hl 0 rfl) ?_
          refine lv_isub hx hb dX5_hits_117 ?_
          have hP9 : va_P (dC, dI) vwCl ((xO x X) ++ (fO ((fun i => x (1 + i)))) ++ (pW ((fun i => x (2 + i))) cI P_76) ++ ([(x 6, .inl (cI, 8, .inl Rw))]) ++ (rW ((fun i => x (7 + i))) cI 3 18 No) ++ (rW ((fun i => x (9 + i))) cI 4 24 Ma) ++ (rW ((fun i => x (11 + i))) cI 9 72 Pa_65) ++ ([(x 15, .inl (cI, 3, .inl Rf))])) H := hP
          exact W.iret (v := (Ppt P_76) - (Ppt P)) hx hb hr (fun t ht hW => ⟨⟨_, ((P_76, Pa_65, Rf)), rfl, hO.symm.trans hF, by rw [ht]; exact hP9, va_K.moved hW.alike hK, hD⟩, hS.F ht⟩) hS.2.2 dX5_hits_118
        · rw [if_neg c_100] at hF ⊢
          refine va_put (D := (dC, dI)) (ci := 2) (v := .int (nI 9999)) (ty := .int) (C := RX2) (T := TX2) (N := 8) hx hb hts hin2 tyX2 tyX2_ok nmX2 hown hK hP hD hS 2 rfl rfl 6 (by decide) lk127 (fun _ h9 => h9) rfl (by decide +kernel) rfl rfl (Nat.le_of_ble_eq_true rfl) dX5_hits_103 (fun H locs hP hD hS => ?_)
          have hP : va_P (dC, dI) vwCl ((xO x X) ++ (fO ((fun i => x (1 + i)))) ++ (pW ((fun i => x (2 + i))) cI ((Pbo P_76, Psz P_76, Pkd P_76, Plg P_76, Pwh P_76, Pnx P_76, nI 9999, Pbl P_76))) ++ ([(x 6, .inl (cI, 8, .inl Rw))]) ++ (rW ((fun i => x (7 + i))) cI 3 18 No) ++ (rW ((fun i => x (9 + i))) cI 4 24 Ma) ++ (rW ((fun i => x (11 + i))) cI 9 72 Pa_65) ++ ([(x 15, .inl (cI, 3, .inl Rf))])) H := hP
          have hD : va_D A ((xO x X) ++ (fO ((fun i => x (1 + i)))) ++ (pW ((fun i => x (2 + i))) cI ((Pbo P_76, Psz P_76, Pkd P_76, Plg P_76, Pwh P_76, Pnx P_76, nI 9999, Pbl P_76))) ++ ([(x 6, .inl (cI, 8, .inl Rw))]) ++ (rW ((fun i => x (7 + i))) cI 3 18 No) ++ (rW ((fun i => x (9 + i))) cI 4 24 Ma) ++ (rW ((fun i => x (11 + i))) cI 9 72 Pa_65) ++ ([(x 15, .inl (cI, 3, .inl Rf))])) := hD
          refine lv_aload_n hx hb dX5_hits_106 rfl (lv_at hl 1 rfl) ?_
          refine va_get (D := (dC, dI)) (ci := 5) (v := .ref (x 1)) (C := RX5) (T := TX5) (N := 14) hx hb hts hin5 hown hK hP 0 rfl rfl 0 (by decide) lk12 (fun _ h9 => h9) rfl dX5_hits_107 ?_
          refine va_get (D := (dC, dI)) (ci := 1) (v := .ref (x 2)) (C := RX1) (T := TX1) (N := 5) hx hb hts hin1 hown hK hP 1 rfl rfl 0 (by decide) lk74 (fun _ h9 => h9) rfl dX5_hits_110 ?_
          refine va_get (D := (dC, dI)) (ci := 2) (v := .int (nI 9999)) (C := RX2) (T := TX2) (N := 8) hx hb hts hin2 hown hK hP 2 rfl rfl 6 (by decide) lk127 (fun _ h9 => h9) rfl dX5_hits_113 ?_
          refine lv_iload_n hx hb dX5_hits_116 rfl (lv_at hl 0 rfl) ?_
          refine lv_isub hx hb dX5_hits_117 ?_
          have hP9 : va_P (dC, dI) vwCl ((xO x X) ++ (fO ((fun i => x (1 + i)))) ++ (pW ((fun i => x (2 + i))) cI ((Pbo P_76, Psz P_76, Pkd P_76, Plg P_76, Pwh P_76, Pnx P_76, nI 9999, Pbl P_76))) ++ ([(x 6, .inl (cI, 8, .inl Rw))]) ++ (rW ((fun i => x (7 + i))) cI 3 18 No) ++ (rW ((fun i => x (9 + i))) cI 4 24 Ma) ++ (rW ((fun i => x (11 + i))) cI 9 72 Pa_65) ++ ([(x 15, .inl (cI, 3, .inl Rf))])) H := hP
          exact W.iret (v := (nI 9999) - (Ppt P)) hx hb hr (fun t ht hW => ⟨⟨_, (((Pbo P_76, Psz P_76, Pkd P_76, Plg P_76, Pwh P_76, Pnx P_76, nI 9999, Pbl P_76), Pa_65, Rf)), rfl, hO.symm.trans hF, by rw [ht]; exact hP9, va_K.moved hW.alike hK, hD⟩, hS.F ht⟩) hS.2.2 dX5_hits_118
      · rw [if_neg c_40] at hF
        refine lv_aload_n hx hb dX5_hits_43 rfl (lv_at hl 0 rfl) ?_
        refine lv_bipush (v := (-3)) hx hb dX5_hits_44 (by decide) ?_
        refine qx_Vi (C := RX5) (As := [.int ((-3))]) (rest := []) (ci := 5) (k0 := 0) (wr := (fO ((fun i => x (1 + i)))) ++ (pW ((fun i => x (2 + i))) cI P) ++ ([(x 6, .inl (cI, 8, .inl Rw))]) ++ (rW ((fun i => x (7 + i))) cI 3 18 No) ++ (rW ((fun i => x (9 + i))) cI 4 24 Ma) ++ (rW ((fun i => x (11 + i))) cI 9 72 Pa)) (ws2 := fun u => (xO x X) ++ (fO ((fun i => x (1 + i)))) ++ (pW ((fun i => x (2 + i))) cI P) ++ ([(x 6, .inl (cI, 8, .inl Rw))]) ++ (rW ((fun i => x (7 + i))) cI 3 18 No) ++ (rW ((fun i => x (9 + i))) cI 4 24 Ma) ++ (rW ((fun i => x (11 + i))) cI 9 72 Pa) ++ ([(x 15, .inl (cI, 3, .inl u))])) [0, 13] [1, 2, 3, 4, 5, 6, 7, 8, 9, 10, 11, 12] [12, 0, 1, 2, 3, 4, 5, 6, 7, 8, 9, 10, 11, 13] ⟨hx, hb, hml, hown, hts⟩ (c_X5_refuse l dC dI x cI H.size X Rf ((-3)) ) (cwV 1 hts gX5_hits_X5_refuse rfl rfl rfl (by decide +kernel) ⟨Nat.le_of_ble_eq_true rfl, Nat.le_of_ble_eq_true rfl⟩) (hK.sub [0] rfl) hK hP hD hS hA hN rfl rfl (by decide) (by decide) (by decide) (by decide) (fun _ => rfl) rfl rfl rfl rfl hl.1 rfl (Nat.le_of_ble_eq_true rfl) dX5_hits_46 ⟨Nat.zero_le _, Nat.zero_le _⟩ (fun r_46 u_46 H locs hw_46 hP hD hS => ?_)
        obtain ⟨Rf_46, rfl⟩ : ∃ z, z = u_46 := ⟨_, rfl⟩
        have hP : va_P (dC, dI) vwCl ((xO x X) ++ (fO ((fun i => x (1 + i)))) ++ (pW ((fun i => x (2 + i))) cI P) ++ ([(x 6, .inl (cI, 8, .inl Rw))]) ++ (rW ((fun i => x (7 + i))) cI 3 18 No) ++ (rW ((fun i => x (9 + i))) cI 4 24 Ma) ++ (rW ((fun i => x (11 + i))) cI 9 72 Pa) ++ ([(x 15, .inl (cI, 3, .inl Rf_46))])) H := hP
        have hD : va_D A ((xO x X) ++ (fO ((fun i => x (1 + i)))) ++ (pW ((fun i => x (2 + i))) cI P) ++ ([(x 6, .inl (cI, 8, .inl Rw))]) ++ (rW ((fun i => x (7 + i))) cI 3 18 No) ++ (rW ((fun i => x (9 + i))) cI 4 24 Ma) ++ (rW ((fun i => x (11 + i))) cI 9 72 Pa) ++ ([(x 15, .inl (cI, 3, .inl Rf_46))])) := hD
        rw [hw_46, let2_mk r_46 Rf_46] at hF
        have hP9 : va_P (dC, dI) vwCl ((xO x X) ++ (fO ((fun i => x (1 + i)))) ++ (pW ((fun i => x (2 + i))) cI P) ++ ([(x 6, .inl (cI, 8, .inl Rw))]) ++ (rW ((fun i => x (7 + i))) cI 3 18 No) ++ (rW ((fun i => x (9 + i))) cI 4 24 Ma) ++ (rW ((fun i => x (11 + i))) cI 9 72 Pa) ++ ([(x 15, .inl (cI, 3, .inl Rf_46))])) H := hP
        exact W.iret (v := r_46) hx hb hr (fun t ht hW => ⟨⟨_, ((P, Pa, Rf_46)), rfl, hO.symm.trans hF, by rw [ht]; exact hP9, va_K.moved hW.alike hK, hD⟩, hS.F ht⟩) hS.2.2 dX5_hits_49
  · rw [if_neg c_4] at hF
    refine lv_aload_n hx hb dX5_hits_7 rfl (lv_at hl 0 rfl) ?_
    refine lv_bipush (v := (-2)) hx hb dX5_hits_8 (by decide) ?_
    refine qx_Vi (C := RX5) (As := [.int ((-2))]) (rest := []) (ci := 5) (k0 := 0) (wr := (fO ((fun i => x (1 + i)))) ++ (pW ((fun i => x (2 + i))) cI P) ++ ([(x 6, .inl (cI, 8, .inl Rw))]) ++ (rW ((fun i => x (7 + i))) cI 3 18 No) ++ (rW ((fun i => x (9 + i))) cI 4 24 Ma) ++ (rW ((fun i => x (11 + i))) cI 9 72 Pa)) (ws2 := fun u => (xO x X) ++ (fO ((fun i => x (1 + i)))) ++ (pW ((fun i => x (2 + i))) cI P) ++ ([(x 6, .inl (cI, 8, .inl Rw))]) ++ (rW ((fun i => x (7 + i))) cI 3 18 No) ++ (rW ((fun i => x (9 + i))) cI 4 24 Ma) ++ (rW ((fun i => x (11 + i))) cI 9 72 Pa) ++ ([(x 15, .inl (cI, 3, .inl u))])) [0, 13] [1, 2, 3, 4, 5, 6, 7, 8, 9, 10, 11, 12] [12, 0, 1, 2, 3, 4, 5, 6, 7, 8, 9, 10, 11, 13] ⟨hx, hb, hml, hown, hts⟩ (c_X5_refuse l dC dI x cI s.heap.size X Rf ((-2)) ) (cwV 1 hts gX5_hits_X5_refuse rfl rfl rfl (by decide +kernel) ⟨Nat.le_of_ble_eq_true rfl, Nat.le_of_ble_eq_true rfl⟩) (hK.sub [0] rfl) hK hP hD hS hA hN rfl rfl (by decide) (by decide) (by decide) (by decide) (fun _ => rfl) rfl rfl rfl rfl hl.1 rfl (Nat.le_of_ble_eq_true rfl) dX5_hits_10 ⟨Nat.zero_le _, Nat.zero_le _⟩ (fun r_10 u_10 H locs hw_10 hP hD hS => ?_)
    obtain ⟨Rf_10, rfl⟩ : ∃ z, z = u_10 := ⟨_, rfl⟩
    have hP : va_P (dC, dI) vwCl ((xO x X) ++ (fO ((fun i => x (1 + i)))) ++ (pW ((fun i => x (2 + i))) cI P) ++ ([(x 6, .inl (cI, 8, .inl Rw))]) ++ (rW ((fun i => x (7 + i))) cI 3 18 No) ++ (rW ((fun i => x (9 + i))) cI 4 24 Ma) ++ (rW ((fun i => x (11 + i))) cI 9 72 Pa) ++ ([(x 15, .inl (cI, 3, .inl Rf_10))])) H := hP
    have hD : va_D A ((xO x X) ++ (fO ((fun i => x (1 + i)))) ++ (pW ((fun i => x (2 + i))) cI P) ++ ([(x 6, .inl (cI, 8, .inl Rw))]) ++ (rW ((fun i => x (7 + i))) cI 3 18 No) ++ (rW ((fun i => x (9 + i))) cI 4 24 Ma) ++ (rW ((fun i => x (11 + i))) cI 9 72 Pa) ++ ([(x 15, .inl (cI, 3, .inl Rf_10))])) := hD
    rw [hw_10, let2_mk r_10 Rf_10] at hF
    have hP9 : va_P (dC, dI) vwCl ((xO x X) ++ (fO ((fun i => x (1 + i)))) ++ (pW ((fun i => x (2 + i))) cI P) ++ ([(x 6, .inl (cI, 8, .inl Rw))]) ++ (rW ((fun i => x (7 + i))) cI 3 18 No) ++ (rW ((fun i => x (9 + i))) cI 4 24 Ma) ++ (rW ((fun i => x (11 + i))) cI 9 72 Pa) ++ ([(x 15, .inl (cI, 3, .inl Rf_10))])) H := hP
    exact W.iret (v := r_10) hx hb hr (fun t ht hW => ⟨⟨_, ((P, Pa, Rf_10)), rfl, hO.symm.trans hF, by rw [ht]; exact hP9, va_K.moved hW.alike hK, hD⟩, hS.F ht⟩) hS.2.2 dX5_hits_13
def F_X5_sends (P : pS) (Pa : rS) (Rf : Nat → Int32) (i : Int32) : Int32 × (pS) × (rS) × (Nat → Int32) := let1 (F_X5_isBatter P i) (fun z_2 => if z_2 = true then (if ((Pwh P) (tN i)) = 0 then (if (Pnx P) = (nI (tN i)) then let2 (F_X5_refuse Rf ((-3))) (fun r_47 Rf_47 => (r_47, P, Pa, Rf_47)) else let1 (F_X1_remember P Pa) (fun Pa_66 => (Pnx P, ((Pbo P, Psz P, Pkd P, Plg P, Pwh P, nI (tN i), Ppt P, Pbl P)), Pa_66, Rf))) else let2 (F_X5_refuse Rf ((-3))) (fun r_47 Rf_47 => (r_47, P, Pa, Rf_47))) else let2 (F_X5_refuse Rf ((-2))) (fun r_11 Rf_11 => (r_11, P, Pa, Rf_11)))
set_option maxHeartbeats 4000000 in
set_option maxRecDepth 100000 in
theorem c_X5_sends (l : Launch) (dC : Nat → ClassId) (dI : Nat → Nat → Nat) (x : Nat → Nat) (cI : ClassId) (sz : Nat) (X : xS) (P : pS) (Rw : Nat → Int32) (No : rS) (Ma : rS) (Pa : rS) (Rf : Nat → Int32) (i : Int32) (pz : inB (Psz P) 6) (ppa : inB (Rus Pa) 72) : Met l yX5_sends wsX5_sends { frames := 3, cells := 0, slots := 0, locals := 101 } (xPc (dC, dI) vwCl (xT cI) ((xO x X) ++ (fO ((fun i => x (1 + i)))) ++ (pW ((fun i => x (2 + i))) cI P) ++ ([(x 6, .inl (cI, 8, .inl Rw))]) ++ (rW ((fun i => x (7 + i))) cI 3 18 No) ++ (rW ((fun i => x (9 + i))) cI 4 24 Ma) ++ (rW ((fun i => x (11 + i))) cI 9 72 Pa) ++ ([(x 15, .inl (cI, 3, .inl Rf))])) sz [.ref (x 0), .int i]) (va_Qi (fun (r : Int32) (u : (pS) × (rS) × (Nat → Int32)) => F_X5_sends P Pa Rf i = (r, u)) (mB (dC, dI) vwCl (xT cI) (va_A ((xO x X) ++ (fO ((fun i => x (1 + i)))) ++ (pW ((fun i => x (2 + i))) cI P) ++ ([(x 6, .inl (cI, 8, .inl Rw))]) ++ (rW ((fun i => x (7 + i))) cI 3 18 No) ++ (rW ((fun i => x (9 + i))) cI 4 24 Ma) ++ (rW ((fun i => x (11 + i))) cI 9 72 Pa) ++ ([(x 15, .inl (cI, 3, .inl Rf))])) sz) (fun u => (xO x X) ++ (fO ((fun i => x (1 + i)))) ++ (pW ((fun i => x (2 + i))) cI (u.1)) ++ ([(x 6, .inl (cI, 8, .inl Rw))]) ++ (rW ((fun i => x (7 + i))) cI 3 18 No) ++ (rW ((fun i => x (9 + i))) cI 4 24 Ma) ++ (rW ((fun i => x (11 + i))) cI 9 72 (u.2.1)) ++ ([(x 15, .inl (cI, 3, .inl (u.2.2)))]))) (va_A ((xO x X) ++ (fO ((fun i => x (1 + i)))) ++ (pW ((fun i => x (2 + i))) cI P) ++ ([(x 6, .inl (cI, 8, .inl Rw))]) ++ (rW ((fun i => x (7 + i))) cI 3 18 No) ++ (rW ((fun i => x (9 + i))) cI 4 24 Ma) ++ (rW ((fun i => x (11 + i))) cI 9 72 Pa) ++ ([(x 15, .inl (cI, 3, .inl Rf))])) sz)) 0 0 (va_A ((xO x X) ++ (fO ((fun i => x (1 + i)))) ++ (pW ((fun i => x (2 + i))) cI P) ++ ([(x 6, .inl (cI, 8, .inl Rw))]) ++ (rW ((fun i => x (7 + i))) cI 3 18 No) ++ (rW ((fun i => x (9 + i))) cI 4 24 Ma) ++ (rW ((fun i => x (11 + i))) cI 9 72 Pa) ++ ([(x 15, .inl (cI, 3, .inl Rf))])) sz) := by
  refine Met.ofW (cc := cX5_sends) (maxL := 3) (ret := (some .int)) (by decide) rfl ?_
  intro p e s m args below meth c s₁ B hml hv
  obtain ⟨rfl, hsz, hP, hK, hD0, hN⟩ := hv
  have hx := B.exec
  have hb := B.bytes
  have hr := B.returns
  have hts := atoms_spec (ws := wsX5_sends) B.pre
  have hown : s.vm.findClass RX5 = some m.cls := findClass_of_methodNamed B.named
  have hlocks := B.notSynchronized
  subst hsz
  have hD := hD0.self (sz := s.heap.size)
  generalize hAe : va_A ((xO x X) ++ (fO ((fun i => x (1 + i)))) ++ (pW ((fun i => x (2 + i))) cI P) ++ ([(x 6, .inl (cI, 8, .inl Rw))]) ++ (rW ((fun i => x (7 + i))) cI 3 18 No) ++ (rW ((fun i => x (9 + i))) cI 4 24 Ma) ++ (rW ((fun i => x (11 + i))) cI 9 72 Pa) ++ ([(x 15, .inl (cI, 3, .inl Rf))])) s.heap.size = A at hD ⊢
  have hA : ∀ q : Nat, s.heap.size ≤ q → A q := fun q h => by rw [← hAe]; exact Or.inr h
  have hS : va_S A s.heap s.heap [] := va_S.rf
  have hin1 : ∀ w ∈ wsX10, w ∈ wsX5_sends := by decide +kernel
  have hin2 : ∀ w ∈ wsX20, w ∈ wsX5_sends := by decide +kernel
  have hin5 : ∀ w ∈ wsX50, w ∈ wsX5_sends := by decide +kernel
  have lk12 := hts (.fieldLink RX5 12 "PostRounders" "now" "LPostRounders$Field;") (by decide +kernel)
  have lk74 := hts (.fieldLink RX5 74 "PostRounders$Field" "play" "LPostRounders$Play;") (by decide +kernel)
  have lk144 := hts (.fieldLink RX5 144 "PostRounders$Play" "where" "[I") (by decide +kernel)
  have lk147 := hts (.fieldLink RX5 147 "PostRounders$Play" "next" "I") (by decide +kernel)
  have hl := lv_entry ([.ref (x 0), .int i]) (n := 3) (Nat.le_of_ble_eq_true rfl)
  rw [lg_entry_eq]
  generalize (lg_sl ([.ref (x 0), .int i]) ++ List.replicate (3 - (lg_sl ([.ref (x 0), .int i])).length) Slot.unset).toArray = ls at hl ⊢
  have hl : lv_has ls 3 [(0, .ref (x 0)), (1, .int i)] := hl
  obtain ⟨OUT, hO⟩ : ∃ z, z = F_X5_sends P Pa Rf i := ⟨_, rfl⟩
  have hF := hO
  unfold F_X5_sends at hF
  have e_pz := tN_eq pz.1
  have b_pz := pz.2
  have e_ppa := tN_eq ppa.1
  have b_ppa := ppa.2
  refine lv_aload_n hx hb dX5_sends_0 rfl (lv_at hl 0 rfl) ?_
  refine lv_iload_n hx hb dX5_sends_1 rfl (lv_at hl 1 rfl) ?_
  refine qx_Vi (C := RX5) (As := [.int i]) (rest := []) (ci := 5) (k0 := 0) (wr := ([(x 6, .inl (cI, 8, .inl Rw))]) ++ (rW ((fun i => x (7 + i))) cI 3 18 No) ++ (rW ((fun i => x (9 + i))) cI 4 24 Ma) ++ (rW ((fun i => x (11 + i))) cI 9 72 Pa) ++ ([(x 15, .inl (cI, 3, .inl Rf))])) (ws2 := fun u => (xO x X) ++ (fO ((fun i => x (1 + i)))) ++ (pW ((fun i => x (2 + i))) cI P) ++ ([(x 6, .inl (cI, 8, .inl Rw))]) ++ (rW ((fun i => x (7 + i))) cI 3 18 No) ++ (rW ((fun i => x (9 + i))) cI 4 24 Ma) ++ (rW ((fun i => x (11 + i))) cI 9 72 Pa) ++ ([(x 15, .inl (cI, 3, .inl Rf))])) [0, 1, 2, 3, 4, 5] [6, 7, 8, 9, 10, 11, 12, 13] [8, 9, 10, 11, 12, 13, 0, 1, 2, 3, 4, 5, 6, 7] ⟨hx, hb, hml, hown, hts⟩ (c_X5_isBatter l dC dI x cI s.heap.size X P i (pz : inB (Psz P) 6)) (cwV 1 hts gX5_sends_X5_isBatter rfl rfl rfl (by decide +kernel) ⟨Nat.le_of_ble_eq_true rfl, Nat.le_of_ble_eq_true rfl⟩) (hK.sub [0] rfl) hK hP hD hS hA hN rfl rfl (by decide) (by decide) (by decide) (by decide) (fun _ => rfl) rfl rfl rfl rfl hl.1 rfl (Nat.le_of_ble_eq_true rfl) dX5_sends_2 ⟨Nat.zero_le _, Nat.zero_le _⟩ (fun r_2 u_2 H locs hw_2 hP hD hS => ?_)
  have hP : va_P (dC, dI) vwCl ((xO x X) ++ (fO ((fun i => x (1 + i)))) ++ (pW ((fun i => x (2 + i))) cI P) ++ ([(x 6, .inl (cI, 8, .inl Rw))]) ++ (rW ((fun i => x (7 + i))) cI 3 18 No) ++ (rW ((fun i => x (9 + i))) cI 4 24 Ma) ++ (rW ((fun i => x (11 + i))) cI 9 72 Pa) ++ ([(x 15, .inl (cI, 3, .inl Rf))])) H := hP
  have hD : va_D A ((xO x X) ++ (fO ((fun i => x (1 + i)))) ++ (pW ((fun i => x (2 + i))) cI P) ++ ([(x 6, .inl (cI, 8, .inl Rw))]) ++ (rW ((fun i => x (7 + i))) cI 3 18 No) ++ (rW ((fun i => x (9 + i))) cI 4 24 Ma) ++ (rW ((fun i => x (11 + i))) cI 9 72 Pa) ++ ([(x 15, .inl (cI, 3, .inl Rf))])) := hD
  obtain ⟨z_2, hw_2, rfl⟩ := hw_2
  rw [hw_2, let1_mk z_2] at hF
  refine qv_zif_ne (tgt := 15) hx hb dX5_sends_5 (by decide) (fun c_5 => ?_) (fun c_5 => ?_)
  · rw [if_pos c_5] at hF
    obtain ⟨f_i, fb_i⟩ := isBatter2 hw_2 c_5 pz
    have e_i := tN_eq f_i
    refine lv_aload_n hx hb dX5_sends_15 rfl (lv_at hl 0 rfl) ?_
    refine va_get (D := (dC, dI)) (ci := 5) (v := .ref (x 1)) (C := RX5) (T := TX5) (N := 14) hx hb hts hin5 hown hK hP 0 rfl rfl 0 (by decide) lk12 (fun _ h9 => h9) rfl dX5_sends_16 ?_
    refine va_get (D := (dC, dI)) (ci := 1) (v := .ref (x 2)) (C := RX1) (T := TX1) (N := 5) hx hb hts hin1 hown hK hP 1 rfl rfl 0 (by decide) lk74 (fun _ h9 => h9) rfl dX5_sends_19 ?_
    refine va_get (D := (dC, dI)) (ci := 2) (v := .ref (x 5)) (C := RX2) (T := TX2) (N := 8) hx hb hts hin2 hown hK hP 2 rfl rfl 4 (by decide) lk144 (fun _ h9 => h9) rfl dX5_sends_22 ?_
    refine lv_iload_n hx hb dX5_sends_25 rfl (lv_at hl 1 rfl) ?_
    refine qv_top (e_i) ?_
    refine qv_ald (v := (Pwh P) (tN i)) hx hb hK hP 5 0 rfl rfl (by omega) (by decide) (rfl) dX5_sends_26 ?_
    refine lv_if_ne (tgt := 44) hx hb dX5_sends_27 (by decide) (fun c_27 => ?_) (fun c_27 => ?_)
    · rw [if_neg c_27] at hF
      refine lv_aload_n hx hb dX5_sends_44 rfl (lv_at hl 0 rfl) ?_
      refine lv_bipush (v := (-3)) hx hb dX5_sends_45 (by decide) ?_
      refine qx_Vi (C := RX5) (As := [.int ((-3))]) (rest := []) (ci := 5) (k0 := 0) (wr := (fO ((fun i => x (1 + i)))) ++ (pW ((fun i => x (2 + i))) cI P) ++ ([(x 6, .inl (cI, 8, .inl Rw))]) ++ (rW ((fun i => x (7 + i))) cI 3 18 No) ++ (rW ((fun i => x (9 + i))) cI 4 24 Ma) ++ (rW ((fun i => x (11 + i))) cI 9 72 Pa)) (ws2 := fun u => (xO x X) ++ (fO ((fun i => x (1 + i)))) ++ (pW ((fun i => x (2 + i))) cI P) ++ ([(x 6, .inl (cI, 8, .inl Rw))]) ++ (rW ((fun i => x (7 + i))) cI 3 18 No) ++ (rW ((fun i => x (9 + i))) cI 4 24 Ma) ++ (rW ((fun i => x (11 + i))) cI 9 72 Pa) ++ ([(x 15, .inl (cI, 3, .inl u))])) [0, 13] [1, 2, 3, 4, 5, 6, 7, 8, 9, 10, 11, 12] [12, 0, 1, 2, 3, 4, 5, 6, 7, 8, 9, 10, 11, 13] ⟨hx, hb, hml, hown, hts⟩ (c_X5_refuse l dC dI x cI H.size X Rf ((-3)) ) (cwV 1 hts gX5_sends_X5_refuse rfl rfl rfl (by decide +kernel) ⟨Nat.le_of_ble_eq_true rfl, Nat.le_of_ble_eq_true rfl⟩) (hK.sub [0] rfl) hK hP hD hS hA hN rfl rfl (by decide) (by decide) (by decide) (by decide) (fun _ => rfl) rfl rfl rfl rfl hl.1 rfl (Nat.le_of_ble_eq_true rfl) dX5_sends_47 ⟨Nat.zero_le _, Nat.zero_le _⟩ (fun r_47 u_47 H locs hw_47 hP hD hS => ?_)
      obtain ⟨Rf_47, rfl⟩ : ∃ z, z = u_47 := ⟨_, rfl⟩
      have hP : va_P (dC, dI) vwCl ((xO x X) ++ (fO ((fun i => x (1 + i)))) ++ (pW ((fun i => x (2 + i))) cI P) ++ ([(x 6, .inl (cI, 8, .inl Rw))]) ++ (rW ((fun i => x (7 + i))) cI 3 18 No) ++ (rW ((fun i => x (9 + i))) cI 4 24 Ma) ++ (rW ((fun i => x (11 + i))) cI 9 72 Pa) ++ ([(x 15, .inl (cI, 3, .inl Rf_47))])) H := hP
      have hD : va_D A ((xO x X) ++ (fO ((fun i => x (1 + i)))) ++ (pW ((fun i => x (2 + i))) cI P) ++ ([(x 6, .inl (cI, 8, .inl Rw))]) ++ (rW ((fun i => x (7 + i))) cI 3 18 No) ++ (rW ((fun i => x (9 + i))) cI 4 24 Ma) ++ (rW ((fun i => x (11 + i))) cI 9 72 Pa) ++ ([(x 15, .inl (cI, 3, .inl Rf_47))])) := hD
      rw [hw_47, let2_mk r_47 Rf_47] at hF
      have hP9 : va_P (dC, dI) vwCl ((xO x X) ++ (fO ((fun i => x (1 + i)))) ++ (pW ((fun i => x (2 + i))) cI P) ++ ([(x 6, .inl (cI, 8, .inl Rw))]) ++ (rW ((fun i => x (7 + i))) cI 3 18 No) ++ (rW ((fun i => x (9 + i))) cI 4 24 Ma) ++ (rW ((fun i => x (11 + i))) cI 9 72 Pa) ++ ([(x 15, .inl (cI, 3, .inl Rf_47))])) H := hP
      exact W.iret (v := r_47) hx hb hr (fun t ht hW => ⟨⟨_, ((P, Pa, Rf_47)), rfl, hO.symm.trans hF, by rw [ht]; exact hP9, va_K.moved hW.alike hK, hD⟩, hS.F ht⟩) hS.2.2 dX5_sends_50
    · rw [if_pos c_27] at hF
      refine lv_aload_n hx hb dX5_sends_30 rfl (lv_at hl 0 rfl) ?_
      refine va_get (D := (dC, dI)) (ci := 5) (v := .ref (x 1)) (C := RX5) (T := TX5) (N := 14) hx hb hts hin5 hown hK hP 0 rfl rfl 0 (by decide) lk12 (fun _ h9 => h9) rfl dX5_sends_31 ?_
      refine va_get (D := (dC, dI)) (ci := 1) (v := .ref (x 2)) (C := RX1) (T := TX1) (N := 5) hx hb hts hin1 hown hK hP 1 rfl rfl 0 (by decide) lk74 (fun _ h9 => h9) rfl dX5_sends_34 ?_
      refine va_get (D := (dC, dI)) (ci := 2) (v := .int (Pnx P)) (C := RX2) (T := TX2) (N := 8) hx hb hts hin2 hown hK hP 2 rfl rfl 5 (by decide) lk147 (fun _ h9 => h9) rfl dX5_sends_37 ?_
      refine lv_iload_n hx hb dX5_sends_40 rfl (lv_at hl 1 rfl) ?_
      refine qv_top (e_i) ?_
      refine lv_icmp_ne (tgt := 51) hx hb dX5_sends_41 (by decide) (fun c_41 => ?_) (fun c_41 => ?_)
      · rw [if_neg c_41] at hF
        refine lv_aload_n hx hb dX5_sends_51 rfl (lv_at hl 0 rfl) ?_
        refine va_get (D := (dC, dI)) (ci := 5) (v := .ref (x 1)) (C := RX5) (T := TX5) (N := 14) hx hb hts hin5 hown hK hP 0 rfl rfl 0 (by decide) lk12 (fun _ h9 => h9) rfl dX5_sends_52 ?_
        refine va_get (D := (dC, dI)) (ci := 1) (v := .ref (x 2)) (C := RX1) (T := TX1) (N := 5) hx hb hts hin1 hown hK hP 1 rfl rfl 0 (by decide) lk74 (fun _ h9 => h9) rfl dX5_sends_55 ?_
        refine va_get (D := (dC, dI)) (ci := 2) (v := .int (Pnx P)) (C := RX2) (T := TX2) (N := 8) hx hb hts hin2 hown hK hP 2 rfl rfl 5 (by decide) lk147 (fun _ h9 => h9) rfl dX5_sends_58 ?_
        refine lv_istore_n (lv' := [(2, .int (Pnx P)), (0, .ref (x 0)), (1, .int i)]) hx hb dX5_sends_61 rfl hl (by decide) rfl (fun ls hl => ?_)
        refine lv_aload_n hx hb dX5_sends_62 rfl (lv_at hl 1 rfl) ?_
        refine va_get (D := (dC, dI)) (ci := 5) (v := .ref (x 1)) (C := RX5) (T := TX5) (N := 14) hx hb hts hin5 hown hK hP 0 rfl rfl 0 (by decide) lk12 (fun _ h9 => h9) rfl dX5_sends_63 ?_
        refine qx_Vv (C := RX1) (As := []) (rest := []) (ci := 1) (k0 := 1) (wr := (xO x X) ++ ([(x 15, .inl (cI, 3, .inl Rf))])) (ws2 := fun u => (xO x X) ++ (fO ((fun i => x (1 + i)))) ++ (pW ((fun i => x (2 + i))) cI P) ++ ([(x 6, .inl (cI, 8, .inl Rw))]) ++ (rW ((fun i => x (7 + i))) cI 3 18 No) ++ (rW ((fun i => x (9 + i))) cI 4 24 Ma) ++ (rW ((fun i => x (11 + i))) cI 9 72 u) ++ ([(x 15, .inl (cI, 3, .inl Rf))])) [1, 2, 3, 4, 5, 6, 7, 8, 9, 10, 11, 12] [0, 13] [0, 2, 3, 4, 5, 6, 7, 8, 9, 10, 11, 12, 13, 1] ⟨hx, hb, hml, hown, hts⟩ (c_X1_remember l dC dI (fun i => x (1 + i)) cI H.size P Rw No Ma Pa  (ppa : inB (Rus Pa) 72)) (cwV 0 hts gX5_sends_X1_remember rfl rfl rfl (by decide +kernel) ⟨Nat.le_of_ble_eq_true rfl, Nat.le_of_ble_eq_true rfl⟩) (hK.sub [0] rfl) hK hP hD hS hA hN rfl rfl (by decide) (by decide) (by decide) (by decide) (fun _ => rfl) rfl rfl rfl rfl hl.1 rfl (Nat.le_of_ble_eq_true rfl) dX5_sends_66 ⟨Nat.zero_le _, Nat.zero_le _⟩ (fun u_66 H locs hw_66 hP hD hS => ?_)
        obtain ⟨Pa_66, rfl⟩ : ∃ z, z = u_66 := ⟨_, rfl⟩
        have hP : va_P (dC, dI) vwCl ((xO x X) ++ (fO ((fun i => x (1 + i)))) ++ (pW ((fun i => x (2 + i))) cI P) ++ ([(x 6, .inl (cI, 8, .inl Rw))]) ++ (rW ((fun i => x (7 + i))) cI 3 18 No) ++ (rW ((fun i => x (9 + i))) cI 4 24 Ma) ++ (rW ((fun i => x (11 + i))) cI 9 72 Pa_66) ++ ([(x 15, .inl (cI, 3, .inl Rf))])) H := hP
        have hD : va_D A ((xO x X) ++ (fO ((fun i => x (1 + i)))) ++ (pW ((fun i => x (2 + i))) cI P) ++ ([(x 6, .inl (cI, 8, .inl Rw))]) ++ (rW ((fun i => x (7 + i))) cI 3 18 No) ++ (rW ((fun i => x (9 + i))) cI 4 24 Ma) ++ (rW ((fun i => x (11 + i))) cI 9 72 Pa_66) ++ ([(x 15, .inl (cI, 3, .inl Rf))])) := hD
        rw [hw_66, let1_mk Pa_66] at hF
        refine lv_aload_n hx hb dX5_sends_69 rfl (lv_at hl 1 rfl) ?_
        refine va_get (D := (dC, dI)) (ci := 5) (v := .ref (x 1)) (C := RX5) (T := TX5) (N := 14) hx hb hts hin5 hown hK hP 0 rfl rfl 0 (by decide) lk12 (fun _ h9 => h9) rfl dX5_sends_70 ?_
        refine va_get (D := (dC, dI)) (ci := 1) (v := .ref (x 2)) (C := RX1) (T := TX1) (N := 5) hx hb hts hin1 hown hK hP 1 rfl rfl 0 (by decide) lk74 (fun _ h9 => h9) rfl dX5_sends_73 ?_
        refine lv_iload_n hx hb dX5_sends_76 rfl (lv_at hl 2 rfl) ?_
        refine qv_top (e_i) ?_
        refine va_put (D := (dC, dI)) (ci := 2) (v := .int (nI (tN i))) (ty := .int) (C := RX2) (T := TX2) (N := 8) hx hb hts hin2 tyX2 tyX2_ok nmX2 hown hK hP hD hS 2 rfl rfl 5 (by decide) lk147 (fun _ h9 => h9) rfl (by decide +kernel) rfl rfl (Nat.le_of_ble_eq_true rfl) dX5_sends_77 (fun H locs hP hD hS => ?_)
        have hP : va_P (dC, dI) vwCl ((xO x X) ++ (fO ((fun i => x (1 + i)))) ++ (pW ((fun i => x (2 + i))) cI ((Pbo P, Psz P, Pkd P, Plg P, Pwh P, nI (tN i), Ppt P, Pbl P))) ++ ([(x 6, .inl (cI, 8, .inl Rw))]) ++ (rW ((fun i => x (7 + i))) cI 3 18 No) ++ (rW ((fun i => x (9 + i))) cI 4 24 Ma) ++ (rW ((fun i => x (11 + i))) cI 9 72 Pa_66) ++ ([(x 15, .inl (cI, 3, .inl Rf))])) H := hP
        have hD : va_D A ((xO x X) ++ (fO ((fun i => x (1 + i)))) ++ (pW ((fun i => x (2 + i))) cI ((Pbo P, Psz P, Pkd P, Plg P, Pwh P, nI (tN i), Ppt P, Pbl P))) ++ ([(x 6, .inl (cI, 8, .inl Rw))]) ++ (rW ((fun i => x (7 + i))) cI 3 18 No) ++ (rW ((fun i => x (9 + i))) cI 4 24 Ma) ++ (rW ((fun i => x (11 + i))) cI 9 72 Pa_66) ++ ([(x 15, .inl (cI, 3, .inl Rf))])) := hD
        refine lv_iload_n hx hb dX5_sends_80 rfl (lv_at hl 0 rfl) ?_
        have hP9 : va_P (dC, dI) vwCl ((xO x X) ++ (fO ((fun i => x (1 + i)))) ++ (pW ((fun i => x (2 + i))) cI ((Pbo P, Psz P, Pkd P, Plg P, Pwh P, nI (tN i), Ppt P, Pbl P))) ++ ([(x 6, .inl (cI, 8, .inl Rw))]) ++ (rW ((fun i => x (7 + i))) cI 3 18 No) ++ (rW ((fun i => x (9 + i))) cI 4 24 Ma) ++ (rW ((fun i => x (11 + i))) cI 9 72 Pa_66) ++ ([(x 15, .inl (cI, 3, .inl Rf))])) H := hP
        exact W.iret (v := Pnx P) hx hb hr (fun t ht hW => ⟨⟨_, (((Pbo P, Psz P, Pkd P, Plg P, Pwh P, nI (tN i), Ppt P, Pbl P), Pa_66, Rf)), rfl, hO.symm.trans hF, by rw [ht]; exact hP9, va_K.moved hW.alike hK, hD⟩, hS.F ht⟩) hS.2.2 dX5_sends_81
      · rw [if_pos c_41] at hF
        refine lv_aload_n hx hb dX5_sends_44 rfl (lv_at hl 0 rfl) ?_
        refine lv_bipush (v := (-3)) hx hb dX5_sends_45 (by decide) ?_
        refine qx_Vi (C := RX5) (As := [.int ((-3))]) (rest := []) (ci := 5) (k0 := 0) (wr := (fO ((fun i => x (1 + i)))) ++ (pW ((fun i => x (2 + i))) cI P) ++ ([(x 6, .inl (cI, 8, .inl Rw))]) ++ (rW ((fun i => x (7 + i))) cI 3 18 No) ++ (rW ((fun i => x (9 + i))) cI 4 24 Ma) ++ (rW ((fun i => x (11 + i))) cI 9 72 Pa)) (ws2 := fun u => (xO x X) ++ (fO ((fun i => x (1 + i)))) ++ (pW ((fun i => x (2 + i))) cI P) ++ ([(x 6, .inl (cI, 8, .inl Rw))]) ++ (rW ((fun i => x (7 + i))) cI 3 18 No) ++ (rW ((fun i => x (9 + i))) cI 4 24 Ma) ++ (rW ((fun i => x (11 + i))) cI 9 72 Pa) ++ ([(x 15, .inl (cI, 3, .inl u))])) [0, 13] [1, 2, 3, 4, 5, 6, 7, 8, 9, 10, 11, 12] [12, 0, 1, 2, 3, 4, 5, 6, 7, 8, 9, 10, 11, 13] ⟨hx, hb, hml, hown, hts⟩ (c_X5_refuse l dC dI x cI H.size X Rf ((-3)) ) (cwV 1 hts gX5_sends_X5_refuse rfl rfl rfl (by decide +kernel) ⟨Nat.le_of_ble_eq_true rfl, Nat.le_of_ble_eq_true rfl⟩) (hK.sub [0] rfl) hK hP hD hS hA hN rfl rfl (by decide) (by decide) (by decide) (by decide) (fun _ => rfl) rfl rfl rfl rfl hl.1 rfl (Nat.le_of_ble_eq_true rfl) dX5_sends_47 ⟨Nat.zero_le _, Nat.zero_le _⟩ (fun r_47 u_47 H locs hw_47 hP hD hS => ?_)
        obtain ⟨Rf_47, rfl⟩ : ∃ z, z = u_47 := ⟨_, rfl⟩
        have hP : va_P (dC, dI) vwCl ((xO x X) ++ (fO ((fun i => x (1 + i)))) ++ (pW ((fun i => x (2 + i))) cI P) ++ ([(x 6, .inl (cI, 8, .inl Rw))]) ++ (rW ((fun i => x (7 + i))) cI 3 18 No) ++ (rW ((fun i => x (9 + i))) cI 4 24 Ma) ++ (rW ((fun i => x (11 + i))) cI 9 72 Pa) ++ ([(x 15, .inl (cI, 3, .inl Rf_47))])) H := hP
        have hD : va_D A ((xO x X) ++ (fO ((fun i => x (1 + i)))) ++ (pW ((fun i => x (2 + i))) cI P) ++ ([(x 6, .inl (cI, 8, .inl Rw))]) ++ (rW ((fun i => x (7 + i))) cI 3 18 No) ++ (rW ((fun i => x (9 + i))) cI 4 24 Ma) ++ (rW ((fun i => x (11 + i))) cI 9 72 Pa) ++ ([(x 15, .inl (cI, 3, .inl Rf_47))])) := hD
        rw [hw_47, let2_mk r_47 Rf_47] at hF
        have hP9 : va_P (dC, dI) vwCl ((xO x X) ++ (fO ((fun i => x (1 + i)))) ++ (pW ((fun i => x (2 + i))) cI P) ++ ([(x 6, .inl (cI, 8, .inl Rw))]) ++ (rW ((fun i => x (7 + i))) cI 3 18 No) ++ (rW ((fun i => x (9 + i))) cI 4 24 Ma) ++ (rW ((fun i => x (11 + i))) cI 9 72 Pa) ++ ([(x 15, .inl (cI, 3, .inl Rf_47))])) H := hP
        exact W.iret (v := r_47) hx hb hr (fun t ht hW => ⟨⟨_, ((P, Pa, Rf_47)), rfl, hO.symm.trans hF, by rw [ht]; exact hP9, va_K.moved hW.alike hK, hD⟩, hS.F ht⟩) hS.2.2 dX5_sends_50
  · rw [if_neg c_5] at hF
    refine lv_aload_n hx hb dX5_sends_8 rfl (lv_at hl 0 rfl) ?_
    refine lv_bipush (v := (-2)) hx hb dX5_sends_9 (by decide) ?_
    refine qx_Vi (C := RX5) (As := [.int ((-2))]) (rest := []) (ci := 5) (k0 := 0) (wr := (fO ((fun i => x (1 + i)))) ++ (pW ((fun i => x (2 + i))) cI P) ++ ([(x 6, .inl (cI, 8, .inl Rw))]) ++ (rW ((fun i => x (7 + i))) cI 3 18 No) ++ (rW ((fun i => x (9 + i))) cI 4 24 Ma) ++ (rW ((fun i => x (11 + i))) cI 9 72 Pa)) (ws2 := fun u => (xO x X) ++ (fO ((fun i => x (1 + i)))) ++ (pW ((fun i => x (2 + i))) cI P) ++ ([(x 6, .inl (cI, 8, .inl Rw))]) ++ (rW ((fun i => x (7 + i))) cI 3 18 No) ++ (rW ((fun i => x (9 + i))) cI 4 24 Ma) ++ (rW ((fun i => x (11 + i))) cI 9 72 Pa) ++ ([(x 15, .inl (cI, 3, .inl u))])) [0, 13] [1, 2, 3, 4, 5, 6, 7, 8, 9, 10, 11, 12] [12, 0, 1, 2, 3, 4, 5, 6, 7, 8, 9, 10, 11, 13] ⟨hx, hb, hml, hown, hts⟩ (c_X5_refuse l dC dI x cI H.size X Rf ((-2)) ) (cwV 1 hts gX5_sends_X5_refuse rfl rfl rfl (by decide +kernel) ⟨Nat.le_of_ble_eq_true rfl, Nat.le_of_ble_eq_true rfl⟩) (hK.sub [0] rfl) hK hP hD hS hA hN rfl rfl (by decide) (by decide) (by decide) (by decide) (fun _ => rfl) rfl rfl rfl rfl hl.1 rfl (Nat.le_of_ble_eq_true rfl) dX5_sends_11 ⟨Nat.zero_le _, Nat.zero_le _⟩ (fun r_11 u_11 H locs hw_11 hP hD hS => ?_)
    obtain ⟨Rf_11, rfl⟩ : ∃ z, z = u_11 := ⟨_, rfl⟩
    have hP : va_P (dC, dI) vwCl ((xO x X) ++ (fO ((fun i => x (1 + i)))) ++ (pW ((fun i => x (2 + i))) cI P) ++ ([(x 6, .inl (cI, 8, .inl Rw))]) ++ (rW ((fun i => x (7 + i))) cI 3 18 No) ++ (rW ((fun i => x (9 + i))) cI 4 24 Ma) ++ (rW ((fun i => x (11 + i))) cI 9 72 Pa) ++ ([(x 15, .inl (cI, 3, .inl Rf_11))])) H := hP
    have hD : va_D A ((xO x X) ++ (fO ((fun i => x (1 + i)))) ++ (pW ((fun i => x (2 + i))) cI P) ++ ([(x 6, .inl (cI, 8, .inl Rw))]) ++ (rW ((fun i => x (7 + i))) cI 3 18 No) ++ (rW ((fun i => x (9 + i))) cI 4 24 Ma) ++ (rW ((fun i => x (11 + i))) cI 9 72 Pa) ++ ([(x 15, .inl (cI, 3, .inl Rf_11))])) := hD
    rw [hw_11, let2_mk r_11 Rf_11] at hF
    have hP9 : va_P (dC, dI) vwCl ((xO x X) ++ (fO ((fun i => x (1 + i)))) ++ (pW ((fun i => x (2 + i))) cI P) ++ ([(x 6, .inl (cI, 8, .inl Rw))]) ++ (rW ((fun i => x (7 + i))) cI 3 18 No) ++ (rW ((fun i => x (9 + i))) cI 4 24 Ma) ++ (rW ((fun i => x (11 + i))) cI 9 72 Pa) ++ ([(x 15, .inl (cI, 3, .inl Rf_11))])) H := hP
    exact W.iret (v := r_11) hx hb hr (fun t ht hW => ⟨⟨_, ((P, Pa, Rf_11)), rfl, hO.symm.trans hF, by rw [ht]; exact hP9, va_K.moved hW.alike hK, hD⟩, hS.F ht⟩) hS.2.2 dX5_sends_14
def F_X5_row (Rw : Nat → Int32) (Rf : Nat → Int32) (k : Int32) (h : Int32) : Int32 × (Nat → Int32) × (Nat → Int32) := if (F_X5_within k (nI 0) (nI 7)) = true then (if (F_X5_isHit h) = true then (Rw (tN k), (upd Rw (tN k) (nI (tN h))), Rf) else let2 (F_X5_refuse Rf ((-2))) (fun r_20 Rf_20 => (r_20, Rw, Rf_20))) else let2 (F_X5_refuse Rf ((-2))) (fun r_20 Rf_20 => (r_20, Rw, Rf_20))
set_option maxHeartbeats 4000000 in
set_option maxRecDepth 100000 in
theorem c_X5_row (l : Launch) (dC : Nat → ClassId) (dI : Nat → Nat → Nat) (x : Nat → Nat) (cI : ClassId) (sz : Nat) (X : xS) (Rw : Nat → Int32) (Rf : Nat → Int32) (k : Int32) (h : Int32) : Met l yX5_row wsX5_row { frames := 2, cells := 0, slots := 0, locals := 44 } (xPc (dC, dI) vwCl (xT cI) ((xO x X) ++ (fO ((fun i => x (1 + i)))) ++ ([(x 6, .inl (cI, 8, .inl Rw))]) ++ ([(x 15, .inl (cI, 3, .inl Rf))])) sz [.ref (x 0), .int k, .int h]) (va_Qi (fun (r : Int32) (u : (Nat → Int32) × (Nat → Int32)) => F_X5_row Rw Rf k h = (r, u)) (mB (dC, dI) vwCl (xT cI) (va_A ((xO x X) ++ (fO ((fun i => x (1 + i)))) ++ ([(x 6, .inl (cI, 8, .inl Rw))]) ++ ([(x 15, .inl (cI, 3, .inl Rf))])) sz) (fun u => (xO x X) ++ (fO ((fun i => x (1 + i)))) ++ ([(x 6, .inl (cI, 8, .inl (u.1)))]) ++ ([(x 15, .inl (cI, 3, .inl (u.2)))]))) (va_A ((xO x X) ++ (fO ((fun i => x (1 + i)))) ++ ([(x 6, .inl (cI, 8, .inl Rw))]) ++ ([(x 15, .inl (cI, 3, .inl Rf))])) sz)) 0 0 (va_A ((xO x X) ++ (fO ((fun i => x (1 + i)))) ++ ([(x 6, .inl (cI, 8, .inl Rw))]) ++ ([(x 15, .inl (cI, 3, .inl Rf))])) sz) := by
  refine Met.ofW (cc := cX5_row) (maxL := 4) (ret := (some .int)) (by decide) rfl ?_
  intro p e s m args below meth c s₁ B hml hv
  obtain ⟨rfl, hsz, hP, hK, hD0, hN⟩ := hv
  have hx := B.exec
  have hb := B.bytes
  have hr := B.returns
  have hts := atoms_spec (ws := wsX5_row) B.pre
  have hown : s.vm.findClass RX5 = some m.cls := findClass_of_methodNamed B.named
  have hlocks := B.notSynchronized
  subst hsz
  have hD := hD0.self (sz := s.heap.size)
  generalize hAe : va_A ((xO x X) ++ (fO ((fun i => x (1 + i)))) ++ ([(x 6, .inl (cI, 8, .inl Rw))]) ++ ([(x 15, .inl (cI, 3, .inl Rf))])) s.heap.size = A at hD ⊢
  have hA : ∀ q : Nat, s.heap.size ≤ q → A q := fun q h => by rw [← hAe]; exact Or.inr h
  have hS : va_S A s.heap s.heap [] := va_S.rf
  have hin1 : ∀ w ∈ wsX10, w ∈ wsX5_row := by decide +kernel
  have hin5 : ∀ w ∈ wsX50, w ∈ wsX5_row := by decide +kernel
  have lk12 := hts (.fieldLink RX5 12 "PostRounders" "now" "LPostRounders$Field;") (by decide +kernel)
  have lk150 := hts (.fieldLink RX5 150 "PostRounders$Field" "rowHits" "[I") (by decide +kernel)
  have hl := lv_entry ([.ref (x 0), .int k, .int h]) (n := 4) (Nat.le_of_ble_eq_true rfl)
  rw [lg_entry_eq]
  generalize (lg_sl ([.ref (x 0), .int k, .int h]) ++ List.replicate (4 - (lg_sl ([.ref (x 0), .int k, .int h])).length) Slot.unset).toArray = ls at hl ⊢
  have hl : lv_has ls 4 [(0, .ref (x 0)), (1, .int k), (2, .int h)] := hl
  obtain ⟨OUT, hO⟩ : ∃ z, z = F_X5_row Rw Rf k h := ⟨_, rfl⟩
  have hF := hO
  unfold F_X5_row at hF
  refine lv_iload_n hx hb dX5_row_0 rfl (lv_at hl 1 rfl) ?_
  refine lv_iconst (v := nI 0) hx hb dX5_row_1 (by decide) ?_
  refine lv_bipush (v := nI 7) hx hb dX5_row_2 (by decide) ?_
  refine qc_Si (As := [.int k, .int (nI 0), .int (nI 7)]) (rest := []) ⟨hx, hb, hml, hown, hts⟩ (c_X5_within l k (nI 0) (nI 7)) (va_cwS 3 hts gX5_row_X5_within rfl rfl rfl (by decide +kernel) ⟨Nat.le_of_ble_eq_true rfl, Nat.le_of_ble_eq_true rfl⟩) rfl hl.1 rfl (Nat.le_of_ble_eq_true rfl) dX5_row_4 ⟨Nat.zero_le _, Nat.zero_le _⟩ (fun r_4 hw_4 => ?_)
  subst hw_4
  refine qv_zif_eq (tgt := 17) hx hb dX5_row_7 (by decide) (fun c_7 => ?_) (fun c_7 => ?_)
  · rw [if_neg c_7] at hF
    refine lv_aload_n hx hb dX5_row_17 rfl (lv_at hl 0 rfl) ?_
    refine lv_bipush (v := (-2)) hx hb dX5_row_18 (by decide) ?_
    refine qx_Vi (C := RX5) (As := [.int ((-2))]) (rest := []) (ci := 5) (k0 := 0) (wr := (fO ((fun i => x (1 + i)))) ++ ([(x 6, .inl (cI, 8, .inl Rw))])) (ws2 := fun u => (xO x X) ++ (fO ((fun i => x (1 + i)))) ++ ([(x 6, .inl (cI, 8, .inl Rw))]) ++ ([(x 15, .inl (cI, 3, .inl u))])) [0, 3] [1, 2] [2, 0, 1, 3] ⟨hx, hb, hml, hown, hts⟩ (c_X5_refuse l dC dI x cI s.heap.size X Rf ((-2)) ) (cwV 1 hts gX5_row_X5_refuse rfl rfl rfl (by decide +kernel) ⟨Nat.le_of_ble_eq_true rfl, Nat.le_of_ble_eq_true rfl⟩) (hK.sub [0] rfl) hK hP hD hS hA hN rfl rfl (by decide) (by decide) (by decide) (by decide) (fun _ => rfl) rfl rfl rfl rfl hl.1 rfl (Nat.le_of_ble_eq_true rfl) dX5_row_20 ⟨Nat.zero_le _, Nat.zero_le _⟩ (fun r_20 u_20 H locs hw_20 hP hD hS => ?_)
    obtain ⟨Rf_20, rfl⟩ : ∃ z, z = u_20 := ⟨_, rfl⟩
    have hP : va_P (dC, dI) vwCl ((xO x X) ++ (fO ((fun i => x (1 + i)))) ++ ([(x 6, .inl (cI, 8, .inl Rw))]) ++ ([(x 15, .inl (cI, 3, .inl Rf_20))])) H := hP
    have hD : va_D A ((xO x X) ++ (fO ((fun i => x (1 + i)))) ++ ([(x 6, .inl (cI, 8, .inl Rw))]) ++ ([(x 15, .inl (cI, 3, .inl Rf_20))])) := hD
    rw [hw_20, let2_mk r_20 Rf_20] at hF
    have hP9 : va_P (dC, dI) vwCl ((xO x X) ++ (fO ((fun i => x (1 + i)))) ++ ([(x 6, .inl (cI, 8, .inl Rw))]) ++ ([(x 15, .inl (cI, 3, .inl Rf_20))])) H := hP
    exact W.iret (v := r_20) hx hb hr (fun t ht hW => ⟨⟨_, ((Rw, Rf_20)), rfl, hO.symm.trans hF, by rw [ht]; exact hP9, va_K.moved hW.alike hK, hD⟩, hS.F ht⟩) hS.2.2 dX5_row_23
  · rw [if_pos c_7] at hF
    obtain ⟨f_k, fa_k, fb_k⟩ := within_nat (by decide) (by decide) c_7
    have e_k := tN_eq f_k
    refine lv_iload_n hx hb dX5_row_10 rfl (lv_at hl 2 rfl) ?_
    refine qc_Si (As := [.int h]) (rest := []) ⟨hx, hb, hml, hown, hts⟩ (c_X5_isHit l h) (va_cwS 1 hts gX5_row_X5_isHit rfl rfl rfl (by decide +kernel) ⟨Nat.le_of_ble_eq_true rfl, Nat.le_of_ble_eq_true rfl⟩) rfl hl.1 rfl (Nat.le_of_ble_eq_true rfl) dX5_row_11 ⟨Nat.zero_le _, Nat.zero_le _⟩ (fun r_11 hw_11 => ?_)
    subst hw_11
    refine qv_zif_ne (tgt := 24) hx hb dX5_row_14 (by decide) (fun c_14 => ?_) (fun c_14 => ?_)
    · rw [if_pos c_14] at hF
      obtain ⟨f_h, fa_h, fb_h⟩ := isHit_nat c_14
      have e_h := tN_eq f_h
      refine lv_aload_n hx hb dX5_row_24 rfl (lv_at hl 0 rfl) ?_
      refine va_get (D := (dC, dI)) (ci := 5) (v := .ref (x 1)) (C := RX5) (T := TX5) (N := 14) hx hb hts hin5 hown hK hP 0 rfl rfl 0 (by decide) lk12 (fun _ h9 => h9) rfl dX5_row_25 ?_
      refine va_get (D := (dC, dI)) (ci := 1) (v := .ref (x 6)) (C := RX1) (T := TX1) (N := 5) hx hb hts hin1 hown hK hP 1 rfl rfl 1 (by decide) lk150 (fun _ h9 => h9) rfl dX5_row_28 ?_
      refine lv_iload_n hx hb dX5_row_31 rfl (lv_at hl 1 rfl) ?_
      refine qv_top (e_k) ?_
      refine qv_ald (v := Rw (tN k)) hx hb hK hP 2 0 rfl rfl (by omega) (by decide) (rfl) dX5_row_32 ?_
      refine lv_istore_n (lv' := [(3, .int (Rw (tN k))), (0, .ref (x 0)), (1, .int k), (2, .int h)]) hx hb dX5_row_33 rfl hl (by decide) rfl (fun ls hl => ?_)
      refine lv_aload_n hx hb dX5_row_34 rfl (lv_at hl 1 rfl) ?_
      refine va_get (D := (dC, dI)) (ci := 5) (v := .ref (x 1)) (C := RX5) (T := TX5) (N := 14) hx hb hts hin5 hown hK hP 0 rfl rfl 0 (by decide) lk12 (fun _ h9 => h9) rfl dX5_row_35 ?_
      refine va_get (D := (dC, dI)) (ci := 1) (v := .ref (x 6)) (C := RX1) (T := TX1) (N := 5) hx hb hts hin1 hown hK hP 1 rfl rfl 1 (by decide) lk150 (fun _ h9 => h9) rfl dX5_row_38 ?_
      refine lv_iload_n hx hb dX5_row_41 rfl (lv_at hl 2 rfl) ?_
      refine qv_top (e_k) ?_
      refine lv_iload_n hx hb dX5_row_42 rfl (lv_at hl 3 rfl) ?_
      refine qv_top (e_h) ?_
      refine qv_ast (ws' := (xO x X) ++ (fO ((fun i => x (1 + i)))) ++ ([(x 6, .inl (cI, 8, .inl (upd Rw (tN k) (nI (tN h)))))]) ++ ([(x 15, .inl (cI, 3, .inl Rf))])) hx hb hK hP hD hS 2 0 rfl rfl (by omega) (by decide) dX5_row_43 rfl (fun H locs hP hD hS => ?_)
      refine lv_iload_n hx hb dX5_row_44 rfl (lv_at hl 0 rfl) ?_
      have hP9 : va_P (dC, dI) vwCl ((xO x X) ++ (fO ((fun i => x (1 + i)))) ++ ([(x 6, .inl (cI, 8, .inl (upd Rw (tN k) (nI (tN h)))))]) ++ ([(x 15, .inl (cI, 3, .inl Rf))])) H := hP
      exact W.iret (v := Rw (tN k)) hx hb hr (fun t ht hW => ⟨⟨_, ((upd Rw (tN k) (nI (tN h)), Rf)), rfl, hO.symm.trans hF, by rw [ht]; exact hP9, va_K.moved hW.alike hK, hD⟩, hS.F ht⟩) hS.2.2 dX5_row_45
    · rw [if_neg c_14] at hF
      refine lv_aload_n hx hb dX5_row_17 rfl (lv_at hl 0 rfl) ?_
      refine lv_bipush (v := (-2)) hx hb dX5_row_18 (by decide) ?_
      refine qx_Vi (C := RX5) (As := [.int ((-2))]) (rest := []) (ci := 5) (k0 := 0) (wr := (fO ((fun i => x (1 + i)))) ++ ([(x 6, .inl (cI, 8, .inl Rw))])) (ws2 := fun u => (xO x X) ++ (fO ((fun i => x (1 + i)))) ++ ([(x 6, .inl (cI, 8, .inl Rw))]) ++ ([(x 15, .inl (cI, 3, .inl u))])) [0, 3] [1, 2] [2, 0, 1, 3] ⟨hx, hb, hml, hown, hts⟩ (c_X5_refuse l dC dI x cI s.heap.size X Rf ((-2)) ) (cwV 1 hts gX5_row_X5_refuse rfl rfl rfl (by decide +kernel) ⟨Nat.le_of_ble_eq_true rfl, Nat.le_of_ble_eq_true rfl⟩) (hK.sub [0] rfl) hK hP hD hS hA hN rfl rfl (by decide) (by decide) (by decide) (by decide) (fun _ => rfl) rfl rfl rfl rfl hl.1 rfl (Nat.le_of_ble_eq_true rfl) dX5_row_20 ⟨Nat.zero_le _, Nat.zero_le _⟩ (fun r_20 u_20 H locs hw_20 hP hD hS => ?_)
      obtain ⟨Rf_20, rfl⟩ : ∃ z, z = u_20 := ⟨_, rfl⟩
      have hP : va_P (dC, dI) vwCl ((xO x X) ++ (fO ((fun i => x (1 + i)))) ++ ([(x 6, .inl (cI, 8, .inl Rw))]) ++ ([(x 15, .inl (cI, 3, .inl Rf_20))])) H := hP
      have hD : va_D A ((xO x X) ++ (fO ((fun i => x (1 + i)))) ++ ([(x 6, .inl (cI, 8, .inl Rw))]) ++ ([(x 15, .inl (cI, 3, .inl Rf_20))])) := hD
      rw [hw_20, let2_mk r_20 Rf_20] at hF
      have hP9 : va_P (dC, dI) vwCl ((xO x X) ++ (fO ((fun i => x (1 + i)))) ++ ([(x 6, .inl (cI, 8, .inl Rw))]) ++ ([(x 15, .inl (cI, 3, .inl Rf_20))])) H := hP
      exact W.iret (v := r_20) hx hb hr (fun t ht hW => ⟨⟨_, ((Rw, Rf_20)), rfl, hO.symm.trans hF, by rw [ht]; exact hP9, va_K.moved hW.alike hK, hD⟩, hS.F ht⟩) hS.2.2 dX5_row_23
def F_X5_undo (P : pS) (Pa : rS) (Rf : Nat → Int32) : Int32 × (pS) × (rS) × (Nat → Int32) := let1 (F_X4_size_v9 Pa) (fun r_7 => if r_7 = 0 then let2 (F_X5_refuse Rf ((-3))) (fun r_16 Rf_16 => (r_16, P, Pa, Rf_16)) else let2 (F_X1_goBack P Pa) (fun P_24 Pa_24 => (Pbl P_24, P_24, Pa_24, Rf)))
set_option maxHeartbeats 4000000 in
set_option maxRecDepth 100000 in
theorem c_X5_undo (l : Launch) (dC : Nat → ClassId) (dI : Nat → Nat → Nat) (x : Nat → Nat) (cI : ClassId) (sz : Nat) (X : xS) (P : pS) (Rw : Nat → Int32) (No : rS) (Ma : rS) (Pa : rS) (Rf : Nat → Int32) (ppa : inB (Rus Pa) 72) : Met l yX5_undo wsX5_undo { frames := 3, cells := 0, slots := 0, locals := 56 } (xPc (dC, dI) vwCl (xT cI) ((xO x X) ++ (fO ((fun i => x (1 + i)))) ++ (pW ((fun i => x (2 + i))) cI P) ++ ([(x 6, .inl (cI, 8, .inl Rw))]) ++ (rW ((fun i => x (7 + i))) cI 3 18 No) ++ (rW ((fun i => x (9 + i))) cI 4 24 Ma) ++ (rW ((fun i => x (11 + i))) cI 9 72 Pa) ++ ([(x 15, .inl (cI, 3, .inl Rf))])) sz [.ref (x 0)]) (va_Qi (fun (r : Int32) (u : (pS) × (rS) × (Nat → Int32)) => F_X5_undo P Pa Rf = (r, u)) (mB (dC, dI) vwCl (xT cI) (va_A ((xO x X) ++ (fO ((fun i => x (1 + i)))) ++ (pW ((fun i => x (2 + i))) cI P) ++ ([(x 6, .inl (cI, 8, .inl Rw))]) ++ (rW ((fun i => x (7 + i))) cI 3 18 No) ++ (rW ((fun i => x (9 + i))) cI 4 24 Ma) ++ (rW ((fun i => x (11 + i))) cI 9 72 Pa) ++ ([(x 15, .inl (cI, 3, .inl Rf))])) sz) (fun u => (xO x X) ++ (fO ((fun i => x (1 + i)))) ++ (pW ((fun i => x (2 + i))) cI (u.1)) ++ ([(x 6, .inl (cI, 8, .inl Rw))]) ++ (rW ((fun i => x (7 + i))) cI 3 18 No) ++ (rW ((fun i => x (9 + i))) cI 4 24 Ma) ++ (rW ((fun i => x (11 + i))) cI 9 72 (u.2.1)) ++ ([(x 15, .inl (cI, 3, .inl (u.2.2)))]))) (va_A ((xO x X) ++ (fO ((fun i => x (1 + i)))) ++ (pW ((fun i => x (2 + i))) cI P) ++ ([(x 6, .inl (cI, 8, .inl Rw))]) ++ (rW ((fun i => x (7 + i))) cI 3 18 No) ++ (rW ((fun i => x (9 + i))) cI 4 24 Ma) ++ (rW ((fun i => x (11 + i))) cI 9 72 Pa) ++ ([(x 15, .inl (cI, 3, .inl Rf))])) sz)) 0 0 (va_A ((xO x X) ++ (fO ((fun i => x (1 + i)))) ++ (pW ((fun i => x (2 + i))) cI P) ++ ([(x 6, .inl (cI, 8, .inl Rw))]) ++ (rW ((fun i => x (7 + i))) cI 3 18 No) ++ (rW ((fun i => x (9 + i))) cI 4 24 Ma) ++ (rW ((fun i => x (11 + i))) cI 9 72 Pa) ++ ([(x 15, .inl (cI, 3, .inl Rf))])) sz) := by
  refine Met.ofW (cc := cX5_undo) (maxL := 1) (ret := (some .int)) (by decide) rfl ?_
  intro p e s m args below meth c s₁ B hml hv
  obtain ⟨rfl, hsz, hP, hK, hD0, hN⟩ := hv
  have hx := B.exec
  have hb := B.bytes
  have hr := B.returns
  have hts := atoms_spec (ws := wsX5_undo) B.pre
  have hown : s.vm.findClass RX5 = some m.cls := findClass_of_methodNamed B.named
  have hlocks := B.notSynchronized
  subst hsz
  have hD := hD0.self (sz := s.heap.size)
  generalize hAe : va_A ((xO x X) ++ (fO ((fun i => x (1 + i)))) ++ (pW ((fun i => x (2 + i))) cI P) ++ ([(x 6, .inl (cI, 8, .inl Rw))]) ++ (rW ((fun i => x (7 + i))) cI 3 18 No) ++ (rW ((fun i => x (9 + i))) cI 4 24 Ma) ++ (rW ((fun i => x (11 + i))) cI 9 72 Pa) ++ ([(x 15, .inl (cI, 3, .inl Rf))])) s.heap.size = A at hD ⊢
  have hA : ∀ q : Nat, s.heap.size ≤ q → A q := fun q h => by rw [← hAe]; exact Or.inr h
  have hS : va_S A s.heap s.heap [] := va_S.rf
  have hin1 : ∀ w ∈ wsX10, w ∈ wsX5_undo := by decide +kernel
  have hin2 : ∀ w ∈ wsX20, w ∈ wsX5_undo := by decide +kernel
  have hin5 : ∀ w ∈ wsX50, w ∈ wsX5_undo := by decide +kernel
  have lk12 := hts (.fieldLink RX5 12 "PostRounders" "now" "LPostRounders$Field;") (by decide +kernel)
  have lk74 := hts (.fieldLink RX5 74 "PostRounders$Field" "play" "LPostRounders$Play;") (by decide +kernel)
  have lk88 := hts (.fieldLink RX5 88 "PostRounders$Field" "past" "LPostRounders$Rows;") (by decide +kernel)
  have lk124 := hts (.fieldLink RX5 124 "PostRounders$Play" "balls" "I") (by decide +kernel)
  have hl := lv_entry ([.ref (x 0)]) (n := 1) (Nat.le_of_ble_eq_true rfl)
  rw [lg_entry_eq]
  generalize (lg_sl ([.ref (x 0)]) ++ List.replicate (1 - (lg_sl ([.ref (x 0)])).length) Slot.unset).toArray = ls at hl ⊢
  have hl : lv_has ls 1 [(0, .ref (x 0))] := hl
  obtain ⟨OUT, hO⟩ : ∃ z, z = F_X5_undo P Pa Rf := ⟨_, rfl⟩
  have hF := hO
  unfold F_X5_undo at hF
  have e_ppa := tN_eq ppa.1
  have b_ppa := ppa.2
  refine lv_aload_n hx hb dX5_undo_0 rfl (lv_at hl 0 rfl) ?_
  refine va_get (D := (dC, dI)) (ci := 5) (v := .ref (x 1)) (C := RX5) (T := TX5) (N := 14) hx hb hts hin5 hown hK hP 0 rfl rfl 0 (by decide) lk12 (fun _ h9 => h9) rfl dX5_undo_1 ?_
  refine va_get (D := (dC, dI)) (ci := 1) (v := .ref (x 11)) (C := RX1) (T := TX1) (N := 5) hx hb hts hin1 hown hK hP 1 rfl rfl 4 (by decide) lk88 (fun _ h9 => h9) rfl dX5_undo_4 ?_
  refine qx_Vi (C := RX4) (As := []) (rest := []) (ci := 4) (k0 := 11) (wr := (xO x X) ++ (fO ((fun i => x (1 + i)))) ++ (pW ((fun i => x (2 + i))) cI P) ++ ([(x 6, .inl (cI, 8, .inl Rw))]) ++ (rW ((fun i => x (7 + i))) cI 3 18 No) ++ (rW ((fun i => x (9 + i))) cI 4 24 Ma) ++ ([(x 15, .inl (cI, 3, .inl Rf))])) (ws2 := fun u => (xO x X) ++ (fO ((fun i => x (1 + i)))) ++ (pW ((fun i => x (2 + i))) cI P) ++ ([(x 6, .inl (cI, 8, .inl Rw))]) ++ (rW ((fun i => x (7 + i))) cI 3 18 No) ++ (rW ((fun i => x (9 + i))) cI 4 24 Ma) ++ (rW ((fun i => x (11 + i))) cI 9 72 Pa) ++ ([(x 15, .inl (cI, 3, .inl Rf))])) [11, 12] [0, 1, 2, 3, 4, 5, 6, 7, 8, 9, 10, 13] [0, 1, 2, 3, 4, 5, 6, 7, 8, 9, 10, 12, 13, 11] ⟨hx, hb, hml, hown, hts⟩ (c_X4_size_v9 l dC dI (fun i => x (11 + i)) cI s.heap.size Pa  (ppa : inB (Rus Pa) 72)) (cwV 0 hts gX5_undo_X4_size rfl rfl rfl (by decide +kernel) ⟨Nat.le_of_ble_eq_true rfl, Nat.le_of_ble_eq_true rfl⟩) (hK.sub [0] rfl) hK hP hD hS hA hN rfl rfl (by decide) (by decide) (by decide) (by decide) (fun _ => rfl) rfl rfl rfl rfl hl.1 rfl (Nat.le_of_ble_eq_true rfl) dX5_undo_7 ⟨Nat.zero_le _, Nat.zero_le _⟩ (fun r_7 u_7 H locs hw_7 hP hD hS => ?_)
  have hP : va_P (dC, dI) vwCl ((xO x X) ++ (fO ((fun i => x (1 + i)))) ++ (pW ((fun i => x (2 + i))) cI P) ++ ([(x 6, .inl (cI, 8, .inl Rw))]) ++ (rW ((fun i => x (7 + i))) cI 3 18 No) ++ (rW ((fun i => x (9 + i))) cI 4 24 Ma) ++ (rW ((fun i => x (11 + i))) cI 9 72 Pa) ++ ([(x 15, .inl (cI, 3, .inl Rf))])) H := hP
  have hD : va_D A ((xO x X) ++ (fO ((fun i => x (1 + i)))) ++ (pW ((fun i => x (2 + i))) cI P) ++ ([(x 6, .inl (cI, 8, .inl Rw))]) ++ (rW ((fun i => x (7 + i))) cI 3 18 No) ++ (rW ((fun i => x (9 + i))) cI 4 24 Ma) ++ (rW ((fun i => x (11 + i))) cI 9 72 Pa) ++ ([(x 15, .inl (cI, 3, .inl Rf))])) := hD
  rw [hw_7, let1_mk r_7] at hF
  refine lv_if_ne (tgt := 20) hx hb dX5_undo_10 (by decide) (fun c_10 => ?_) (fun c_10 => ?_)
  · rw [if_neg c_10] at hF
    refine lv_aload_n hx hb dX5_undo_20 rfl (lv_at hl 0 rfl) ?_
    refine va_get (D := (dC, dI)) (ci := 5) (v := .ref (x 1)) (C := RX5) (T := TX5) (N := 14) hx hb hts hin5 hown hK hP 0 rfl rfl 0 (by decide) lk12 (fun _ h9 => h9) rfl dX5_undo_21 ?_
    refine qx_Vv (C := RX1) (As := []) (rest := []) (ci := 1) (k0 := 1) (wr := (xO x X) ++ ([(x 15, .inl (cI, 3, .inl Rf))])) (ws2 := fun u => (xO x X) ++ (fO ((fun i => x (1 + i)))) ++ (pW ((fun i => x (2 + i))) cI (u.1)) ++ ([(x 6, .inl (cI, 8, .inl Rw))]) ++ (rW ((fun i => x (7 + i))) cI 3 18 No) ++ (rW ((fun i => x (9 + i))) cI 4 24 Ma) ++ (rW ((fun i => x (11 + i))) cI 9 72 (u.2)) ++ ([(x 15, .inl (cI, 3, .inl Rf))])) [1, 2, 3, 4, 5, 6, 7, 8, 9, 10, 11, 12] [0, 13] [0, 2, 3, 4, 5, 6, 7, 8, 9, 10, 11, 12, 13, 1] ⟨hx, hb, hml, hown, hts⟩ (c_X1_goBack l dC dI (fun i => x (1 + i)) cI H.size P Rw No Ma Pa  (ppa : inB (Rus Pa) 72)) (cwV 0 hts gX5_undo_X1_goBack rfl rfl rfl (by decide +kernel) ⟨Nat.le_of_ble_eq_true rfl, Nat.le_of_ble_eq_true rfl⟩) (hK.sub [0] rfl) hK hP hD hS hA hN rfl rfl (by decide) (by decide) (by decide) (by decide) (fun _ => rfl) rfl rfl rfl rfl hl.1 rfl (Nat.le_of_ble_eq_true rfl) dX5_undo_24 ⟨Nat.zero_le _, Nat.zero_le _⟩ (fun u_24 H locs hw_24 hP hD hS => ?_)
    obtain ⟨P_24, Pa_24⟩ := u_24
    have hP : va_P (dC, dI) vwCl ((xO x X) ++ (fO ((fun i => x (1 + i)))) ++ (pW ((fun i => x (2 + i))) cI P_24) ++ ([(x 6, .inl (cI, 8, .inl Rw))]) ++ (rW ((fun i => x (7 + i))) cI 3 18 No) ++ (rW ((fun i => x (9 + i))) cI 4 24 Ma) ++ (rW ((fun i => x (11 + i))) cI 9 72 Pa_24) ++ ([(x 15, .inl (cI, 3, .inl Rf))])) H := hP
    have hD : va_D A ((xO x X) ++ (fO ((fun i => x (1 + i)))) ++ (pW ((fun i => x (2 + i))) cI P_24) ++ ([(x 6, .inl (cI, 8, .inl Rw))]) ++ (rW ((fun i => x (7 + i))) cI 3 18 No) ++ (rW ((fun i => x (9 + i))) cI 4 24 Ma) ++ (rW ((fun i => x (11 + i))) cI 9 72 Pa_24) ++ ([(x 15, .inl (cI, 3, .inl Rf))])) := hD
    rw [hw_24, let2_mk P_24 Pa_24] at hF
    refine lv_aload_n hx hb dX5_undo_27 rfl (lv_at hl 0 rfl) ?_
    refine va_get (D := (dC, dI)) (ci := 5) (v := .ref (x 1)) (C := RX5) (T := TX5) (N := 14) hx hb hts hin5 hown hK hP 0 rfl rfl 0 (by decide) lk12 (fun _ h9 => h9) rfl dX5_undo_28 ?_
    refine va_get (D := (dC, dI)) (ci := 1) (v := .ref (x 2)) (C := RX1) (T := TX1) (N := 5) hx hb hts hin1 hown hK hP 1 rfl rfl 0 (by decide) lk74 (fun _ h9 => h9) rfl dX5_undo_31 ?_
    refine va_get (D := (dC, dI)) (ci := 2) (v := .int (Pbl P_24)) (C := RX2) (T := TX2) (N := 8) hx hb hts hin2 hown hK hP 2 rfl rfl 7 (by decide) lk124 (fun _ h9 => h9) rfl dX5_undo_34 ?_
    have hP9 : va_P (dC, dI) vwCl ((xO x X) ++ (fO ((fun i => x (1 + i)))) ++ (pW ((fun i => x (2 + i))) cI P_24) ++ ([(x 6, .inl (cI, 8, .inl Rw))]) ++ (rW ((fun i => x (7 + i))) cI 3 18 No) ++ (rW ((fun i => x (9 + i))) cI 4 24 Ma) ++ (rW ((fun i => x (11 + i))) cI 9 72 Pa_24) ++ ([(x 15, .inl (cI, 3, .inl Rf))])) H := hP
    exact W.iret (v := Pbl P_24) hx hb hr (fun t ht hW => ⟨⟨_, ((P_24, Pa_24, Rf)), rfl, hO.symm.trans hF, by rw [ht]; exact hP9, va_K.moved hW.alike hK, hD⟩, hS.F ht⟩) hS.2.2 dX5_undo_37
  · rw [if_pos c_10] at hF
    refine lv_aload_n hx hb dX5_undo_13 rfl (lv_at hl 0 rfl) ?_
    refine lv_bipush (v := (-3)) hx hb dX5_undo_14 (by decide) ?_
    refine qx_Vi (C := RX5) (As := [.int ((-3))]) (rest := []) (ci := 5) (k0 := 0) (wr := (fO ((fun i => x (1 + i)))) ++ (pW ((fun i => x (2 + i))) cI P) ++ ([(x 6, .inl (cI, 8, .inl Rw))]) ++ (rW ((fun i => x (7 + i))) cI 3 18 No) ++ (rW ((fun i => x (9 + i))) cI 4 24 Ma) ++ (rW ((fun i => x (11 + i))) cI 9 72 Pa)) (ws2 := fun u => (xO x X) ++ (fO ((fun i => x (1 + i)))) ++ (pW ((fun i => x (2 + i))) cI P) ++ ([(x 6, .inl (cI, 8, .inl Rw))]) ++ (rW ((fun i => x (7 + i))) cI 3 18 No) ++ (rW ((fun i => x (9 + i))) cI 4 24 Ma) ++ (rW ((fun i => x (11 + i))) cI 9 72 Pa) ++ ([(x 15, .inl (cI, 3, .inl u))])) [0, 13] [1, 2, 3, 4, 5, 6, 7, 8, 9, 10, 11, 12] [12, 0, 1, 2, 3, 4, 5, 6, 7, 8, 9, 10, 11, 13] ⟨hx, hb, hml, hown, hts⟩ (c_X5_refuse l dC dI x cI H.size X Rf ((-3)) ) (cwV 1 hts gX5_undo_X5_refuse rfl rfl rfl (by decide +kernel) ⟨Nat.le_of_ble_eq_true rfl, Nat.le_of_ble_eq_true rfl⟩) (hK.sub [0] rfl) hK hP hD hS hA hN rfl rfl (by decide) (by decide) (by decide) (by decide) (fun _ => rfl) rfl rfl rfl rfl hl.1 rfl (Nat.le_of_ble_eq_true rfl) dX5_undo_16 ⟨Nat.zero_le _, Nat.zero_le _⟩ (fun r_16 u_16 H locs hw_16 hP hD hS => ?_)
    obtain ⟨Rf_16, rfl⟩ : ∃ z, z = u_16 := ⟨_, rfl⟩
    have hP : va_P (dC, dI) vwCl ((xO x X) ++ (fO ((fun i => x (1 + i)))) ++ (pW ((fun i => x (2 + i))) cI P) ++ ([(x 6, .inl (cI, 8, .inl Rw))]) ++ (rW ((fun i => x (7 + i))) cI 3 18 No) ++ (rW ((fun i => x (9 + i))) cI 4 24 Ma) ++ (rW ((fun i => x (11 + i))) cI 9 72 Pa) ++ ([(x 15, .inl (cI, 3, .inl Rf_16))])) H := hP
    have hD : va_D A ((xO x X) ++ (fO ((fun i => x (1 + i)))) ++ (pW ((fun i => x (2 + i))) cI P) ++ ([(x 6, .inl (cI, 8, .inl Rw))]) ++ (rW ((fun i => x (7 + i))) cI 3 18 No) ++ (rW ((fun i => x (9 + i))) cI 4 24 Ma) ++ (rW ((fun i => x (11 + i))) cI 9 72 Pa) ++ ([(x 15, .inl (cI, 3, .inl Rf_16))])) := hD
    rw [hw_16, let2_mk r_16 Rf_16] at hF
    have hP9 : va_P (dC, dI) vwCl ((xO x X) ++ (fO ((fun i => x (1 + i)))) ++ (pW ((fun i => x (2 + i))) cI P) ++ ([(x 6, .inl (cI, 8, .inl Rw))]) ++ (rW ((fun i => x (7 + i))) cI 3 18 No) ++ (rW ((fun i => x (9 + i))) cI 4 24 Ma) ++ (rW ((fun i => x (11 + i))) cI 9 72 Pa) ++ ([(x 15, .inl (cI, 3, .inl Rf_16))])) H := hP
    exact W.iret (v := r_16) hx hb hr (fun t ht hW => ⟨⟨_, ((P, Pa, Rf_16)), rfl, hO.symm.trans hF, by rw [ht]; exact hP9, va_K.moved hW.alike hK, hD⟩, hS.F ht⟩) hS.2.2 dX5_undo_19
def F_X5_of (P : pS) (Rf : Nat → Int32) (i : Int32) (wh : Int32) : Int32 × (Nat → Int32) := let1 (F_X5_isBatter P i) (fun z_2 => if z_2 = true then (if (F_X5_within wh (nI 0) (nI 2)) = true then let1 (F_X2_told P (nI (tN i)) (nI (tN wh))) (fun r_33 => (r_33, Rf)) else let2 (F_X5_refuse Rf ((-2))) (fun r_20 Rf_20 => (r_20, Rf_20))) else let2 (F_X5_refuse Rf ((-2))) (fun r_20 Rf_20 => (r_20, Rf_20)))
set_option maxHeartbeats 4000000 in
set_option maxRecDepth 100000 in
theorem c_X5_of (l : Launch) (dC : Nat → ClassId) (dI : Nat → Nat → Nat) (x : Nat → Nat) (cI : ClassId) (sz : Nat) (X : xS) (P : pS) (Rf : Nat → Int32) (i : Int32) (wh : Int32) (pz : inB (Psz P) 6) : Met l yX5_of wsX5_of { frames := 2, cells := 0, slots := 0, locals := 44 } (xPc (dC, dI) vwCl (xT cI) ((xO x X) ++ (fO ((fun i => x (1 + i)))) ++ (pW ((fun i => x (2 + i))) cI P) ++ ([(x 15, .inl (cI, 3, .inl Rf))])) sz [.ref (x 0), .int i, .int wh]) (va_Qi (fun (r : Int32) (u : (Nat → Int32)) => F_X5_of P Rf i wh = (r, u)) (mB (dC, dI) vwCl (xT cI) (va_A ((xO x X) ++ (fO ((fun i => x (1 + i)))) ++ (pW ((fun i => x (2 + i))) cI P) ++ ([(x 15, .inl (cI, 3, .inl Rf))])) sz) (fun u => (xO x X) ++ (fO ((fun i => x (1 + i)))) ++ (pW ((fun i => x (2 + i))) cI P) ++ ([(x 15, .inl (cI, 3, .inl u))]))) (va_A ((xO x X) ++ (fO ((fun i => x (1 + i)))) ++ (pW ((fun i => x (2 + i))) cI P) ++ ([(x 15, .inl (cI, 3, .inl Rf))])) sz)) 0 0 (va_A ((xO x X) ++ (fO ((fun i => x (1 + i)))) ++ (pW ((fun i => x (2 + i))) cI P) ++ ([(x 15, .inl (cI, 3, .inl Rf))])) sz) := by
  refine Met.ofW (cc := cX5_of) (maxL := 3) (ret := (some .int)) (by decide) rfl ?_
  intro p e s m args below meth c s₁ B hml hv
  obtain ⟨rfl, hsz, hP, hK, hD0, hN⟩ := hv
  have hx := B.exec
  have hb := B.bytes
  have hr := B.returns
  have hts := atoms_spec (ws := wsX5_of) B.pre
  have hown : s.vm.findClass RX5 = some m.cls := findClass_of_methodNamed B.named
  have hlocks := B.notSynchronized
  subst hsz
  have hD := hD0.self (sz := s.heap.size)
  generalize hAe : va_A ((xO x X) ++ (fO ((fun i => x (1 + i)))) ++ (pW ((fun i => x (2 + i))) cI P) ++ ([(x 15, .inl (cI, 3, .inl Rf))])) s.heap.size = A at hD ⊢
  have hA : ∀ q : Nat, s.heap.size ≤ q → A q := fun q h => by rw [← hAe]; exact Or.inr h
  have hS : va_S A s.heap s.heap [] := va_S.rf
  have hin1 : ∀ w ∈ wsX10, w ∈ wsX5_of := by decide +kernel
  have hin5 : ∀ w ∈ wsX50, w ∈ wsX5_of := by decide +kernel
  have lk12 := hts (.fieldLink RX5 12 "PostRounders" "now" "LPostRounders$Field;") (by decide +kernel)
  have lk74 := hts (.fieldLink RX5 74 "PostRounders$Field" "play" "LPostRounders$Play;") (by decide +kernel)
  have hl := lv_entry ([.ref (x 0), .int i, .int wh]) (n := 3) (Nat.le_of_ble_eq_true rfl)
  rw [lg_entry_eq]
  generalize (lg_sl ([.ref (x 0), .int i, .int wh]) ++ List.replicate (3 - (lg_sl ([.ref (x 0), .int i, .int wh])).length) Slot.unset).toArray = ls at hl ⊢
  have hl : lv_has ls 3 [(0, .ref (x 0)), (1, .int i), (2, .int wh)] := hl
  obtain ⟨OUT, hO⟩ : ∃ z, z = F_X5_of P Rf i wh := ⟨_, rfl⟩
  have hF := hO
  unfold F_X5_of at hF
  have e_pz := tN_eq pz.1
  have b_pz := pz.2
  refine lv_aload_n hx hb dX5_of_0 rfl (lv_at hl 0 rfl) ?_
  refine lv_iload_n hx hb dX5_of_1 rfl (lv_at hl 1 rfl) ?_
  refine qx_Vi (C := RX5) (As := [.int i]) (rest := []) (ci := 5) (k0 := 0) (wr := ([(x 15, .inl (cI, 3, .inl Rf))])) (ws2 := fun u => (xO x X) ++ (fO ((fun i => x (1 + i)))) ++ (pW ((fun i => x (2 + i))) cI P) ++ ([(x 15, .inl (cI, 3, .inl Rf))])) [0, 1, 2, 3, 4, 5] [6] [1, 2, 3, 4, 5, 6, 0] ⟨hx, hb, hml, hown, hts⟩ (c_X5_isBatter l dC dI x cI s.heap.size X P i (pz : inB (Psz P) 6)) (cwV 1 hts gX5_of_X5_isBatter rfl rfl rfl (by decide +kernel) ⟨Nat.le_of_ble_eq_true rfl, Nat.le_of_ble_eq_true rfl⟩) (hK.sub [0] rfl) hK hP hD hS hA hN rfl rfl (by decide) (by decide) (by decide) (by decide) (fun _ => rfl) rfl rfl rfl rfl hl.1 rfl (Nat.le_of_ble_eq_true rfl) dX5_of_2 ⟨Nat.zero_le _, Nat.zero_le _⟩ (fun r_2 u_2 H locs hw_2 hP hD hS => ?_)
  have hP : va_P (dC, dI) vwCl ((xO x X) ++ (fO ((fun i => x (1 + i)))) ++ (pW ((fun i => x (2 + i))) cI P) ++ ([(x 15, .inl (cI, 3, .inl Rf))])) H := hP
  have hD : va_D A ((xO x X) ++ (fO ((fun i => x (1 + i)))) ++ (pW ((fun i => x (2 + i))) cI P) ++ ([(x 15, .inl (cI, 3, .inl Rf))])) := hD
  obtain ⟨z_2, hw_2, rfl⟩ := hw_2
  rw [hw_2, let1_mk z_2] at hF
  refine qv_zif_eq (tgt := 17) hx hb dX5_of_5 (by decide) (fun c_5 => ?_) (fun c_5 => ?_)
  · rw [if_neg c_5] at hF
    refine lv_aload_n hx hb dX5_of_17 rfl (lv_at hl 0 rfl) ?_
    refine lv_bipush (v := (-2)) hx hb dX5_of_18 (by decide) ?_
    refine qx_Vi (C := RX5) (As := [.int ((-2))]) (rest := []) (ci := 5) (k0 := 0) (wr := (fO ((fun i => x (1 + i)))) ++ (pW ((fun i => x (2 + i))) cI P)) (ws2 := fun u => (xO x X) ++ (fO ((fun i => x (1 + i)))) ++ (pW ((fun i => x (2 + i))) cI P) ++ ([(x 15, .inl (cI, 3, .inl u))])) [0, 6] [1, 2, 3, 4, 5] [5, 0, 1, 2, 3, 4, 6] ⟨hx, hb, hml, hown, hts⟩ (c_X5_refuse l dC dI x cI H.size X Rf ((-2)) ) (cwV 1 hts gX5_of_X5_refuse rfl rfl rfl (by decide +kernel) ⟨Nat.le_of_ble_eq_true rfl, Nat.le_of_ble_eq_true rfl⟩) (hK.sub [0] rfl) hK hP hD hS hA hN rfl rfl (by decide) (by decide) (by decide) (by decide) (fun _ => rfl) rfl rfl rfl rfl hl.1 rfl (Nat.le_of_ble_eq_true rfl) dX5_of_20 ⟨Nat.zero_le _, Nat.zero_le _⟩ (fun r_20 u_20 H locs hw_20 hP hD hS => ?_)
    obtain ⟨Rf_20, rfl⟩ : ∃ z, z = u_20 := ⟨_, rfl⟩
    have hP : va_P (dC, dI) vwCl ((xO x X) ++ (fO ((fun i => x (1 + i)))) ++ (pW ((fun i => x (2 + i))) cI P) ++ ([(x 15, .inl (cI, 3, .inl Rf_20))])) H := hP
    have hD : va_D A ((xO x X) ++ (fO ((fun i => x (1 + i)))) ++ (pW ((fun i => x (2 + i))) cI P) ++ ([(x 15, .inl (cI, 3, .inl Rf_20))])) := hD
    rw [hw_20, let2_mk r_20 Rf_20] at hF
    have hP9 : va_P (dC, dI) vwCl ((xO x X) ++ (fO ((fun i => x (1 + i)))) ++ (pW ((fun i => x (2 + i))) cI P) ++ ([(x 15, .inl (cI, 3, .inl Rf_20))])) H := hP
    exact W.iret (v := r_20) hx hb hr (fun t ht hW => ⟨⟨_, (Rf_20), rfl, hO.symm.trans hF, by rw [ht]; exact hP9, va_K.moved hW.alike hK, hD⟩, hS.F ht⟩) hS.2.2 dX5_of_23
  · rw [if_pos c_5] at hF
    obtain ⟨f_i, fb_i⟩ := isBatter2 hw_2 c_5 pz
    have e_i := tN_eq f_i
    refine lv_iload_n hx hb dX5_of_8 rfl (lv_at hl 2 rfl) ?_
    refine lv_iconst (v := nI 0) hx hb dX5_of_9 (by decide) ?_
    refine lv_iconst (v := nI 2) hx hb dX5_of_10 (by decide) ?_
    refine qc_Si (As := [.int wh, .int (nI 0), .int (nI 2)]) (rest := []) ⟨hx, hb, hml, hown, hts⟩ (c_X5_within l wh (nI 0) (nI 2)) (va_cwS 3 hts gX5_of_X5_within rfl rfl rfl (by decide +kernel) ⟨Nat.le_of_ble_eq_true rfl, Nat.le_of_ble_eq_true rfl⟩) rfl hl.1 rfl (Nat.le_of_ble_eq_true rfl) dX5_of_11 ⟨Nat.zero_le _, Nat.zero_le _⟩ (fun r_11 hw_11 => ?_)
    subst hw_11
    refine qv_zif_ne (tgt := 24) hx hb dX5_of_14 (by decide) (fun c_14 => ?_) (fun c_14 => ?_)
    · rw [if_pos c_14] at hF
      obtain ⟨f_wh, fa_wh, fb_wh⟩ := within_nat (by decide) (by decide) c_14
      have e_wh := tN_eq f_wh
      refine lv_aload_n hx hb dX5_of_24 rfl (lv_at hl 0 rfl) ?_
      refine va_get (D := (dC, dI)) (ci := 5) (v := .ref (x 1)) (C := RX5) (T := TX5) (N := 14) hx hb hts hin5 hown hK hP 0 rfl rfl 0 (by decide) lk12 (fun _ h9 => h9) rfl dX5_of_25 ?_
      refine va_get (D := (dC, dI)) (ci := 1) (v := .ref (x 2)) (C := RX1) (T := TX1) (N := 5) hx hb hts hin1 hown hK hP 1 rfl rfl 0 (by decide) lk74 (fun _ h9 => h9) rfl dX5_of_28 ?_
      refine lv_iload_n hx hb dX5_of_31 rfl (lv_at hl 1 rfl) ?_
      refine qv_top (e_i) ?_
      refine lv_iload_n hx hb dX5_of_32 rfl (lv_at hl 2 rfl) ?_
      refine qv_top (e_wh) ?_
      refine qx_Vi (C := RX2) (As := [.int (nI (tN i)), .int (nI (tN wh))]) (rest := []) (ci := 2) (k0 := 2) (wr := (xO x X) ++ (fO ((fun i => x (1 + i)))) ++ ([(x 15, .inl (cI, 3, .inl Rf))])) (ws2 := fun u => (xO x X) ++ (fO ((fun i => x (1 + i)))) ++ (pW ((fun i => x (2 + i))) cI P) ++ ([(x 15, .inl (cI, 3, .inl Rf))])) [2, 3, 4, 5] [0, 1, 6] [0, 1, 3, 4, 5, 6, 2] ⟨hx, hb, hml, hown, hts⟩ (c_X2_told l dC dI (fun i => x (2 + i)) cI H.size P (nI (tN i)) (nI (tN wh)) (pz : inB (Psz P) 6)) (cwV 2 hts gX5_of_X2_told rfl rfl rfl (by decide +kernel) ⟨Nat.le_of_ble_eq_true rfl, Nat.le_of_ble_eq_true rfl⟩) (hK.sub [0] rfl) hK hP hD hS hA hN rfl rfl (by decide) (by decide) (by decide) (by decide) (fun _ => rfl) rfl rfl rfl rfl hl.1 rfl (Nat.le_of_ble_eq_true rfl) dX5_of_33 ⟨Nat.zero_le _, Nat.zero_le _⟩ (fun r_33 u_33 H locs hw_33 hP hD hS => ?_)
      have hP : va_P (dC, dI) vwCl ((xO x X) ++ (fO ((fun i => x (1 + i)))) ++ (pW ((fun i => x (2 + i))) cI P) ++ ([(x 15, .inl (cI, 3, .inl Rf))])) H := hP
      have hD : va_D A ((xO x X) ++ (fO ((fun i => x (1 + i)))) ++ (pW ((fun i => x (2 + i))) cI P) ++ ([(x 15, .inl (cI, 3, .inl Rf))])) := hD
      rw [hw_33, let1_mk r_33] at hF
      have hP9 : va_P (dC, dI) vwCl ((xO x X) ++ (fO ((fun i => x (1 + i)))) ++ (pW ((fun i => x (2 + i))) cI P) ++ ([(x 15, .inl (cI, 3, .inl Rf))])) H := hP
      exact W.iret (v := r_33) hx hb hr (fun t ht hW => ⟨⟨_, (Rf), rfl, hO.symm.trans hF, by rw [ht]; exact hP9, va_K.moved hW.alike hK, hD⟩, hS.F ht⟩) hS.2.2 dX5_of_36
    · rw [if_neg c_14] at hF
      refine lv_aload_n hx hb dX5_of_17 rfl (lv_at hl 0 rfl) ?_
      refine lv_bipush (v := (-2)) hx hb dX5_of_18 (by decide) ?_
      refine qx_Vi (C := RX5) (As := [.int ((-2))]) (rest := []) (ci := 5) (k0 := 0) (wr := (fO ((fun i => x (1 + i)))) ++ (pW ((fun i => x (2 + i))) cI P)) (ws2 := fun u => (xO x X) ++ (fO ((fun i => x (1 + i)))) ++ (pW ((fun i => x (2 + i))) cI P) ++ ([(x 15, .inl (cI, 3, .inl u))])) [0, 6] [1, 2, 3, 4, 5] [5, 0, 1, 2, 3, 4, 6] ⟨hx, hb, hml, hown, hts⟩ (c_X5_refuse l dC dI x cI H.size X Rf ((-2)) ) (cwV 1 hts gX5_of_X5_refuse rfl rfl rfl (by decide +kernel) ⟨Nat.le_of_ble_eq_true rfl, Nat.le_of_ble_eq_true rfl⟩) (hK.sub [0] rfl) hK hP hD hS hA hN rfl rfl (by decide) (by decide) (by decide) (by decide) (fun _ => rfl) rfl rfl rfl rfl hl.1 rfl (Nat.le_of_ble_eq_true rfl) dX5_of_20 ⟨Nat.zero_le _, Nat.zero_le _⟩ (fun r_20 u_20 H locs hw_20 hP hD hS => ?_)
      obtain ⟨Rf_20, rfl⟩ : ∃ z, z = u_20 := ⟨_, rfl⟩
      have hP : va_P (dC, dI) vwCl ((xO x X) ++ (fO ((fun i => x (1 + i)))) ++ (pW ((fun i => x (2 + i))) cI P) ++ ([(x 15, .inl (cI, 3, .inl Rf_20))])) H := hP
      have hD : va_D A ((xO x X) ++ (fO ((fun i => x (1 + i)))) ++ (pW ((fun i => x (2 + i))) cI P) ++ ([(x 15, .inl (cI, 3, .inl Rf_20))])) := hD
      rw [hw_20, let2_mk r_20 Rf_20] at hF
      have hP9 : va_P (dC, dI) vwCl ((xO x X) ++ (fO ((fun i => x (1 + i)))) ++ (pW ((fun i => x (2 + i))) cI P) ++ ([(x 15, .inl (cI, 3, .inl Rf_20))])) H := hP
      exact W.iret (v := r_20) hx hb hr (fun t ht hW => ⟨⟨_, (Rf_20), rfl, hO.symm.trans hF, by rw [ht]; exact hP9, va_K.moved hW.alike hK, hD⟩, hS.F ht⟩) hS.2.2 dX5_of_23
def F_X5_worth (P : pS) (Rf : Nat → Int32) (h : Int32) (wh : Int32) : Int32 × (Nat → Int32) := if (F_X5_isHit h) = true then (if (F_X5_within wh (nI 0) (nI 1)) = true then (if tN wh = 0 then let1 (F_X2_comesTo P (nI (tN h))) (fun r_35 => (r_35, Rf)) else let1 (F_X2_postsBy P (nI (tN h))) (fun r_50 => if (nI 0) < r_50 then (r_50, Rf) else (nI 0, Rf))) else let2 (F_X5_refuse Rf ((-2))) (fun r_19 Rf_19 => (r_19, Rf_19))) else let2 (F_X5_refuse Rf ((-2))) (fun r_19 Rf_19 => (r_19, Rf_19))
set_option maxHeartbeats 4000000 in
set_option maxRecDepth 100000 in
theorem c_X5_worth (l : Launch) (dC : Nat → ClassId) (dI : Nat → Nat → Nat) (x : Nat → Nat) (cI : ClassId) (sz : Nat) (X : xS) (P : pS) (Rf : Nat → Int32) (h : Int32) (wh : Int32) (pz : inB (Psz P) 6) : Met l yX5_worth wsX5_worth { frames := 3, cells := 0, slots := 0, locals := 60 } (xPc (dC, dI) vwCl (xT cI) ((xO x X) ++ (fO ((fun i => x (1 + i)))) ++ (pW ((fun i => x (2 + i))) cI P) ++ ([(x 15, .inl (cI, 3, .inl Rf))])) sz [.ref (x 0), .int h, .int wh]) (va_Qi (fun (r : Int32) (u : (Nat → Int32)) => F_X5_worth P Rf h wh = (r, u)) (mB (dC, dI) vwCl (xT cI) (va_A ((xO x X) ++ (fO ((fun i => x (1 + i)))) ++ (pW ((fun i => x (2 + i))) cI P) ++ ([(x 15, .inl (cI, 3, .inl Rf))])) sz) (fun u => (xO x X) ++ (fO ((fun i => x (1 + i)))) ++ (pW ((fun i => x (2 + i))) cI P) ++ ([(x 15, .inl (cI, 3, .inl u))]))) (va_A ((xO x X) ++ (fO ((fun i => x (1 + i)))) ++ (pW ((fun i => x (2 + i))) cI P) ++ ([(x 15, .inl (cI, 3, .inl Rf))])) sz)) 0 0 (va_A ((xO x X) ++ (fO ((fun i => x (1 + i)))) ++ (pW ((fun i => x (2 + i))) cI P) ++ ([(x 15, .inl (cI, 3, .inl Rf))])) sz) := by
  refine Met.ofW (cc := cX5_worth) (maxL := 3) (ret := (some .int)) (by decide) rfl ?_
  intro p e s m args below meth c s₁ B hml hv
  obtain ⟨rfl, hsz, hP, hK, hD0, hN⟩ := hv
  have hx := B.exec
  have hb := B.bytes
  have hr := B.returns
  have hts := atoms_spec (ws := wsX5_worth) B.pre
  have hown : s.vm.findClass RX5 = some m.cls := findClass_of_methodNamed B.named
  have hlocks := B.notSynchronized
  subst hsz
  have hD := hD0.self (sz := s.heap.size)
  generalize hAe : va_A ((xO x X) ++ (fO ((fun i => x (1 + i)))) ++ (pW ((fun i => x (2 + i))) cI P) ++ ([(x 15, .inl (cI, 3, .inl Rf))])) s.heap.size = A at hD ⊢
  have hA : ∀ q : Nat, s.heap.size ≤ q → A q := fun q h => by rw [← hAe]; exact Or.inr h
  have hS : va_S A s.heap s.heap [] := va_S.rf
  have hin1 : ∀ w ∈ wsX10, w ∈ wsX5_worth := by decide +kernel
  have hin5 : ∀ w ∈ wsX50, w ∈ wsX5_worth := by decide +kernel
  have lk12 := hts (.fieldLink RX5 12 "PostRounders" "now" "LPostRounders$Field;") (by decide +kernel)
  have lk74 := hts (.fieldLink RX5 74 "PostRounders$Field" "play" "LPostRounders$Play;") (by decide +kernel)
  have hl := lv_entry ([.ref (x 0), .int h, .int wh]) (n := 3) (Nat.le_of_ble_eq_true rfl)
  rw [lg_entry_eq]
  generalize (lg_sl ([.ref (x 0), .int h, .int wh]) ++ List.replicate (3 - (lg_sl ([.ref (x 0), .int h, .int wh])).length) Slot.unset).toArray = ls at hl ⊢
  have hl : lv_has ls 3 [(0, .ref (x 0)), (1, .int h), (2, .int wh)] := hl
  obtain ⟨OUT, hO⟩ : ∃ z, z = F_X5_worth P Rf h wh := ⟨_, rfl⟩
  have hF := hO
  unfold F_X5_worth at hF
  have e_pz := tN_eq pz.1
  have b_pz := pz.2
  refine lv_iload_n hx hb dX5_worth_0 rfl (lv_at hl 1 rfl) ?_
  refine qc_Si (As := [.int h]) (rest := []) ⟨hx, hb, hml, hown, hts⟩ (c_X5_isHit l h) (va_cwS 1 hts gX5_worth_X5_isHit rfl rfl rfl (by decide +kernel) ⟨Nat.le_of_ble_eq_true rfl, Nat.le_of_ble_eq_true rfl⟩) rfl hl.1 rfl (Nat.le_of_ble_eq_true rfl) dX5_worth_1 ⟨Nat.zero_le _, Nat.zero_le _⟩ (fun r_1 hw_1 => ?_)
  subst hw_1
  refine qv_zif_eq (tgt := 16) hx hb dX5_worth_4 (by decide) (fun c_4 => ?_) (fun c_4 => ?_)
  · rw [if_neg c_4] at hF
    refine lv_aload_n hx hb dX5_worth_16 rfl (lv_at hl 0 rfl) ?_
    refine lv_bipush (v := (-2)) hx hb dX5_worth_17 (by decide) ?_
    refine qx_Vi (C := RX5) (As := [.int ((-2))]) (rest := []) (ci := 5) (k0 := 0) (wr := (fO ((fun i => x (1 + i)))) ++ (pW ((fun i => x (2 + i))) cI P)) (ws2 := fun u => (xO x X) ++ (fO ((fun i => x (1 + i)))) ++ (pW ((fun i => x (2 + i))) cI P) ++ ([(x 15, .inl (cI, 3, .inl u))])) [0, 6] [1, 2, 3, 4, 5] [5, 0, 1, 2, 3, 4, 6] ⟨hx, hb, hml, hown, hts⟩ (c_X5_refuse l dC dI x cI s.heap.size X Rf ((-2)) ) (cwV 1 hts gX5_worth_X5_refuse rfl rfl rfl (by decide +kernel) ⟨Nat.le_of_ble_eq_true rfl, Nat.le_of_ble_eq_true rfl⟩) (hK.sub [0] rfl) hK hP hD hS hA hN rfl rfl (by decide) (by decide) (by decide) (by decide) (fun _ => rfl) rfl rfl rfl rfl hl.1 rfl (Nat.le_of_ble_eq_true rfl) dX5_worth_19 ⟨Nat.zero_le _, Nat.zero_le _⟩ (fun r_19 u_19 H locs hw_19 hP hD hS => ?_)
    obtain ⟨Rf_19, rfl⟩ : ∃ z, z = u_19 := ⟨_, rfl⟩
    have hP : va_P (dC, dI) vwCl ((xO x X) ++ (fO ((fun i => x (1 + i)))) ++ (pW ((fun i => x (2 + i))) cI P) ++ ([(x 15, .inl (cI, 3, .inl Rf_19))])) H := hP
    have hD : va_D A ((xO x X) ++ (fO ((fun i => x (1 + i)))) ++ (pW ((fun i => x (2 + i))) cI P) ++ ([(x 15, .inl (cI, 3, .inl Rf_19))])) := hD
    rw [hw_19, let2_mk r_19 Rf_19] at hF
    have hP9 : va_P (dC, dI) vwCl ((xO x X) ++ (fO ((fun i => x (1 + i)))) ++ (pW ((fun i => x (2 + i))) cI P) ++ ([(x 15, .inl (cI, 3, .inl Rf_19))])) H := hP
    exact W.iret (v := r_19) hx hb hr (fun t ht hW => ⟨⟨_, (Rf_19), rfl, hO.symm.trans hF, by rw [ht]; exact hP9, va_K.moved hW.alike hK, hD⟩, hS.F ht⟩) hS.2.2 dX5_worth_22
  · rw [if_pos c_4] at hF
    obtain ⟨f_h, fa_h, fb_h⟩ := isHit_nat c_4
    have e_h := tN_eq f_h
    refine lv_iload_n hx hb dX5_worth_7 rfl (lv_at hl 2 rfl) ?_
    refine lv_iconst (v := nI 0) hx hb dX5_worth_8 (by decide) ?_
    refine lv_iconst (v := nI 1) hx hb dX5_worth_9 (by decide) ?_
    refine qc_Si (As := [.int wh, .int (nI 0), .int (nI 1)]) (rest := []) ⟨hx, hb, hml, hown, hts⟩ (c_X5_within l wh (nI 0) (nI 1)) (va_cwS 3 hts gX5_worth_X5_within rfl rfl rfl (by decide +kernel) ⟨Nat.le_of_ble_eq_true rfl, Nat.le_of_ble_eq_true rfl⟩) rfl hl.1 rfl (Nat.le_of_ble_eq_true rfl) dX5_worth_10 ⟨Nat.zero_le _, Nat.zero_le _⟩ (fun r_10 hw_10 => ?_)
    subst hw_10
    refine qv_zif_ne (tgt := 23) hx hb dX5_worth_13 (by decide) (fun c_13 => ?_) (fun c_13 => ?_)
    · rw [if_pos c_13] at hF
      obtain ⟨f_wh, fa_wh, fb_wh⟩ := within_nat (by decide) (by decide) c_13
      have e_wh := tN_eq f_wh
      refine lv_iload_n hx hb dX5_worth_23 rfl (lv_at hl 2 rfl) ?_
      refine qv_top (e_wh) ?_
      refine qv_if_ne (tgt := 41) hx hb dX5_worth_24 (by decide) (by omega) (fun c_24 => ?_) (fun c_24 => ?_)
      · rw [if_neg c_24] at hF
        refine lv_iconst (v := nI 0) hx hb dX5_worth_41 (by decide) ?_
        refine lv_aload_n hx hb dX5_worth_42 rfl (lv_at hl 0 rfl) ?_
        refine va_get (D := (dC, dI)) (ci := 5) (v := .ref (x 1)) (C := RX5) (T := TX5) (N := 14) hx hb hts hin5 hown hK hP 0 rfl rfl 0 (by decide) lk12 (fun _ h9 => h9) rfl dX5_worth_43 ?_
        refine va_get (D := (dC, dI)) (ci := 1) (v := .ref (x 2)) (C := RX1) (T := TX1) (N := 5) hx hb hts hin1 hown hK hP 1 rfl rfl 0 (by decide) lk74 (fun _ h9 => h9) rfl dX5_worth_46 ?_
        refine lv_iload_n hx hb dX5_worth_49 rfl (lv_at hl 1 rfl) ?_
        refine qv_top (e_h) ?_
        refine qx_Vi (C := RX2) (As := [.int (nI (tN h))]) (rest := [.int (nI 0)]) (ci := 2) (k0 := 2) (wr := (xO x X) ++ (fO ((fun i => x (1 + i)))) ++ ([(x 15, .inl (cI, 3, .inl Rf))])) (ws2 := fun u => (xO x X) ++ (fO ((fun i => x (1 + i)))) ++ (pW ((fun i => x (2 + i))) cI P) ++ ([(x 15, .inl (cI, 3, .inl Rf))])) [2, 3, 4, 5] [0, 1, 6] [0, 1, 3, 4, 5, 6, 2] ⟨hx, hb, hml, hown, hts⟩ (c_X2_postsBy l dC dI (fun i => x (2 + i)) cI s.heap.size P (nI (tN h)) (pz : inB (Psz P) 6)) (cwV 1 hts gX5_worth_X2_postsBy rfl rfl rfl (by decide +kernel) ⟨Nat.le_of_ble_eq_true rfl, Nat.le_of_ble_eq_true rfl⟩) (hK.sub [0] rfl) hK hP hD hS hA hN rfl rfl (by decide) (by decide) (by decide) (by decide) (fun _ => rfl) rfl rfl rfl rfl hl.1 rfl (Nat.le_of_ble_eq_true rfl) dX5_worth_50 ⟨Nat.zero_le _, Nat.zero_le _⟩ (fun r_50 u_50 H locs hw_50 hP hD hS => ?_)
        have hP : va_P (dC, dI) vwCl ((xO x X) ++ (fO ((fun i => x (1 + i)))) ++ (pW ((fun i => x (2 + i))) cI P) ++ ([(x 15, .inl (cI, 3, .inl Rf))])) H := hP
        have hD : va_D A ((xO x X) ++ (fO ((fun i => x (1 + i)))) ++ (pW ((fun i => x (2 + i))) cI P) ++ ([(x 15, .inl (cI, 3, .inl Rf))])) := hD
        rw [hw_50, let1_mk r_50] at hF
        refine va_mmax hx hb (hml.trans hl.1.symm) hown (hts (.methodLink RX5 168 Lib.Math.max.name) (by decide +kernel)) (hts (.static Lib.Math.max.name) (by decide +kernel)) (hts (.initialized "java/lang/Math") (by decide +kernel)) (hts (.code Lib.Math.max.name Lib.Math.max.code 2 (some .int)) (by decide +kernel)) (Nat.le_of_ble_eq_true rfl) (Nat.le_of_ble_eq_true rfl) (Nat.zero_le _) (Nat.zero_le _) dX5_worth_53 ?_
        by_cases c_53 : (nI 0) < r_50
        · rw [if_pos c_53] at hF ⊢
          have hP9 : va_P (dC, dI) vwCl ((xO x X) ++ (fO ((fun i => x (1 + i)))) ++ (pW ((fun i => x (2 + i))) cI P) ++ ([(x 15, .inl (cI, 3, .inl Rf))])) H := hP
          exact W.iret (v := r_50) hx hb hr (fun t ht hW => ⟨⟨_, (Rf), rfl, hO.symm.trans hF, by rw [ht]; exact hP9, va_K.moved hW.alike hK, hD⟩, hS.F ht⟩) hS.2.2 dX5_worth_56
        · rw [if_neg c_53] at hF ⊢
          have hP9 : va_P (dC, dI) vwCl ((xO x X) ++ (fO ((fun i => x (1 + i)))) ++ (pW ((fun i => x (2 + i))) cI P) ++ ([(x 15, .inl (cI, 3, .inl Rf))])) H := hP
          exact W.iret (v := nI 0) hx hb hr (fun t ht hW => ⟨⟨_, (Rf), rfl, hO.symm.trans hF, by rw [ht]; exact hP9, va_K.moved hW.alike hK, hD⟩, hS.F ht⟩) hS.2.2 dX5_worth_56
      · rw [if_pos c_24] at hF
        refine lv_aload_n hx hb dX5_worth_27 rfl (lv_at hl 0 rfl) ?_
        refine va_get (D := (dC, dI)) (ci := 5) (v := .ref (x 1)) (C := RX5) (T := TX5) (N := 14) hx hb hts hin5 hown hK hP 0 rfl rfl 0 (by decide) lk12 (fun _ h9 => h9) rfl dX5_worth_28 ?_
        refine va_get (D := (dC, dI)) (ci := 1) (v := .ref (x 2)) (C := RX1) (T := TX1) (N := 5) hx hb hts hin1 hown hK hP 1 rfl rfl 0 (by decide) lk74 (fun _ h9 => h9) rfl dX5_worth_31 ?_
        refine lv_iload_n hx hb dX5_worth_34 rfl (lv_at hl 1 rfl) ?_
        refine qv_top (e_h) ?_
        refine qx_Vi (C := RX2) (As := [.int (nI (tN h))]) (rest := []) (ci := 2) (k0 := 2) (wr := (xO x X) ++ (fO ((fun i => x (1 + i)))) ++ ([(x 15, .inl (cI, 3, .inl Rf))])) (ws2 := fun u => (xO x X) ++ (fO ((fun i => x (1 + i)))) ++ (pW ((fun i => x (2 + i))) cI P) ++ ([(x 15, .inl (cI, 3, .inl Rf))])) [2, 3, 4, 5] [0, 1, 6] [0, 1, 3, 4, 5, 6, 2] ⟨hx, hb, hml, hown, hts⟩ (c_X2_comesTo l dC dI (fun i => x (2 + i)) cI s.heap.size P (nI (tN h)) ) (cwV 1 hts gX5_worth_X2_comesTo rfl rfl rfl (by decide +kernel) ⟨Nat.le_of_ble_eq_true rfl, Nat.le_of_ble_eq_true rfl⟩) (hK.sub [0] rfl) hK hP hD hS hA hN rfl rfl (by decide) (by decide) (by decide) (by decide) (fun _ => rfl) rfl rfl rfl rfl hl.1 rfl (Nat.le_of_ble_eq_true rfl) dX5_worth_35 ⟨Nat.zero_le _, Nat.zero_le _⟩ (fun r_35 u_35 H locs hw_35 hP hD hS => ?_)
        have hP : va_P (dC, dI) vwCl ((xO x X) ++ (fO ((fun i => x (1 + i)))) ++ (pW ((fun i => x (2 + i))) cI P) ++ ([(x 15, .inl (cI, 3, .inl Rf))])) H := hP
        have hD : va_D A ((xO x X) ++ (fO ((fun i => x (1 + i)))) ++ (pW ((fun i => x (2 + i))) cI P) ++ ([(x 15, .inl (cI, 3, .inl Rf))])) := hD
        rw [hw_35, let1_mk r_35] at hF
        refine lv_goto (tgt := 56) hx hb dX5_worth_38 (by decide) ?_
        have hP9 : va_P (dC, dI) vwCl ((xO x X) ++ (fO ((fun i => x (1 + i)))) ++ (pW ((fun i => x (2 + i))) cI P) ++ ([(x 15, .inl (cI, 3, .inl Rf))])) H := hP
        exact W.iret (v := r_35) hx hb hr (fun t ht hW => ⟨⟨_, (Rf), rfl, hO.symm.trans hF, by rw [ht]; exact hP9, va_K.moved hW.alike hK, hD⟩, hS.F ht⟩) hS.2.2 dX5_worth_56
    · rw [if_neg c_13] at hF
      refine lv_aload_n hx hb dX5_worth_16 rfl (lv_at hl 0 rfl) ?_
      refine lv_bipush (v := (-2)) hx hb dX5_worth_17 (by decide) ?_
      refine qx_Vi (C := RX5) (As := [.int ((-2))]) (rest := []) (ci := 5) (k0 := 0) (wr := (fO ((fun i => x (1 + i)))) ++ (pW ((fun i => x (2 + i))) cI P)) (ws2 := fun u => (xO x X) ++ (fO ((fun i => x (1 + i)))) ++ (pW ((fun i => x (2 + i))) cI P) ++ ([(x 15, .inl (cI, 3, .inl u))])) [0, 6] [1, 2, 3, 4, 5] [5, 0, 1, 2, 3, 4, 6] ⟨hx, hb, hml, hown, hts⟩ (c_X5_refuse l dC dI x cI s.heap.size X Rf ((-2)) ) (cwV 1 hts gX5_worth_X5_refuse rfl rfl rfl (by decide +kernel) ⟨Nat.le_of_ble_eq_true rfl, Nat.le_of_ble_eq_true rfl⟩) (hK.sub [0] rfl) hK hP hD hS hA hN rfl rfl (by decide) (by decide) (by decide) (by decide) (fun _ => rfl) rfl rfl rfl rfl hl.1 rfl (Nat.le_of_ble_eq_true rfl) dX5_worth_19 ⟨Nat.zero_le _, Nat.zero_le _⟩ (fun r_19 u_19 H locs hw_19 hP hD hS => ?_)
      obtain ⟨Rf_19, rfl⟩ : ∃ z, z = u_19 := ⟨_, rfl⟩
      have hP : va_P (dC, dI) vwCl ((xO x X) ++ (fO ((fun i => x (1 + i)))) ++ (pW ((fun i => x (2 + i))) cI P) ++ ([(x 15, .inl (cI, 3, .inl Rf_19))])) H := hP
      have hD : va_D A ((xO x X) ++ (fO ((fun i => x (1 + i)))) ++ (pW ((fun i => x (2 + i))) cI P) ++ ([(x 15, .inl (cI, 3, .inl Rf_19))])) := hD
      rw [hw_19, let2_mk r_19 Rf_19] at hF
      have hP9 : va_P (dC, dI) vwCl ((xO x X) ++ (fO ((fun i => x (1 + i)))) ++ (pW ((fun i => x (2 + i))) cI P) ++ ([(x 15, .inl (cI, 3, .inl Rf_19))])) H := hP
      exact W.iret (v := r_19) hx hb hr (fun t ht hW => ⟨⟨_, (Rf_19), rfl, hO.symm.trans hF, by rw [ht]; exact hP9, va_K.moved hW.alike hK, hD⟩, hS.F ht⟩) hS.2.2 dX5_worth_22
def F_X5_scoreAgainst (P : pS) (Rw : Nat → Int32) (Tr : pS) (k : Int32) (nx : Int32) (n : Nat) : Int32 × (pS) := let1 (F_X2_copy Tr P) (fun Tr_11 => let2 (F_X2_playHits ((k, Psz Tr_11, Pkd Tr_11, Plg Tr_11, Pwh Tr_11, nx, Ppt Tr_11, Pbl Tr_11)) Rw n) (fun r_42 Tr_42 => (r_42, Tr_42)))
set_option maxHeartbeats 4000000 in
set_option maxRecDepth 100000 in
theorem c_X5_scoreAgainst (l : Launch) (dC : Nat → ClassId) (dI : Nat → Nat → Nat) (x : Nat → Nat) (cI : ClassId) (sz : Nat) (X : xS) (P : pS) (Rw : Nat → Int32) (Tr : pS) (k : Int32) (nx : Int32) (n : Nat) (pz : inB (Psz P) 6) (hn : n < 2 ^ 31) : Met l yX5_scoreAgainst wsX5_scoreAgainst { frames := 4, cells := 0, slots := 0, locals := 91 } (xPc (dC, dI) vwCl (xT cI) ((xO x X) ++ (fO ((fun i => x (1 + i)))) ++ (pW ((fun i => x (2 + i))) cI P) ++ ([(x 6, .inl (cI, 8, .inl Rw))]) ++ (pW ((fun i => x (51 + i))) cI Tr)) sz [.ref (x 0), .int k, .int nx, .int (nI n)]) (va_Qi (fun (r : Int32) (u : (pS)) => F_X5_scoreAgainst P Rw Tr k nx n = (r, u)) (mB (dC, dI) vwCl (xT cI) (va_A ((xO x X) ++ (fO ((fun i => x (1 + i)))) ++ (pW ((fun i => x (2 + i))) cI P) ++ ([(x 6, .inl (cI, 8, .inl Rw))]) ++ (pW ((fun i => x (51 + i))) cI Tr)) sz) (fun u => (xO x X) ++ (fO ((fun i => x (1 + i)))) ++ (pW ((fun i => x (2 + i))) cI P) ++ ([(x 6, .inl (cI, 8, .inl Rw))]) ++ (pW ((fun i => x (51 + i))) cI u))) (va_A ((xO x X) ++ (fO ((fun i => x (1 + i)))) ++ (pW ((fun i => x (2 + i))) cI P) ++ ([(x 6, .inl (cI, 8, .inl Rw))]) ++ (pW ((fun i => x (51 + i))) cI Tr)) sz)) 0 0 (va_A ((xO x X) ++ (fO ((fun i => x (1 + i)))) ++ (pW ((fun i => x (2 + i))) cI P) ++ ([(x 6, .inl (cI, 8, .inl Rw))]) ++ (pW ((fun i => x (51 + i))) cI Tr)) sz) := by
  refine Met.ofW (cc := cX5_scoreAgainst) (maxL := 4) (ret := (some .int)) (by decide) rfl ?_
  intro p e s m args below meth c s₁ B hml hv
  obtain ⟨rfl, hsz, hP, hK, hD0, hN⟩ := hv
  have hx := B.exec
  have hb := B.bytes
  have hr := B.returns
  have hts := atoms_spec (ws := wsX5_scoreAgainst) B.pre
  have hown : s.vm.findClass RX5 = some m.cls := findClass_of_methodNamed B.named
  have hlocks := B.notSynchronized
  subst hsz
  have hD := hD0.self (sz := s.heap.size)
  generalize hAe : va_A ((xO x X) ++ (fO ((fun i => x (1 + i)))) ++ (pW ((fun i => x (2 + i))) cI P) ++ ([(x 6, .inl (cI, 8, .inl Rw))]) ++ (pW ((fun i => x (51 + i))) cI Tr)) s.heap.size = A at hD ⊢
  have hA : ∀ q : Nat, s.heap.size ≤ q → A q := fun q h => by rw [← hAe]; exact Or.inr h
  have hS : va_S A s.heap s.heap [] := va_S.rf
  have hin1 : ∀ w ∈ wsX10, w ∈ wsX5_scoreAgainst := by decide +kernel
  have hin2 : ∀ w ∈ wsX20, w ∈ wsX5_scoreAgainst := by decide +kernel
  have hin5 : ∀ w ∈ wsX50, w ∈ wsX5_scoreAgainst := by decide +kernel
  have lk12 := hts (.fieldLink RX5 12 "PostRounders" "now" "LPostRounders$Field;") (by decide +kernel)
  have lk48 := hts (.fieldLink RX5 48 "PostRounders" "trial" "LPostRounders$Play;") (by decide +kernel)
  have lk74 := hts (.fieldLink RX5 74 "PostRounders$Field" "play" "LPostRounders$Play;") (by decide +kernel)
  have lk85 := hts (.fieldLink RX5 85 "PostRounders$Play" "bowler" "I") (by decide +kernel)
  have lk147 := hts (.fieldLink RX5 147 "PostRounders$Play" "next" "I") (by decide +kernel)
  have lk150 := hts (.fieldLink RX5 150 "PostRounders$Field" "rowHits" "[I") (by decide +kernel)
  have hl := lv_entry ([.ref (x 0), .int k, .int nx, .int (nI n)]) (n := 4) (Nat.le_of_ble_eq_true rfl)
  rw [lg_entry_eq]
  generalize (lg_sl ([.ref (x 0), .int k, .int nx, .int (nI n)]) ++ List.replicate (4 - (lg_sl ([.ref (x 0), .int k, .int nx, .int (nI n)])).length) Slot.unset).toArray = ls at hl ⊢
  have hl : lv_has ls 4 [(0, .ref (x 0)), (1, .int k), (2, .int nx), (3, .int (nI n))] := hl
  obtain ⟨OUT, hO⟩ : ∃ z, z = F_X5_scoreAgainst P Rw Tr k nx n := ⟨_, rfl⟩
  have hF := hO
  unfold F_X5_scoreAgainst at hF
  have e_pz := tN_eq pz.1
  have b_pz := pz.2
  refine lv_aload_n hx hb dX5_scoreAgainst_0 rfl (lv_at hl 0 rfl) ?_
  refine va_get (D := (dC, dI)) (ci := 5) (v := .ref (x 51)) (C := RX5) (T := TX5) (N := 14) hx hb hts hin5 hown hK hP 0 rfl rfl 9 (by decide) lk48 (fun _ h9 => h9) rfl dX5_scoreAgainst_1 ?_
  refine lv_aload_n hx hb dX5_scoreAgainst_4 rfl (lv_at hl 0 rfl) ?_
  refine va_get (D := (dC, dI)) (ci := 5) (v := .ref (x 1)) (C := RX5) (T := TX5) (N := 14) hx hb hts hin5 hown hK hP 0 rfl rfl 0 (by decide) lk12 (fun _ h9 => h9) rfl dX5_scoreAgainst_5 ?_
  refine va_get (D := (dC, dI)) (ci := 1) (v := .ref (x 2)) (C := RX1) (T := TX1) (N := 5) hx hb hts hin1 hown hK hP 1 rfl rfl 0 (by decide) lk74 (fun _ h9 => h9) rfl dX5_scoreAgainst_8 ?_
  refine qx_Vv (C := RX2) (As := [.ref (x 2)]) (rest := []) (ci := 2) (k0 := 7) (wr := (xO x X) ++ (fO ((fun i => x (1 + i)))) ++ ([(x 6, .inl (cI, 8, .inl Rw))])) (ws2 := fun u => (xO x X) ++ (fO ((fun i => x (1 + i)))) ++ (pW ((fun i => x (2 + i))) cI P) ++ ([(x 6, .inl (cI, 8, .inl Rw))]) ++ (pW ((fun i => x (51 + i))) cI u)) [7, 8, 9, 10, 2, 3, 4, 5] [0, 1, 6] [0, 1, 7, 8, 9, 10, 2, 3, 4, 5, 6] ⟨hx, hb, hml, hown, hts⟩ (c_X2_copy l dC dI (fun i => x (51 + i)) (fun i => x (2 + i)) cI s.heap.size Tr P  ) (cwV 1 hts gX5_scoreAgainst_X2_copy rfl rfl rfl (by decide +kernel) ⟨Nat.le_of_ble_eq_true rfl, Nat.le_of_ble_eq_true rfl⟩) (hK.sub [0] rfl) hK hP hD hS hA hN rfl rfl (by decide) (by decide) (by decide) (by decide) (fun _ => rfl) rfl rfl rfl rfl hl.1 rfl (Nat.le_of_ble_eq_true rfl) dX5_scoreAgainst_11 ⟨Nat.zero_le _, Nat.zero_le _⟩ (fun u_11 H locs hw_11 hP hD hS => ?_)
  obtain ⟨Tr_11, rfl⟩ : ∃ z, z = u_11 := ⟨_, rfl⟩
  have hP : va_P (dC, dI) vwCl ((xO x X) ++ (fO ((fun i => x (1 + i)))) ++ (pW ((fun i => x (2 + i))) cI P) ++ ([(x 6, .inl (cI, 8, .inl Rw))]) ++ (pW ((fun i => x (51 + i))) cI Tr_11)) H := hP
  have hD : va_D A ((xO x X) ++ (fO ((fun i => x (1 + i)))) ++ (pW ((fun i => x (2 + i))) cI P) ++ ([(x 6, .inl (cI, 8, .inl Rw))]) ++ (pW ((fun i => x (51 + i))) cI Tr_11)) := hD
  have v_11 : Psz Tr_11 = Psz P := by rw [← hw_11]; rfl
  rw [hw_11, let1_mk Tr_11] at hF
  refine lv_aload_n hx hb dX5_scoreAgainst_14 rfl (lv_at hl 0 rfl) ?_
  refine va_get (D := (dC, dI)) (ci := 5) (v := .ref (x 51)) (C := RX5) (T := TX5) (N := 14) hx hb hts hin5 hown hK hP 0 rfl rfl 9 (by decide) lk48 (fun _ h9 => h9) rfl dX5_scoreAgainst_15 ?_
  refine lv_iload_n hx hb dX5_scoreAgainst_18 rfl (lv_at hl 1 rfl) ?_
  refine va_put (D := (dC, dI)) (ci := 2) (v := .int k) (ty := .int) (C := RX2) (T := TX2) (N := 8) hx hb hts hin2 tyX2 tyX2_ok nmX2 hown hK hP hD hS 7 rfl rfl 0 (by decide) lk85 (fun _ h9 => h9) rfl (by decide +kernel) rfl rfl (Nat.le_of_ble_eq_true rfl) dX5_scoreAgainst_19 (fun H locs hP hD hS => ?_)
  have hP : va_P (dC, dI) vwCl ((xO x X) ++ (fO ((fun i => x (1 + i)))) ++ (pW ((fun i => x (2 + i))) cI P) ++ ([(x 6, .inl (cI, 8, .inl Rw))]) ++ (pW ((fun i => x (51 + i))) cI ((k, Psz Tr_11, Pkd Tr_11, Plg Tr_11, Pwh Tr_11, Pnx Tr_11, Ppt Tr_11, Pbl Tr_11)))) H := hP
  have hD : va_D A ((xO x X) ++ (fO ((fun i => x (1 + i)))) ++ (pW ((fun i => x (2 + i))) cI P) ++ ([(x 6, .inl (cI, 8, .inl Rw))]) ++ (pW ((fun i => x (51 + i))) cI ((k, Psz Tr_11, Pkd Tr_11, Plg Tr_11, Pwh Tr_11, Pnx Tr_11, Ppt Tr_11, Pbl Tr_11)))) := hD
  refine lv_aload_n hx hb dX5_scoreAgainst_22 rfl (lv_at hl 0 rfl) ?_
  refine va_get (D := (dC, dI)) (ci := 5) (v := .ref (x 51)) (C := RX5) (T := TX5) (N := 14) hx hb hts hin5 hown hK hP 0 rfl rfl 9 (by decide) lk48 (fun _ h9 => h9) rfl dX5_scoreAgainst_23 ?_
  refine lv_iload_n hx hb dX5_scoreAgainst_26 rfl (lv_at hl 2 rfl) ?_
  refine va_put (D := (dC, dI)) (ci := 2) (v := .int nx) (ty := .int) (C := RX2) (T := TX2) (N := 8) hx hb hts hin2 tyX2 tyX2_ok nmX2 hown hK hP hD hS 7 rfl rfl 5 (by decide) lk147 (fun _ h9 => h9) rfl (by decide +kernel) rfl rfl (Nat.le_of_ble_eq_true rfl) dX5_scoreAgainst_27 (fun H locs hP hD hS => ?_)
  have hP : va_P (dC, dI) vwCl ((xO x X) ++ (fO ((fun i => x (1 + i)))) ++ (pW ((fun i => x (2 + i))) cI P) ++ ([(x 6, .inl (cI, 8, .inl Rw))]) ++ (pW ((fun i => x (51 + i))) cI ((k, Psz Tr_11, Pkd Tr_11, Plg Tr_11, Pwh Tr_11, nx, Ppt Tr_11, Pbl Tr_11)))) H := hP
  have hD : va_D A ((xO x X) ++ (fO ((fun i => x (1 + i)))) ++ (pW ((fun i => x (2 + i))) cI P) ++ ([(x 6, .inl (cI, 8, .inl Rw))]) ++ (pW ((fun i => x (51 + i))) cI ((k, Psz Tr_11, Pkd Tr_11, Plg Tr_11, Pwh Tr_11, nx, Ppt Tr_11, Pbl Tr_11)))) := hD
  refine lv_aload_n hx hb dX5_scoreAgainst_30 rfl (lv_at hl 0 rfl) ?_
  refine va_get (D := (dC, dI)) (ci := 5) (v := .ref (x 51)) (C := RX5) (T := TX5) (N := 14) hx hb hts hin5 hown hK hP 0 rfl rfl 9 (by decide) lk48 (fun _ h9 => h9) rfl dX5_scoreAgainst_31 ?_
  refine lv_aload_n hx hb dX5_scoreAgainst_34 rfl (lv_at hl 0 rfl) ?_
  refine va_get (D := (dC, dI)) (ci := 5) (v := .ref (x 1)) (C := RX5) (T := TX5) (N := 14) hx hb hts hin5 hown hK hP 0 rfl rfl 0 (by decide) lk12 (fun _ h9 => h9) rfl dX5_scoreAgainst_35 ?_
  refine va_get (D := (dC, dI)) (ci := 1) (v := .ref (x 6)) (C := RX1) (T := TX1) (N := 5) hx hb hts hin1 hown hK hP 1 rfl rfl 1 (by decide) lk150 (fun _ h9 => h9) rfl dX5_scoreAgainst_38 ?_
  refine lv_iload_n hx hb dX5_scoreAgainst_41 rfl (lv_at hl 3 rfl) ?_
  refine qx_Vi (C := RX2) (As := [.ref (x 6), .int (nI n)]) (rest := []) (ci := 2) (k0 := 7) (wr := (xO x X) ++ (fO ((fun i => x (1 + i)))) ++ (pW ((fun i => x (2 + i))) cI P)) (ws2 := fun u => (xO x X) ++ (fO ((fun i => x (1 + i)))) ++ (pW ((fun i => x (2 + i))) cI P) ++ ([(x 6, .inl (cI, 8, .inl Rw))]) ++ (pW ((fun i => x (51 + i))) cI u)) [7, 8, 9, 10, 6] [0, 1, 2, 3, 4, 5] [0, 1, 2, 3, 4, 5, 10, 6, 7, 8, 9] ⟨hx, hb, hml, hown, hts⟩ (c_X2_playHits l dC dI (fun i => x (51 + i)) (x 6) cI H.size ((k, Psz Tr_11, Pkd Tr_11, Plg Tr_11, Pwh Tr_11, nx, Ppt Tr_11, Pbl Tr_11)) Rw n (by rw [show Psz Tr_11 = Psz P from v_11]; exact (pz : inB (Psz P) 6)) (by omega)) (cwV 2 hts gX5_scoreAgainst_X2_playHits rfl rfl rfl (by decide +kernel) ⟨Nat.le_of_ble_eq_true rfl, Nat.le_of_ble_eq_true rfl⟩) (hK.sub [0] rfl) hK hP hD hS hA hN rfl rfl (by decide) (by decide) (by decide) (by decide) (fun _ => rfl) rfl rfl rfl rfl hl.1 rfl (Nat.le_of_ble_eq_true rfl) dX5_scoreAgainst_42 ⟨Nat.zero_le _, Nat.zero_le _⟩ (fun r_42 u_42 H locs hw_42 hP hD hS => ?_)
  obtain ⟨Tr_42, rfl⟩ : ∃ z, z = u_42 := ⟨_, rfl⟩
  have hP : va_P (dC, dI) vwCl ((xO x X) ++ (fO ((fun i => x (1 + i)))) ++ (pW ((fun i => x (2 + i))) cI P) ++ ([(x 6, .inl (cI, 8, .inl Rw))]) ++ (pW ((fun i => x (51 + i))) cI Tr_42)) H := hP
  have hD : va_D A ((xO x X) ++ (fO ((fun i => x (1 + i)))) ++ (pW ((fun i => x (2 + i))) cI P) ++ ([(x 6, .inl (cI, 8, .inl Rw))]) ++ (pW ((fun i => x (51 + i))) cI Tr_42)) := hD
  rw [hw_42, let2_mk r_42 Tr_42] at hF
  have hP9 : va_P (dC, dI) vwCl ((xO x X) ++ (fO ((fun i => x (1 + i)))) ++ (pW ((fun i => x (2 + i))) cI P) ++ ([(x 6, .inl (cI, 8, .inl Rw))]) ++ (pW ((fun i => x (51 + i))) cI Tr_42)) H := hP
  exact W.iret (v := r_42) hx hb hr (fun t ht hW => ⟨⟨_, (Tr_42), rfl, hO.symm.trans hF, by rw [ht]; exact hP9, va_K.moved hW.alike hK, hD⟩, hS.F ht⟩) hS.2.2 dX5_scoreAgainst_45
def F_X5_score (P : pS) (Rw : Nat → Int32) (Rf : Nat → Int32) (Tr : pS) (n : Int32) : Int32 × (pS) × (Nat → Int32) := if (F_X5_within n (nI 0) (nI 8)) = true then let2 (F_X5_scoreAgainst P Rw Tr (Pbo P) (Pnx P) (tN n)) (fun r_39 Tr_39 => (r_39, Tr_39, Rf)) else let2 (F_X5_refuse Rf ((-2))) (fun r_13 Rf_13 => (r_13, Tr, Rf_13))
set_option maxHeartbeats 4000000 in
set_option maxRecDepth 100000 in
theorem c_X5_score (l : Launch) (dC : Nat → ClassId) (dI : Nat → Nat → Nat) (x : Nat → Nat) (cI : ClassId) (sz : Nat) (X : xS) (P : pS) (Rw : Nat → Int32) (Rf : Nat → Int32) (Tr : pS) (n : Int32) (pz : inB (Psz P) 6) : Met l yX5_score wsX5_score { frames := 5, cells := 0, slots := 0, locals := 114 } (xPc (dC, dI) vwCl (xT cI) ((xO x X) ++ (fO ((fun i => x (1 + i)))) ++ (pW ((fun i => x (2 + i))) cI P) ++ ([(x 6, .inl (cI, 8, .inl Rw))]) ++ ([(x 15, .inl (cI, 3, .inl Rf))]) ++ (pW ((fun i => x (51 + i))) cI Tr)) sz [.ref (x 0), .int n]) (va_Qi (fun (r : Int32) (u : (pS) × (Nat → Int32)) => F_X5_score P Rw Rf Tr n = (r, u)) (mB (dC, dI) vwCl (xT cI) (va_A ((xO x X) ++ (fO ((fun i => x (1 + i)))) ++ (pW ((fun i => x (2 + i))) cI P) ++ ([(x 6, .inl (cI, 8, .inl Rw))]) ++ ([(x 15, .inl (cI, 3, .inl Rf))]) ++ (pW ((fun i => x (51 + i))) cI Tr)) sz) (fun u => (xO x X) ++ (fO ((fun i => x (1 + i)))) ++ (pW ((fun i => x (2 + i))) cI P) ++ ([(x 6, .inl (cI, 8, .inl Rw))]) ++ ([(x 15, .inl (cI, 3, .inl (u.2)))]) ++ (pW ((fun i => x (51 + i))) cI (u.1)))) (va_A ((xO x X) ++ (fO ((fun i => x (1 + i)))) ++ (pW ((fun i => x (2 + i))) cI P) ++ ([(x 6, .inl (cI, 8, .inl Rw))]) ++ ([(x 15, .inl (cI, 3, .inl Rf))]) ++ (pW ((fun i => x (51 + i))) cI Tr)) sz)) 0 0 (va_A ((xO x X) ++ (fO ((fun i => x (1 + i)))) ++ (pW ((fun i => x (2 + i))) cI P) ++ ([(x 6, .inl (cI, 8, .inl Rw))]) ++ ([(x 15, .inl (cI, 3, .inl Rf))]) ++ (pW ((fun i => x (51 + i))) cI Tr)) sz) := by
  refine Met.ofW (cc := cX5_score) (maxL := 2) (ret := (some .int)) (by decide) rfl ?_
  intro p e s m args below meth c s₁ B hml hv
  obtain ⟨rfl, hsz, hP, hK, hD0, hN⟩ := hv
  have hx := B.exec
  have hb := B.bytes
  have hr := B.returns
  have hts := atoms_spec (ws := wsX5_score) B.pre
  have hown : s.vm.findClass RX5 = some m.cls := findClass_of_methodNamed B.named
  have hlocks := B.notSynchronized
  subst hsz
  have hD := hD0.self (sz := s.heap.size)
  generalize hAe : va_A ((xO x X) ++ (fO ((fun i => x (1 + i)))) ++ (pW ((fun i => x (2 + i))) cI P) ++ ([(x 6, .inl (cI, 8, .inl Rw))]) ++ ([(x 15, .inl (cI, 3, .inl Rf))]) ++ (pW ((fun i => x (51 + i))) cI Tr)) s.heap.size = A at hD ⊢
  have hA : ∀ q : Nat, s.heap.size ≤ q → A q := fun q h => by rw [← hAe]; exact Or.inr h
  have hS : va_S A s.heap s.heap [] := va_S.rf
  have hin1 : ∀ w ∈ wsX10, w ∈ wsX5_score := by decide +kernel
  have hin2 : ∀ w ∈ wsX20, w ∈ wsX5_score := by decide +kernel
  have hin5 : ∀ w ∈ wsX50, w ∈ wsX5_score := by decide +kernel
  have lk12 := hts (.fieldLink RX5 12 "PostRounders" "now" "LPostRounders$Field;") (by decide +kernel)
  have lk74 := hts (.fieldLink RX5 74 "PostRounders$Field" "play" "LPostRounders$Play;") (by decide +kernel)
  have lk85 := hts (.fieldLink RX5 85 "PostRounders$Play" "bowler" "I") (by decide +kernel)
  have lk147 := hts (.fieldLink RX5 147 "PostRounders$Play" "next" "I") (by decide +kernel)
  have hl := lv_entry ([.ref (x 0), .int n]) (n := 2) (Nat.le_of_ble_eq_true rfl)
  rw [lg_entry_eq]
  generalize (lg_sl ([.ref (x 0), .int n]) ++ List.replicate (2 - (lg_sl ([.ref (x 0), .int n])).length) Slot.unset).toArray = ls at hl ⊢
  have hl : lv_has ls 2 [(0, .ref (x 0)), (1, .int n)] := hl
  obtain ⟨OUT, hO⟩ : ∃ z, z = F_X5_score P Rw Rf Tr n := ⟨_, rfl⟩
  have hF := hO
  unfold F_X5_score at hF
  have e_pz := tN_eq pz.1
  have b_pz := pz.2
  refine lv_iload_n hx hb dX5_score_0 rfl (lv_at hl 1 rfl) ?_
  refine lv_iconst (v := nI 0) hx hb dX5_score_1 (by decide) ?_
  refine lv_bipush (v := nI 8) hx hb dX5_score_2 (by decide) ?_
  refine qc_Si (As := [.int n, .int (nI 0), .int (nI 8)]) (rest := []) ⟨hx, hb, hml, hown, hts⟩ (c_X5_within l n (nI 0) (nI 8)) (va_cwS 3 hts gX5_score_X5_within rfl rfl rfl (by decide +kernel) ⟨Nat.le_of_ble_eq_true rfl, Nat.le_of_ble_eq_true rfl⟩) rfl hl.1 rfl (Nat.le_of_ble_eq_true rfl) dX5_score_4 ⟨Nat.zero_le _, Nat.zero_le _⟩ (fun r_4 hw_4 => ?_)
  subst hw_4
  refine qv_zif_ne (tgt := 17) hx hb dX5_score_7 (by decide) (fun c_7 => ?_) (fun c_7 => ?_)
  · rw [if_pos c_7] at hF
    obtain ⟨f_n, fa_n, fb_n⟩ := within_nat (by decide) (by decide) c_7
    have e_n := tN_eq f_n
    refine lv_aload_n hx hb dX5_score_17 rfl (lv_at hl 0 rfl) ?_
    refine lv_aload_n hx hb dX5_score_18 rfl (lv_at hl 0 rfl) ?_
    refine va_get (D := (dC, dI)) (ci := 5) (v := .ref (x 1)) (C := RX5) (T := TX5) (N := 14) hx hb hts hin5 hown hK hP 0 rfl rfl 0 (by decide) lk12 (fun _ h9 => h9) rfl dX5_score_19 ?_
    refine va_get (D := (dC, dI)) (ci := 1) (v := .ref (x 2)) (C := RX1) (T := TX1) (N := 5) hx hb hts hin1 hown hK hP 1 rfl rfl 0 (by decide) lk74 (fun _ h9 => h9) rfl dX5_score_22 ?_
    refine va_get (D := (dC, dI)) (ci := 2) (v := .int (Pbo P)) (C := RX2) (T := TX2) (N := 8) hx hb hts hin2 hown hK hP 2 rfl rfl 0 (by decide) lk85 (fun _ h9 => h9) rfl dX5_score_25 ?_
    refine lv_aload_n hx hb dX5_score_28 rfl (lv_at hl 0 rfl) ?_
    refine va_get (D := (dC, dI)) (ci := 5) (v := .ref (x 1)) (C := RX5) (T := TX5) (N := 14) hx hb hts hin5 hown hK hP 0 rfl rfl 0 (by decide) lk12 (fun _ h9 => h9) rfl dX5_score_29 ?_
    refine va_get (D := (dC, dI)) (ci := 1) (v := .ref (x 2)) (C := RX1) (T := TX1) (N := 5) hx hb hts hin1 hown hK hP 1 rfl rfl 0 (by decide) lk74 (fun _ h9 => h9) rfl dX5_score_32 ?_
    refine va_get (D := (dC, dI)) (ci := 2) (v := .int (Pnx P)) (C := RX2) (T := TX2) (N := 8) hx hb hts hin2 hown hK hP 2 rfl rfl 5 (by decide) lk147 (fun _ h9 => h9) rfl dX5_score_35 ?_
    refine lv_iload_n hx hb dX5_score_38 rfl (lv_at hl 1 rfl) ?_
    refine qv_top (e_n) ?_
    refine qx_Vi (C := RX5) (As := [.int (Pbo P), .int (Pnx P), .int (nI (tN n))]) (rest := []) (ci := 5) (k0 := 0) (wr := ([(x 15, .inl (cI, 3, .inl Rf))])) (ws2 := fun u => (xO x X) ++ (fO ((fun i => x (1 + i)))) ++ (pW ((fun i => x (2 + i))) cI P) ++ ([(x 6, .inl (cI, 8, .inl Rw))]) ++ ([(x 15, .inl (cI, 3, .inl Rf))]) ++ (pW ((fun i => x (51 + i))) cI u)) [0, 1, 2, 3, 4, 5, 6, 8, 9, 10, 11] [7] [1, 2, 3, 4, 5, 6, 7, 0, 8, 9, 10, 11] ⟨hx, hb, hml, hown, hts⟩ (c_X5_scoreAgainst l dC dI x cI s.heap.size X P Rw Tr (Pbo P) (Pnx P) (tN n) (pz : inB (Psz P) 6) (by omega)) (cwV 3 hts gX5_score_X5_scoreAgainst rfl rfl rfl (by decide +kernel) ⟨Nat.le_of_ble_eq_true rfl, Nat.le_of_ble_eq_true rfl⟩) (hK.sub [0] rfl) hK hP hD hS hA hN rfl rfl (by decide) (by decide) (by decide) (by decide) (fun _ => rfl) rfl rfl rfl rfl hl.1 rfl (Nat.le_of_ble_eq_true rfl) dX5_score_39 ⟨Nat.zero_le _, Nat.zero_le _⟩ (fun r_39 u_39 H locs hw_39 hP hD hS => ?_)
    obtain ⟨Tr_39, rfl⟩ : ∃ z, z = u_39 := ⟨_, rfl⟩
    have hP : va_P (dC, dI) vwCl ((xO x X) ++ (fO ((fun i => x (1 + i)))) ++ (pW ((fun i => x (2 + i))) cI P) ++ ([(x 6, .inl (cI, 8, .inl Rw))]) ++ ([(x 15, .inl (cI, 3, .inl Rf))]) ++ (pW ((fun i => x (51 + i))) cI Tr_39)) H := hP
    have hD : va_D A ((xO x X) ++ (fO ((fun i => x (1 + i)))) ++ (pW ((fun i => x (2 + i))) cI P) ++ ([(x 6, .inl (cI, 8, .inl Rw))]) ++ ([(x 15, .inl (cI, 3, .inl Rf))]) ++ (pW ((fun i => x (51 + i))) cI Tr_39)) := hD
    rw [hw_39, let2_mk r_39 Tr_39] at hF
    have hP9 : va_P (dC, dI) vwCl ((xO x X) ++ (fO ((fun i => x (1 + i)))) ++ (pW ((fun i => x (2 + i))) cI P) ++ ([(x 6, .inl (cI, 8, .inl Rw))]) ++ ([(x 15, .inl (cI, 3, .inl Rf))]) ++ (pW ((fun i => x (51 + i))) cI Tr_39)) H := hP
    exact W.iret (v := r_39) hx hb hr (fun t ht hW => ⟨⟨_, ((Tr_39, Rf)), rfl, hO.symm.trans hF, by rw [ht]; exact hP9, va_K.moved hW.alike hK, hD⟩, hS.F ht⟩) hS.2.2 dX5_score_42
  · rw [if_neg c_7] at hF
    refine lv_aload_n hx hb dX5_score_10 rfl (lv_at hl 0 rfl) ?_
    refine lv_bipush (v := (-2)) hx hb dX5_score_11 (by decide) ?_
    refine qx_Vi (C := RX5) (As := [.int ((-2))]) (rest := []) (ci := 5) (k0 := 0) (wr := (fO ((fun i => x (1 + i)))) ++ (pW ((fun i => x (2 + i))) cI P) ++ ([(x 6, .inl (cI, 8, .inl Rw))]) ++ (pW ((fun i => x (51 + i))) cI Tr)) (ws2 := fun u => (xO x X) ++ (fO ((fun i => x (1 + i)))) ++ (pW ((fun i => x (2 + i))) cI P) ++ ([(x 6, .inl (cI, 8, .inl Rw))]) ++ ([(x 15, .inl (cI, 3, .inl u))]) ++ (pW ((fun i => x (51 + i))) cI Tr)) [0, 7] [1, 2, 3, 4, 5, 6, 8, 9, 10, 11] [10, 0, 1, 2, 3, 4, 5, 11, 6, 7, 8, 9] ⟨hx, hb, hml, hown, hts⟩ (c_X5_refuse l dC dI x cI s.heap.size X Rf ((-2)) ) (cwV 1 hts gX5_score_X5_refuse rfl rfl rfl (by decide +kernel) ⟨Nat.le_of_ble_eq_true rfl, Nat.le_of_ble_eq_true rfl⟩) (hK.sub [0] rfl) hK hP hD hS hA hN rfl rfl (by decide) (by decide) (by decide) (by decide) (fun _ => rfl) rfl rfl rfl rfl hl.1 rfl (Nat.le_of_ble_eq_true rfl) dX5_score_13 ⟨Nat.zero_le _, Nat.zero_le _⟩ (fun r_13 u_13 H locs hw_13 hP hD hS => ?_)
    obtain ⟨Rf_13, rfl⟩ : ∃ z, z = u_13 := ⟨_, rfl⟩
    have hP : va_P (dC, dI) vwCl ((xO x X) ++ (fO ((fun i => x (1 + i)))) ++ (pW ((fun i => x (2 + i))) cI P) ++ ([(x 6, .inl (cI, 8, .inl Rw))]) ++ ([(x 15, .inl (cI, 3, .inl Rf_13))]) ++ (pW ((fun i => x (51 + i))) cI Tr)) H := hP
    have hD : va_D A ((xO x X) ++ (fO ((fun i => x (1 + i)))) ++ (pW ((fun i => x (2 + i))) cI P) ++ ([(x 6, .inl (cI, 8, .inl Rw))]) ++ ([(x 15, .inl (cI, 3, .inl Rf_13))]) ++ (pW ((fun i => x (51 + i))) cI Tr)) := hD
    rw [hw_13, let2_mk r_13 Rf_13] at hF
    have hP9 : va_P (dC, dI) vwCl ((xO x X) ++ (fO ((fun i => x (1 + i)))) ++ (pW ((fun i => x (2 + i))) cI P) ++ ([(x 6, .inl (cI, 8, .inl Rw))]) ++ ([(x 15, .inl (cI, 3, .inl Rf_13))]) ++ (pW ((fun i => x (51 + i))) cI Tr)) H := hP
    exact W.iret (v := r_13) hx hb hr (fun t ht hW => ⟨⟨_, ((Tr, Rf_13)), rfl, hO.symm.trans hF, by rw [ht]; exact hP9, va_K.moved hW.alike hK, hD⟩, hS.F ht⟩) hS.2.2 dX5_score_16
def F_X5_against_L49 : Nat → (Int32) → (pS) → (Nat → Int32) → (Nat) → (Nat) → (Int32) → (pS) → (Nat) × (Nat) × (Int32) × (pS)
  | 0, _, _, _, kd, bs, lst, T1 => (kd, bs, lst, T1)
  | n_49 + 1, n, P, Rw, kd, bs, lst, T1 => if 6 ≤ kd then (kd, bs, lst, T1) else let2 (F_X5_scoreAgainst P Rw T1 (nI kd) (Pnx P) (tN n)) (fun r_70 Tr_70 => if lst ≤ r_70 then F_X5_against_L49 n_49 n P Rw (kd + 1) bs lst Tr_70 else F_X5_against_L49 n_49 n P Rw (kd + 1) kd r_70 Tr_70)
def F_X5_against (P : pS) (Rw : Nat → Int32) (Rf : Nat → Int32) (Tr : pS) (n : Int32) (wh : Int32) : Int32 × (pS) × (Nat → Int32) := if (F_X5_within n (nI 1) (nI 8)) = true then (if (F_X5_within wh (nI 0) (nI 1)) = true then let2 (F_X5_scoreAgainst P Rw Tr (nI 0) (Pnx P) (tN n)) (fun r_41 Tr_41 => let4 (F_X5_against_L49 6 n P Rw 1 0 r_41 Tr_41) (fun kd bs lst T1 => if tN wh = 0 then (nI bs, T1, Rf) else (lst, T1, Rf))) else let2 (F_X5_refuse Rf ((-2))) (fun r_22 Rf_22 => (r_22, Tr, Rf_22))) else let2 (F_X5_refuse Rf ((-2))) (fun r_22 Rf_22 => (r_22, Tr, Rf_22))
set_option maxHeartbeats 4000000 in
set_option maxRecDepth 100000 in
theorem c_X5_against (l : Launch) (dC : Nat → ClassId) (dI : Nat → Nat → Nat) (x : Nat → Nat) (cI : ClassId) (sz : Nat) (X : xS) (P : pS) (Rw : Nat → Int32) (Rf : Nat → Int32) (Tr : pS) (n : Int32) (wh : Int32) (pz : inB (Psz P) 6) : Met l yX5_against wsX5_against { frames := 5, cells := 0, slots := 0, locals := 114 } (xPc (dC, dI) vwCl (xT cI) ((xO x X) ++ (fO ((fun i => x (1 + i)))) ++ (pW ((fun i => x (2 + i))) cI P) ++ ([(x 6, .inl (cI, 8, .inl Rw))]) ++ ([(x 15, .inl (cI, 3, .inl Rf))]) ++ (pW ((fun i => x (51 + i))) cI Tr)) sz [.ref (x 0), .int n, .int wh]) (va_Qi (fun (r : Int32) (u : (pS) × (Nat → Int32)) => F_X5_against P Rw Rf Tr n wh = (r, u)) (mB (dC, dI) vwCl (xT cI) (va_A ((xO x X) ++ (fO ((fun i => x (1 + i)))) ++ (pW ((fun i => x (2 + i))) cI P) ++ ([(x 6, .inl (cI, 8, .inl Rw))]) ++ ([(x 15, .inl (cI, 3, .inl Rf))]) ++ (pW ((fun i => x (51 + i))) cI Tr)) sz) (fun u => (xO x X) ++ (fO ((fun i => x (1 + i)))) ++ (pW ((fun i => x (2 + i))) cI P) ++ ([(x 6, .inl (cI, 8, .inl Rw))]) ++ ([(x 15, .inl (cI, 3, .inl (u.2)))]) ++ (pW ((fun i => x (51 + i))) cI (u.1)))) (va_A ((xO x X) ++ (fO ((fun i => x (1 + i)))) ++ (pW ((fun i => x (2 + i))) cI P) ++ ([(x 6, .inl (cI, 8, .inl Rw))]) ++ ([(x 15, .inl (cI, 3, .inl Rf))]) ++ (pW ((fun i => x (51 + i))) cI Tr)) sz)) 0 0 (va_A ((xO x X) ++ (fO ((fun i => x (1 + i)))) ++ (pW ((fun i => x (2 + i))) cI P) ++ ([(x 6, .inl (cI, 8, .inl Rw))]) ++ ([(x 15, .inl (cI, 3, .inl Rf))]) ++ (pW ((fun i => x (51 + i))) cI Tr)) sz) := by
  refine Met.ofW (cc := cX5_against) (maxL := 7) (ret := (some .int)) (by decide) rfl ?_
  intro p e s m args below meth c s₁ B hml hv
  obtain ⟨rfl, hsz, hP, hK, hD0, hN⟩ := hv
  have hx := B.exec
  have hb := B.bytes
  have hr := B.returns
  have hts := atoms_spec (ws := wsX5_against) B.pre
  have hown : s.vm.findClass RX5 = some m.cls := findClass_of_methodNamed B.named
  have hlocks := B.notSynchronized
  subst hsz
  have hD := hD0.self (sz := s.heap.size)
  generalize hAe : va_A ((xO x X) ++ (fO ((fun i => x (1 + i)))) ++ (pW ((fun i => x (2 + i))) cI P) ++ ([(x 6, .inl (cI, 8, .inl Rw))]) ++ ([(x 15, .inl (cI, 3, .inl Rf))]) ++ (pW ((fun i => x (51 + i))) cI Tr)) s.heap.size = A at hD ⊢
  have hA : ∀ q : Nat, s.heap.size ≤ q → A q := fun q h => by rw [← hAe]; exact Or.inr h
  have hS : va_S A s.heap s.heap [] := va_S.rf
  have hin1 : ∀ w ∈ wsX10, w ∈ wsX5_against := by decide +kernel
  have hin2 : ∀ w ∈ wsX20, w ∈ wsX5_against := by decide +kernel
  have hin5 : ∀ w ∈ wsX50, w ∈ wsX5_against := by decide +kernel
  have lk12 := hts (.fieldLink RX5 12 "PostRounders" "now" "LPostRounders$Field;") (by decide +kernel)
  have lk74 := hts (.fieldLink RX5 74 "PostRounders$Field" "play" "LPostRounders$Play;") (by decide +kernel)
  have lk147 := hts (.fieldLink RX5 147 "PostRounders$Play" "next" "I") (by decide +kernel)
  have hl := lv_entry ([.ref (x 0), .int n, .int wh]) (n := 7) (Nat.le_of_ble_eq_true rfl)
  rw [lg_entry_eq]
  generalize (lg_sl ([.ref (x 0), .int n, .int wh]) ++ List.replicate (7 - (lg_sl ([.ref (x 0), .int n, .int wh])).length) Slot.unset).toArray = ls at hl ⊢
  have hl : lv_has ls 7 [(0, .ref (x 0)), (1, .int n), (2, .int wh)] := hl
  obtain ⟨OUT, hO⟩ : ∃ z, z = F_X5_against P Rw Rf Tr n wh := ⟨_, rfl⟩
  have hF := hO
  unfold F_X5_against at hF
  have e_pz := tN_eq pz.1
  have b_pz := pz.2
  refine lv_iload_n hx hb dX5_against_0 rfl (lv_at hl 1 rfl) ?_
  refine lv_iconst (v := nI 1) hx hb dX5_against_1 (by decide) ?_
  refine lv_bipush (v := nI 8) hx hb dX5_against_2 (by decide) ?_
  refine qc_Si (As := [.int n, .int (nI 1), .int (nI 8)]) (rest := []) ⟨hx, hb, hml, hown, hts⟩ (c_X5_within l n (nI 1) (nI 8)) (va_cwS 3 hts gX5_against_X5_within rfl rfl rfl (by decide +kernel) ⟨Nat.le_of_ble_eq_true rfl, Nat.le_of_ble_eq_true rfl⟩) rfl hl.1 rfl (Nat.le_of_ble_eq_true rfl) dX5_against_4 ⟨Nat.zero_le _, Nat.zero_le _⟩ (fun r_4 hw_4 => ?_)
  subst hw_4
  refine qv_zif_eq (tgt := 19) hx hb dX5_against_7 (by decide) (fun c_7 => ?_) (fun c_7 => ?_)
  · rw [if_neg c_7] at hF
    refine lv_aload_n hx hb dX5_against_19 rfl (lv_at hl 0 rfl) ?_
    refine lv_bipush (v := (-2)) hx hb dX5_against_20 (by decide) ?_
    refine qx_Vi (C := RX5) (As := [.int ((-2))]) (rest := []) (ci := 5) (k0 := 0) (wr := (fO ((fun i => x (1 + i)))) ++ (pW ((fun i => x (2 + i))) cI P) ++ ([(x 6, .inl (cI, 8, .inl Rw))]) ++ (pW ((fun i => x (51 + i))) cI Tr)) (ws2 := fun u => (xO x X) ++ (fO ((fun i => x (1 + i)))) ++ (pW ((fun i => x (2 + i))) cI P) ++ ([(x 6, .inl (cI, 8, .inl Rw))]) ++ ([(x 15, .inl (cI, 3, .inl u))]) ++ (pW ((fun i => x (51 + i))) cI Tr)) [0, 7] [1, 2, 3, 4, 5, 6, 8, 9, 10, 11] [10, 0, 1, 2, 3, 4, 5, 11, 6, 7, 8, 9] ⟨hx, hb, hml, hown, hts⟩ (c_X5_refuse l dC dI x cI s.heap.size X Rf ((-2)) ) (cwV 1 hts gX5_against_X5_refuse rfl rfl rfl (by decide +kernel) ⟨Nat.le_of_ble_eq_true rfl, Nat.le_of_ble_eq_true rfl⟩) (hK.sub [0] rfl) hK hP hD hS hA hN rfl rfl (by decide) (by decide) (by decide) (by decide) (fun _ => rfl) rfl rfl rfl rfl hl.1 rfl (Nat.le_of_ble_eq_true rfl) dX5_against_22 ⟨Nat.zero_le _, Nat.zero_le _⟩ (fun r_22 u_22 H locs hw_22 hP hD hS => ?_)
    obtain ⟨Rf_22, rfl⟩ : ∃ z, z = u_22 := ⟨_, rfl⟩
    have hP : va_P (dC, dI) vwCl ((xO x X) ++ (fO ((fun i => x (1 + i)))) ++ (pW ((fun i => x (2 + i))) cI P) ++ ([(x 6, .inl (cI, 8, .inl Rw))]) ++ ([(x 15, .inl (cI, 3, .inl Rf_22))]) ++ (pW ((fun i => x (51 + i))) cI Tr)) H := hP
    have hD : va_D A ((xO x X) ++ (fO ((fun i => x (1 + i)))) ++ (pW ((fun i => x (2 + i))) cI P) ++ ([(x 6, .inl (cI, 8, .inl Rw))]) ++ ([(x 15, .inl (cI, 3, .inl Rf_22))]) ++ (pW ((fun i => x (51 + i))) cI Tr)) := hD
    rw [hw_22, let2_mk r_22 Rf_22] at hF
    have hP9 : va_P (dC, dI) vwCl ((xO x X) ++ (fO ((fun i => x (1 + i)))) ++ (pW ((fun i => x (2 + i))) cI P) ++ ([(x 6, .inl (cI, 8, .inl Rw))]) ++ ([(x 15, .inl (cI, 3, .inl Rf_22))]) ++ (pW ((fun i => x (51 + i))) cI Tr)) H := hP
    exact W.iret (v := r_22) hx hb hr (fun t ht hW => ⟨⟨_, ((Tr, Rf_22)), rfl, hO.symm.trans hF, by rw [ht]; exact hP9, va_K.moved hW.alike hK, hD⟩, hS.F ht⟩) hS.2.2 dX5_against_25
  · rw [if_pos c_7] at hF
    obtain ⟨f_n, fa_n, fb_n⟩ := within_nat (by decide) (by decide) c_7
    have e_n := tN_eq f_n
    refine lv_iload_n hx hb dX5_against_10 rfl (lv_at hl 2 rfl) ?_
    refine lv_iconst (v := nI 0) hx hb dX5_against_11 (by decide) ?_
    refine lv_iconst (v := nI 1) hx hb dX5_against_12 (by decide) ?_
    refine qc_Si (As := [.int wh, .int (nI 0), .int (nI 1)]) (rest := []) ⟨hx, hb, hml, hown, hts⟩ (c_X5_within l wh (nI 0) (nI 1)) (va_cwS 3 hts gX5_against_X5_within rfl rfl rfl (by decide +kernel) ⟨Nat.le_of_ble_eq_true rfl, Nat.le_of_ble_eq_true rfl⟩) rfl hl.1 rfl (Nat.le_of_ble_eq_true rfl) dX5_against_13 ⟨Nat.zero_le _, Nat.zero_le _⟩ (fun r_13 hw_13 => ?_)
    subst hw_13
    refine qv_zif_ne (tgt := 26) hx hb dX5_against_16 (by decide) (fun c_16 => ?_) (fun c_16 => ?_)
    · rw [if_pos c_16] at hF
      obtain ⟨f_wh, fa_wh, fb_wh⟩ := within_nat (by decide) (by decide) c_16
      have e_wh := tN_eq f_wh
      refine lv_iconst (v := nI 0) hx hb dX5_against_26 (by decide) ?_
      refine lv_istore_n (lv' := [(3, .int (nI 0)), (0, .ref (x 0)), (1, .int n), (2, .int wh)]) hx hb dX5_against_27 rfl hl (by decide) rfl (fun ls hl => ?_)
      refine lv_aload_n hx hb dX5_against_28 rfl (lv_at hl 1 rfl) ?_
      refine lv_iconst (v := nI 0) hx hb dX5_against_29 (by decide) ?_
      refine lv_aload_n hx hb dX5_against_30 rfl (lv_at hl 1 rfl) ?_
      refine va_get (D := (dC, dI)) (ci := 5) (v := .ref (x 1)) (C := RX5) (T := TX5) (N := 14) hx hb hts hin5 hown hK hP 0 rfl rfl 0 (by decide) lk12 (fun _ h9 => h9) rfl dX5_against_31 ?_
      refine va_get (D := (dC, dI)) (ci := 1) (v := .ref (x 2)) (C := RX1) (T := TX1) (N := 5) hx hb hts hin1 hown hK hP 1 rfl rfl 0 (by decide) lk74 (fun _ h9 => h9) rfl dX5_against_34 ?_
      refine va_get (D := (dC, dI)) (ci := 2) (v := .int (Pnx P)) (C := RX2) (T := TX2) (N := 8) hx hb hts hin2 hown hK hP 2 rfl rfl 5 (by decide) lk147 (fun _ h9 => h9) rfl dX5_against_37 ?_
      refine lv_iload_n hx hb dX5_against_40 rfl (lv_at hl 2 rfl) ?_
      refine qv_top (e_n) ?_
      refine qx_Vi (C := RX5) (As := [.int (nI 0), .int (Pnx P), .int (nI (tN n))]) (rest := []) (ci := 5) (k0 := 0) (wr := ([(x 15, .inl (cI, 3, .inl Rf))])) (ws2 := fun u => (xO x X) ++ (fO ((fun i => x (1 + i)))) ++ (pW ((fun i => x (2 + i))) cI P) ++ ([(x 6, .inl (cI, 8, .inl Rw))]) ++ ([(x 15, .inl (cI, 3, .inl Rf))]) ++ (pW ((fun i => x (51 + i))) cI u)) [0, 1, 2, 3, 4, 5, 6, 8, 9, 10, 11] [7] [1, 2, 3, 4, 5, 6, 7, 0, 8, 9, 10, 11] ⟨hx, hb, hml, hown, hts⟩ (c_X5_scoreAgainst l dC dI x cI s.heap.size X P Rw Tr (nI 0) (Pnx P) (tN n) (pz : inB (Psz P) 6) (by omega)) (cwV 3 hts gX5_against_X5_scoreAgainst rfl rfl rfl (by decide +kernel) ⟨Nat.le_of_ble_eq_true rfl, Nat.le_of_ble_eq_true rfl⟩) (hK.sub [0] rfl) hK hP hD hS hA hN rfl rfl (by decide) (by decide) (by decide) (by decide) (fun _ => rfl) rfl rfl rfl rfl hl.1 rfl (Nat.le_of_ble_eq_true rfl) dX5_against_41 ⟨Nat.zero_le _, Nat.zero_le _⟩ (fun r_41 u_41 H locs hw_41 hP hD hS => ?_)
      obtain ⟨Tr_41, rfl⟩ : ∃ z, z = u_41 := ⟨_, rfl⟩
      have hP : va_P (dC, dI) vwCl ((xO x X) ++ (fO ((fun i => x (1 + i)))) ++ (pW ((fun i => x (2 + i))) cI P) ++ ([(x 6, .inl (cI, 8, .inl Rw))]) ++ ([(x 15, .inl (cI, 3, .inl Rf))]) ++ (pW ((fun i => x (51 + i))) cI Tr_41)) H := hP
      have hD : va_D A ((xO x X) ++ (fO ((fun i => x (1 + i)))) ++ (pW ((fun i => x (2 + i))) cI P) ++ ([(x 6, .inl (cI, 8, .inl Rw))]) ++ ([(x 15, .inl (cI, 3, .inl Rf))]) ++ (pW ((fun i => x (51 + i))) cI Tr_41)) := hD
      rw [hw_41, let2_mk r_41 Tr_41] at hF
      refine lv_istore (lv' := [(4, .int r_41), (3, .int (nI 0)), (0, .ref (x 0)), (1, .int n), (2, .int wh)]) hx hb dX5_against_44 hl (by decide) rfl (fun ls hl => ?_)
      refine lv_iconst (v := nI 1) hx hb dX5_against_46 (by decide) ?_
      refine lv_istore (lv' := [(5, .int (nI 1)), (4, .int r_41), (3, .int (nI 0)), (0, .ref (x 0)), (1, .int n), (2, .int wh)]) hx hb dX5_against_47 hl (by decide) rfl (fun ls hl => ?_)
      have L_49 : ∀ (n_49 : Nat) (kd : Nat) (bs : Nat) (lst : Int32) (T1 : pS) (H : Heap) (locs : List Loc), kd ≤ 6 → 6 - kd < n_49 → va_P (dC, dI) vwCl ((xO x X) ++ (fO ((fun i => x (1 + i)))) ++ (pW ((fun i => x (2 + i))) cI P) ++ ([(x 6, .inl (cI, 8, .inl Rw))]) ++ ([(x 15, .inl (cI, 3, .inl Rf))]) ++ (pW ((fun i => x (51 + i))) cI T1)) H → va_D A ((xO x X) ++ (fO ((fun i => x (1 + i)))) ++ (pW ((fun i => x (2 + i))) cI P) ++ ([(x 6, .inl (cI, 8, .inl Rw))]) ++ ([(x 15, .inl (cI, 3, .inl Rf))]) ++ (pW ((fun i => x (51 + i))) cI T1)) → va_S A s.heap H locs → ∀ (ls : Array Slot), lv_has ls 7 [(5, .int (nI kd)), (4, .int lst), (3, .int (nI bs)), (0, .ref (x 0)), (1, .int n), (2, .int wh)] → OUT = let4 (F_X5_against_L49 n_49 n P Rw kd bs lst T1) (fun kd bs lst T1 => if tN wh = 0 then (nI bs, T1, Rf) else (lst, T1, Rf)) → W p l e (headSpec wsX5_against { frames := 5, cells := 0, slots := 0, locals := 114 }).room s m ([.ref (x 0), .int n, .int wh] : List Value).toArray below meth c H locs 0 0 (MQ below (va_Qi (fun (r : Int32) (u : (pS) × (Nat → Int32)) => F_X5_against P Rw Rf Tr n wh = (r, u)) (mB (dC, dI) vwCl (xT cI) A (fun u => (xO x X) ++ (fO ((fun i => x (1 + i)))) ++ (pW ((fun i => x (2 + i))) cI P) ++ ([(x 6, .inl (cI, 8, .inl Rw))]) ++ ([(x 15, .inl (cI, 3, .inl (u.2)))]) ++ (pW ((fun i => x (51 + i))) cI (u.1)))) A) ([.ref (x 0), .int n, .int wh] : List Value).toArray s 0 0 A) (F0 m 49 ls []) := by
        intro n_49
        induction n_49 with
        | zero => intro kd bs lst T1 H locs i0 hmu; exact absurd hmu (Nat.not_lt_zero _)
        | succ n_49 ih_49 =>
          intro kd bs lst T1 H locs i0 hmu_49 hP hD hS ls hl hF
          rw [F_X5_against_L49] at hF
          refine lv_iload hx hb dX5_against_49 (lv_at hl 0 rfl) ?_
          refine lv_bipush (v := nI 6) hx hb dX5_against_51 (by decide) ?_
          refine qv_icmp_ge (tgt := 95) hx hb dX5_against_53 (by decide) (by omega) (by omega) (fun c_53 => ?_) (fun c_53 => ?_)
          · rw [if_pos c_53] at hF
            rw [let4_mk (kd : Nat) (bs : Nat) (lst : Int32) (T1 : pS)] at hF
            refine lv_iload_n hx hb dX5_against_95 rfl (lv_at hl 5 rfl) ?_
            refine qv_top (e_wh) ?_
            refine qv_if_ne (tgt := 103) hx hb dX5_against_96 (by decide) (by omega) (fun c_96 => ?_) (fun c_96 => ?_)
            · rw [if_neg c_96] at hF
              refine lv_iload hx hb dX5_against_103 (lv_at hl 1 rfl) ?_
              have hP9 : va_P (dC, dI) vwCl ((xO x X) ++ (fO ((fun i => x (1 + i)))) ++ (pW ((fun i => x (2 + i))) cI P) ++ ([(x 6, .inl (cI, 8, .inl Rw))]) ++ ([(x 15, .inl (cI, 3, .inl Rf))]) ++ (pW ((fun i => x (51 + i))) cI T1)) H := hP
              exact W.iret (v := lst) hx hb hr (fun t ht hW => ⟨⟨_, ((T1, Rf)), rfl, hO.symm.trans hF, by rw [ht]; exact hP9, va_K.moved hW.alike hK, hD⟩, hS.F ht⟩) hS.2.2 dX5_against_105
            · rw [if_pos c_96] at hF
              refine lv_iload_n hx hb dX5_against_99 rfl (lv_at hl 2 rfl) ?_
              refine lv_goto (tgt := 105) hx hb dX5_against_100 (by decide) ?_
              have hP9 : va_P (dC, dI) vwCl ((xO x X) ++ (fO ((fun i => x (1 + i)))) ++ (pW ((fun i => x (2 + i))) cI P) ++ ([(x 6, .inl (cI, 8, .inl Rw))]) ++ ([(x 15, .inl (cI, 3, .inl Rf))]) ++ (pW ((fun i => x (51 + i))) cI T1)) H := hP
              exact W.iret (v := nI bs) hx hb hr (fun t ht hW => ⟨⟨_, ((T1, Rf)), rfl, hO.symm.trans hF, by rw [ht]; exact hP9, va_K.moved hW.alike hK, hD⟩, hS.F ht⟩) hS.2.2 dX5_against_105
          · rw [if_neg c_53] at hF
            refine lv_aload_n hx hb dX5_against_56 rfl (lv_at hl 3 rfl) ?_
            refine lv_iload hx hb dX5_against_57 (lv_at hl 0 rfl) ?_
            refine lv_aload_n hx hb dX5_against_59 rfl (lv_at hl 3 rfl) ?_
            refine va_get (D := (dC, dI)) (ci := 5) (v := .ref (x 1)) (C := RX5) (T := TX5) (N := 14) hx hb hts hin5 hown hK hP 0 rfl rfl 0 (by decide) lk12 (fun _ h9 => h9) rfl dX5_against_60 ?_
            refine va_get (D := (dC, dI)) (ci := 1) (v := .ref (x 2)) (C := RX1) (T := TX1) (N := 5) hx hb hts hin1 hown hK hP 1 rfl rfl 0 (by decide) lk74 (fun _ h9 => h9) rfl dX5_against_63 ?_
            refine va_get (D := (dC, dI)) (ci := 2) (v := .int (Pnx P)) (C := RX2) (T := TX2) (N := 8) hx hb hts hin2 hown hK hP 2 rfl rfl 5 (by decide) lk147 (fun _ h9 => h9) rfl dX5_against_66 ?_
            refine lv_iload_n hx hb dX5_against_69 rfl (lv_at hl 4 rfl) ?_
            refine qv_top (e_n) ?_
            refine qx_Vi (C := RX5) (As := [.int (nI kd), .int (Pnx P), .int (nI (tN n))]) (rest := []) (ci := 5) (k0 := 0) (wr := ([(x 15, .inl (cI, 3, .inl Rf))])) (ws2 := fun u => (xO x X) ++ (fO ((fun i => x (1 + i)))) ++ (pW ((fun i => x (2 + i))) cI P) ++ ([(x 6, .inl (cI, 8, .inl Rw))]) ++ ([(x 15, .inl (cI, 3, .inl Rf))]) ++ (pW ((fun i => x (51 + i))) cI u)) [0, 1, 2, 3, 4, 5, 6, 8, 9, 10, 11] [7] [1, 2, 3, 4, 5, 6, 7, 0, 8, 9, 10, 11] ⟨hx, hb, hml, hown, hts⟩ (c_X5_scoreAgainst l dC dI x cI H.size X P Rw T1 (nI kd) (Pnx P) (tN n) (pz : inB (Psz P) 6) (by omega)) (cwV 3 hts gX5_against_X5_scoreAgainst rfl rfl rfl (by decide +kernel) ⟨Nat.le_of_ble_eq_true rfl, Nat.le_of_ble_eq_true rfl⟩) (hK.sub [0] rfl) hK hP hD hS hA hN rfl rfl (by decide) (by decide) (by decide) (by decide) (fun _ => rfl) rfl rfl rfl rfl hl.1 rfl (Nat.le_of_ble_eq_true rfl) dX5_against_70 ⟨Nat.zero_le _, Nat.zero_le _⟩ (fun r_70 u_70 H locs hw_70 hP hD hS => ?_)
            obtain ⟨Tr_70, rfl⟩ : ∃ z, z = u_70 := ⟨_, rfl⟩
            have hP : va_P (dC, dI) vwCl ((xO x X) ++ (fO ((fun i => x (1 + i)))) ++ (pW ((fun i => x (2 + i))) cI P) ++ ([(x 6, .inl (cI, 8, .inl Rw))]) ++ ([(x 15, .inl (cI, 3, .inl Rf))]) ++ (pW ((fun i => x (51 + i))) cI Tr_70)) H := hP
            have hD : va_D A ((xO x X) ++ (fO ((fun i => x (1 + i)))) ++ (pW ((fun i => x (2 + i))) cI P) ++ ([(x 6, .inl (cI, 8, .inl Rw))]) ++ ([(x 15, .inl (cI, 3, .inl Rf))]) ++ (pW ((fun i => x (51 + i))) cI Tr_70)) := hD
            rw [hw_70, let2_mk r_70 Tr_70] at hF
            refine lv_istore (lv' := [(6, .int r_70), (5, .int (nI kd)), (4, .int lst), (3, .int (nI bs)), (0, .ref (x 0)), (1, .int n), (2, .int wh)]) hx hb dX5_against_73 hl (by decide) rfl (fun ls hl => ?_)
            refine lv_iload hx hb dX5_against_75 (lv_at hl 0 rfl) ?_
            refine lv_iload hx hb dX5_against_77 (lv_at hl 2 rfl) ?_
            refine lv_icmp_ge (tgt := 89) hx hb dX5_against_79 (by decide) (fun c_79 => ?_) (fun c_79 => ?_)
            · rw [if_pos c_79] at hF
              refine lv_iinc (v := nI (kd + 1)) (lv' := [(5, .int (nI (kd + 1))), (6, .int r_70), (4, .int lst), (3, .int (nI bs)), (0, .ref (x 0)), (1, .int n), (2, .int wh)]) hx hb dX5_against_89 hl (k := 1) rfl (qn_inc (c := 1) rfl (by omega)) (by decide) rfl (fun ls hl => ?_)
              refine lv_goto (tgt := 49) hx hb dX5_against_92 (by decide) ?_
              exact ih_49 (kd + 1) bs lst Tr_70 H locs (by omega) (by omega) hP hD hS ls (lv_sub hl [0, 2, 3, 4, 5, 6] rfl) hF
            · rw [if_neg c_79] at hF
              refine lv_iload hx hb dX5_against_82 (lv_at hl 0 rfl) ?_
              refine lv_istore (lv' := [(4, .int r_70), (6, .int r_70), (5, .int (nI kd)), (3, .int (nI bs)), (0, .ref (x 0)), (1, .int n), (2, .int wh)]) hx hb dX5_against_84 hl (by decide) rfl (fun ls hl => ?_)
              refine lv_iload hx hb dX5_against_86 (lv_at hl 2 rfl) ?_
              refine lv_istore_n (lv' := [(3, .int (nI kd)), (4, .int r_70), (6, .int r_70), (5, .int (nI kd)), (0, .ref (x 0)), (1, .int n), (2, .int wh)]) hx hb dX5_against_88 rfl hl (by decide) rfl (fun ls hl => ?_)
              refine lv_iinc (v := nI (kd + 1)) (lv' := [(5, .int (nI (kd + 1))), (3, .int (nI kd)), (4, .int r_70), (6, .int r_70), (0, .ref (x 0)), (1, .int n), (2, .int wh)]) hx hb dX5_against_89 hl (k := 3) rfl (qn_inc (c := 1) rfl (by omega)) (by decide) rfl (fun ls hl => ?_)
              refine lv_goto (tgt := 49) hx hb dX5_against_92 (by decide) ?_
              exact ih_49 (kd + 1) kd r_70 Tr_70 H locs (by omega) (by omega) hP hD hS ls (lv_sub hl [0, 2, 1, 4, 5, 6] rfl) hF
      exact L_49 6 1 0 r_41 Tr_41 H locs (by omega) (by omega) hP hD hS ls (lv_sub hl [0, 1, 2, 3, 4, 5] rfl) hF
    · rw [if_neg c_16] at hF
      refine lv_aload_n hx hb dX5_against_19 rfl (lv_at hl 0 rfl) ?_
      refine lv_bipush (v := (-2)) hx hb dX5_against_20 (by decide) ?_
      refine qx_Vi (C := RX5) (As := [.int ((-2))]) (rest := []) (ci := 5) (k0 := 0) (wr := (fO ((fun i => x (1 + i)))) ++ (pW ((fun i => x (2 + i))) cI P) ++ ([(x 6, .inl (cI, 8, .inl Rw))]) ++ (pW ((fun i => x (51 + i))) cI Tr)) (ws2 := fun u => (xO x X) ++ (fO ((fun i => x (1 + i)))) ++ (pW ((fun i => x (2 + i))) cI P) ++ ([(x 6, .inl (cI, 8, .inl Rw))]) ++ ([(x 15, .inl (cI, 3, .inl u))]) ++ (pW ((fun i => x (51 + i))) cI Tr)) [0, 7] [1, 2, 3, 4, 5, 6, 8, 9, 10, 11] [10, 0, 1, 2, 3, 4, 5, 11, 6, 7, 8, 9] ⟨hx, hb, hml, hown, hts⟩ (c_X5_refuse l dC dI x cI s.heap.size X Rf ((-2)) ) (cwV 1 hts gX5_against_X5_refuse rfl rfl rfl (by decide +kernel) ⟨Nat.le_of_ble_eq_true rfl, Nat.le_of_ble_eq_true rfl⟩) (hK.sub [0] rfl) hK hP hD hS hA hN rfl rfl (by decide) (by decide) (by decide) (by decide) (fun _ => rfl) rfl rfl rfl rfl hl.1 rfl (Nat.le_of_ble_eq_true rfl) dX5_against_22 ⟨Nat.zero_le _, Nat.zero_le _⟩ (fun r_22 u_22 H locs hw_22 hP hD hS => ?_)
      obtain ⟨Rf_22, rfl⟩ : ∃ z, z = u_22 := ⟨_, rfl⟩
      have hP : va_P (dC, dI) vwCl ((xO x X) ++ (fO ((fun i => x (1 + i)))) ++ (pW ((fun i => x (2 + i))) cI P) ++ ([(x 6, .inl (cI, 8, .inl Rw))]) ++ ([(x 15, .inl (cI, 3, .inl Rf_22))]) ++ (pW ((fun i => x (51 + i))) cI Tr)) H := hP
      have hD : va_D A ((xO x X) ++ (fO ((fun i => x (1 + i)))) ++ (pW ((fun i => x (2 + i))) cI P) ++ ([(x 6, .inl (cI, 8, .inl Rw))]) ++ ([(x 15, .inl (cI, 3, .inl Rf_22))]) ++ (pW ((fun i => x (51 + i))) cI Tr)) := hD
      rw [hw_22, let2_mk r_22 Rf_22] at hF
      have hP9 : va_P (dC, dI) vwCl ((xO x X) ++ (fO ((fun i => x (1 + i)))) ++ (pW ((fun i => x (2 + i))) cI P) ++ ([(x 6, .inl (cI, 8, .inl Rw))]) ++ ([(x 15, .inl (cI, 3, .inl Rf_22))]) ++ (pW ((fun i => x (51 + i))) cI Tr)) H := hP
      exact W.iret (v := r_22) hx hb hr (fun t ht hW => ⟨⟨_, ((Tr, Rf_22)), rfl, hO.symm.trans hF, by rw [ht]; exact hP9, va_K.moved hW.alike hK, hD⟩, hS.F ht⟩) hS.2.2 dX5_against_25
def F_X5_note (No : rS) (Rf : Nat → Int32) (ti : Int32) (h : Int32) (g : Int32) : Int32 × (rS) × (Nat → Int32) := if (F_X5_within ti (nI 0) (nI 99)) = true then (if (F_X5_isHit h) = true then (if (F_X5_within g (nI 0) (nI 20)) = true then let1 (F_X4_isFull_v3 No) (fun z_41 => if z_41 = true then let2 (F_X5_refuse Rf ((-4))) (fun r_50 Rf_50 => (r_50, No, Rf_50)) else let1 (F_X4_put_v3 No (nI (tN ti))) (fun No_62 => let1 (F_X4_put_v3 No_62 (nI (tN h))) (fun No_73 => let1 (F_X4_put_v3 No_73 (nI (tN g))) (fun No_84 => let1 (F_X4_size_v3 No_84) (fun r_94 => (r_94, No_84, Rf)))))) else let2 (F_X5_refuse Rf ((-2))) (fun r_30 Rf_30 => (r_30, No, Rf_30))) else let2 (F_X5_refuse Rf ((-2))) (fun r_30 Rf_30 => (r_30, No, Rf_30))) else let2 (F_X5_refuse Rf ((-2))) (fun r_30 Rf_30 => (r_30, No, Rf_30))
set_option maxHeartbeats 4000000 in
set_option maxRecDepth 100000 in
theorem c_X5_note (l : Launch) (dC : Nat → ClassId) (dI : Nat → Nat → Nat) (x : Nat → Nat) (cI : ClassId) (sz : Nat) (X : xS) (No : rS) (Rf : Nat → Int32) (ti : Int32) (h : Int32) (g : Int32) (pno : inB (Rus No) 18) : Met l yX5_note wsX5_note { frames := 2, cells := 0, slots := 0, locals := 44 } (xPc (dC, dI) vwCl (xT cI) ((xO x X) ++ (fO ((fun i => x (1 + i)))) ++ (rW ((fun i => x (7 + i))) cI 3 18 No) ++ ([(x 15, .inl (cI, 3, .inl Rf))])) sz [.ref (x 0), .int ti, .int h, .int g]) (va_Qi (fun (r : Int32) (u : (rS) × (Nat → Int32)) => F_X5_note No Rf ti h g = (r, u)) (mB (dC, dI) vwCl (xT cI) (va_A ((xO x X) ++ (fO ((fun i => x (1 + i)))) ++ (rW ((fun i => x (7 + i))) cI 3 18 No) ++ ([(x 15, .inl (cI, 3, .inl Rf))])) sz) (fun u => (xO x X) ++ (fO ((fun i => x (1 + i)))) ++ (rW ((fun i => x (7 + i))) cI 3 18 (u.1)) ++ ([(x 15, .inl (cI, 3, .inl (u.2)))]))) (va_A ((xO x X) ++ (fO ((fun i => x (1 + i)))) ++ (rW ((fun i => x (7 + i))) cI 3 18 No) ++ ([(x 15, .inl (cI, 3, .inl Rf))])) sz)) 0 0 (va_A ((xO x X) ++ (fO ((fun i => x (1 + i)))) ++ (rW ((fun i => x (7 + i))) cI 3 18 No) ++ ([(x 15, .inl (cI, 3, .inl Rf))])) sz) := by
  refine Met.ofW (cc := cX5_note) (maxL := 4) (ret := (some .int)) (by decide) rfl ?_
  intro p e s m args below meth c s₁ B hml hv
  obtain ⟨rfl, hsz, hP, hK, hD0, hN⟩ := hv
  have hx := B.exec
  have hb := B.bytes
  have hr := B.returns
  have hts := atoms_spec (ws := wsX5_note) B.pre
  have hown : s.vm.findClass RX5 = some m.cls := findClass_of_methodNamed B.named
  have hlocks := B.notSynchronized
  subst hsz
  have hD := hD0.self (sz := s.heap.size)
  generalize hAe : va_A ((xO x X) ++ (fO ((fun i => x (1 + i)))) ++ (rW ((fun i => x (7 + i))) cI 3 18 No) ++ ([(x 15, .inl (cI, 3, .inl Rf))])) s.heap.size = A at hD ⊢
  have hA : ∀ q : Nat, s.heap.size ≤ q → A q := fun q h => by rw [← hAe]; exact Or.inr h
  have hS : va_S A s.heap s.heap [] := va_S.rf
  have hin1 : ∀ w ∈ wsX10, w ∈ wsX5_note := by decide +kernel
  have hin5 : ∀ w ∈ wsX50, w ∈ wsX5_note := by decide +kernel
  have lk12 := hts (.fieldLink RX5 12 "PostRounders" "now" "LPostRounders$Field;") (by decide +kernel)
  have lk195 := hts (.fieldLink RX5 195 "PostRounders$Field" "notes" "LPostRounders$Rows;") (by decide +kernel)
  have hl := lv_entry ([.ref (x 0), .int ti, .int h, .int g]) (n := 4) (Nat.le_of_ble_eq_true rfl)
  rw [lg_entry_eq]
  generalize (lg_sl ([.ref (x 0), .int ti, .int h, .int g]) ++ List.replicate (4 - (lg_sl ([.ref (x 0), .int ti, .int h, .int g])).length) Slot.unset).toArray = ls at hl ⊢
  have hl : lv_has ls 4 [(0, .ref (x 0)), (1, .int ti), (2, .int h), (3, .int g)] := hl
  obtain ⟨OUT, hO⟩ : ∃ z, z = F_X5_note No Rf ti h g := ⟨_, rfl⟩
  have hF := hO
  unfold F_X5_note at hF
  have e_pno := tN_eq pno.1
  have b_pno := pno.2
  refine lv_iload_n hx hb dX5_note_0 rfl (lv_at hl 1 rfl) ?_
  refine lv_iconst (v := nI 0) hx hb dX5_note_1 (by decide) ?_
  refine lv_bipush (v := nI 99) hx hb dX5_note_2 (by decide) ?_
  refine qc_Si (As := [.int ti, .int (nI 0), .int (nI 99)]) (rest := []) ⟨hx, hb, hml, hown, hts⟩ (c_X5_within l ti (nI 0) (nI 99)) (va_cwS 3 hts gX5_note_X5_within rfl rfl rfl (by decide +kernel) ⟨Nat.le_of_ble_eq_true rfl, Nat.le_of_ble_eq_true rfl⟩) rfl hl.1 rfl (Nat.le_of_ble_eq_true rfl) dX5_note_4 ⟨Nat.zero_le _, Nat.zero_le _⟩ (fun r_4 hw_4 => ?_)
  subst hw_4
  refine qv_zif_eq (tgt := 27) hx hb dX5_note_7 (by decide) (fun c_7 => ?_) (fun c_7 => ?_)
  · rw [if_neg c_7] at hF
    refine lv_aload_n hx hb dX5_note_27 rfl (lv_at hl 0 rfl) ?_
    refine lv_bipush (v := (-2)) hx hb dX5_note_28 (by decide) ?_
    refine qx_Vi (C := RX5) (As := [.int ((-2))]) (rest := []) (ci := 5) (k0 := 0) (wr := (fO ((fun i => x (1 + i)))) ++ (rW ((fun i => x (7 + i))) cI 3 18 No)) (ws2 := fun u => (xO x X) ++ (fO ((fun i => x (1 + i)))) ++ (rW ((fun i => x (7 + i))) cI 3 18 No) ++ ([(x 15, .inl (cI, 3, .inl u))])) [0, 4] [1, 2, 3] [3, 0, 1, 2, 4] ⟨hx, hb, hml, hown, hts⟩ (c_X5_refuse l dC dI x cI s.heap.size X Rf ((-2)) ) (cwV 1 hts gX5_note_X5_refuse rfl rfl rfl (by decide +kernel) ⟨Nat.le_of_ble_eq_true rfl, Nat.le_of_ble_eq_true rfl⟩) (hK.sub [0] rfl) hK hP hD hS hA hN rfl rfl (by decide) (by decide) (by decide) (by decide) (fun _ => rfl) rfl rfl rfl rfl hl.1 rfl (Nat.le_of_ble_eq_true rfl) dX5_note_30 ⟨Nat.zero_le _, Nat.zero_le _⟩ (fun r_30 u_30 H locs hw_30 hP hD hS => ?_)
    obtain ⟨Rf_30, rfl⟩ : ∃ z, z = u_30 := ⟨_, rfl⟩
    have hP : va_P (dC, dI) vwCl ((xO x X) ++ (fO ((fun i => x (1 + i)))) ++ (rW ((fun i => x (7 + i))) cI 3 18 No) ++ ([(x 15, .inl (cI, 3, .inl Rf_30))])) H := hP
    have hD : va_D A ((xO x X) ++ (fO ((fun i => x (1 + i)))) ++ (rW ((fun i => x (7 + i))) cI 3 18 No) ++ ([(x 15, .inl (cI, 3, .inl Rf_30))])) := hD
    rw [hw_30, let2_mk r_30 Rf_30] at hF
    have hP9 : va_P (dC, dI) vwCl ((xO x X) ++ (fO ((fun i => x (1 + i)))) ++ (rW ((fun i => x (7 + i))) cI 3 18 No) ++ ([(x 15, .inl (cI, 3, .inl Rf_30))])) H := hP
    exact W.iret (v := r_30) hx hb hr (fun t ht hW => ⟨⟨_, ((No, Rf_30)), rfl, hO.symm.trans hF, by rw [ht]; exact hP9, va_K.moved hW.alike hK, hD⟩, hS.F ht⟩) hS.2.2 dX5_note_33
  · rw [if_pos c_7] at hF
    obtain ⟨f_ti, fa_ti, fb_ti⟩ := within_nat (by decide) (by decide) c_7
    have e_ti := tN_eq f_ti
    refine lv_iload_n hx hb dX5_note_10 rfl (lv_at hl 2 rfl) ?_
    refine qc_Si (As := [.int h]) (rest := []) ⟨hx, hb, hml, hown, hts⟩ (c_X5_isHit l h) (va_cwS 1 hts gX5_note_X5_isHit rfl rfl rfl (by decide +kernel) ⟨Nat.le_of_ble_eq_true rfl, Nat.le_of_ble_eq_true rfl⟩) rfl hl.1 rfl (Nat.le_of_ble_eq_true rfl) dX5_note_11 ⟨Nat.zero_le _, Nat.zero_le _⟩ (fun r_11 hw_11 => ?_)
    subst hw_11
    refine qv_zif_eq (tgt := 27) hx hb dX5_note_14 (by decide) (fun c_14 => ?_) (fun c_14 => ?_)
    · rw [if_neg c_14] at hF
      refine lv_aload_n hx hb dX5_note_27 rfl (lv_at hl 0 rfl) ?_
      refine lv_bipush (v := (-2)) hx hb dX5_note_28 (by decide) ?_
      refine qx_Vi (C := RX5) (As := [.int ((-2))]) (rest := []) (ci := 5) (k0 := 0) (wr := (fO ((fun i => x (1 + i)))) ++ (rW ((fun i => x (7 + i))) cI 3 18 No)) (ws2 := fun u => (xO x X) ++ (fO ((fun i => x (1 + i)))) ++ (rW ((fun i => x (7 + i))) cI 3 18 No) ++ ([(x 15, .inl (cI, 3, .inl u))])) [0, 4] [1, 2, 3] [3, 0, 1, 2, 4] ⟨hx, hb, hml, hown, hts⟩ (c_X5_refuse l dC dI x cI s.heap.size X Rf ((-2)) ) (cwV 1 hts gX5_note_X5_refuse rfl rfl rfl (by decide +kernel) ⟨Nat.le_of_ble_eq_true rfl, Nat.le_of_ble_eq_true rfl⟩) (hK.sub [0] rfl) hK hP hD hS hA hN rfl rfl (by decide) (by decide) (by decide) (by decide) (fun _ => rfl) rfl rfl rfl rfl hl.1 rfl (Nat.le_of_ble_eq_true rfl) dX5_note_30 ⟨Nat.zero_le _, Nat.zero_le _⟩ (fun r_30 u_30 H locs hw_30 hP hD hS => ?_)
      obtain ⟨Rf_30, rfl⟩ : ∃ z, z = u_30 := ⟨_, rfl⟩
      have hP : va_P (dC, dI) vwCl ((xO x X) ++ (fO ((fun i => x (1 + i)))) ++ (rW ((fun i => x (7 + i))) cI 3 18 No) ++ ([(x 15, .inl (cI, 3, .inl Rf_30))])) H := hP
      have hD : va_D A ((xO x X) ++ (fO ((fun i => x (1 + i)))) ++ (rW ((fun i => x (7 + i))) cI 3 18 No) ++ ([(x 15, .inl (cI, 3, .inl Rf_30))])) := hD
      rw [hw_30, let2_mk r_30 Rf_30] at hF
      have hP9 : va_P (dC, dI) vwCl ((xO x X) ++ (fO ((fun i => x (1 + i)))) ++ (rW ((fun i => x (7 + i))) cI 3 18 No) ++ ([(x 15, .inl (cI, 3, .inl Rf_30))])) H := hP
      exact W.iret (v := r_30) hx hb hr (fun t ht hW => ⟨⟨_, ((No, Rf_30)), rfl, hO.symm.trans hF, by rw [ht]; exact hP9, va_K.moved hW.alike hK, hD⟩, hS.F ht⟩) hS.2.2 dX5_note_33
    · rw [if_pos c_14] at hF
      obtain ⟨f_h, fa_h, fb_h⟩ := isHit_nat c_14
      have e_h := tN_eq f_h
      refine lv_iload_n hx hb dX5_note_17 rfl (lv_at hl 3 rfl) ?_
      refine lv_iconst (v := nI 0) hx hb dX5_note_18 (by decide) ?_
      refine lv_bipush (v := nI 20) hx hb dX5_note_19 (by decide) ?_
      refine qc_Si (As := [.int g, .int (nI 0), .int (nI 20)]) (rest := []) ⟨hx, hb, hml, hown, hts⟩ (c_X5_within l g (nI 0) (nI 20)) (va_cwS 3 hts gX5_note_X5_within rfl rfl rfl (by decide +kernel) ⟨Nat.le_of_ble_eq_true rfl, Nat.le_of_ble_eq_true rfl⟩) rfl hl.1 rfl (Nat.le_of_ble_eq_true rfl) dX5_note_21 ⟨Nat.zero_le _, Nat.zero_le _⟩ (fun r_21 hw_21 => ?_)
      subst hw_21
      refine qv_zif_ne (tgt := 34) hx hb dX5_note_24 (by decide) (fun c_24 => ?_) (fun c_24 => ?_)
      · rw [if_pos c_24] at hF
        obtain ⟨f_g, fa_g, fb_g⟩ := within_nat (by decide) (by decide) c_24
        have e_g := tN_eq f_g
        refine lv_aload_n hx hb dX5_note_34 rfl (lv_at hl 0 rfl) ?_
        refine va_get (D := (dC, dI)) (ci := 5) (v := .ref (x 1)) (C := RX5) (T := TX5) (N := 14) hx hb hts hin5 hown hK hP 0 rfl rfl 0 (by decide) lk12 (fun _ h9 => h9) rfl dX5_note_35 ?_
        refine va_get (D := (dC, dI)) (ci := 1) (v := .ref (x 7)) (C := RX1) (T := TX1) (N := 5) hx hb hts hin1 hown hK hP 1 rfl rfl 2 (by decide) lk195 (fun _ h9 => h9) rfl dX5_note_38 ?_
        refine qx_Vi (C := RX4) (As := []) (rest := []) (ci := 4) (k0 := 2) (wr := (xO x X) ++ (fO ((fun i => x (1 + i)))) ++ ([(x 15, .inl (cI, 3, .inl Rf))])) (ws2 := fun u => (xO x X) ++ (fO ((fun i => x (1 + i)))) ++ (rW ((fun i => x (7 + i))) cI 3 18 No) ++ ([(x 15, .inl (cI, 3, .inl Rf))])) [2, 3] [0, 1, 4] [0, 1, 3, 4, 2] ⟨hx, hb, hml, hown, hts⟩ (c_X4_isFull_v3 l dC dI (fun i => x (7 + i)) cI s.heap.size No  (pno : inB (Rus No) 18)) (cwV 0 hts gX5_note_X4_isFull rfl rfl rfl (by decide +kernel) ⟨Nat.le_of_ble_eq_true rfl, Nat.le_of_ble_eq_true rfl⟩) (hK.sub [0] rfl) hK hP hD hS hA hN rfl rfl (by decide) (by decide) (by decide) (by decide) (fun _ => rfl) rfl rfl rfl rfl hl.1 rfl (Nat.le_of_ble_eq_true rfl) dX5_note_41 ⟨Nat.zero_le _, Nat.zero_le _⟩ (fun r_41 u_41 H locs hw_41 hP hD hS => ?_)
        have hP : va_P (dC, dI) vwCl ((xO x X) ++ (fO ((fun i => x (1 + i)))) ++ (rW ((fun i => x (7 + i))) cI 3 18 No) ++ ([(x 15, .inl (cI, 3, .inl Rf))])) H := hP
        have hD : va_D A ((xO x X) ++ (fO ((fun i => x (1 + i)))) ++ (rW ((fun i => x (7 + i))) cI 3 18 No) ++ ([(x 15, .inl (cI, 3, .inl Rf))])) := hD
        obtain ⟨z_41, hw_41, rfl⟩ := hw_41
        rw [hw_41, let1_mk z_41] at hF
        refine qv_zif_eq (tgt := 54) hx hb dX5_note_44 (by decide) (fun c_44 => ?_) (fun c_44 => ?_)
        · rw [if_neg c_44] at hF
          refine lv_aload_n hx hb dX5_note_54 rfl (lv_at hl 0 rfl) ?_
          refine va_get (D := (dC, dI)) (ci := 5) (v := .ref (x 1)) (C := RX5) (T := TX5) (N := 14) hx hb hts hin5 hown hK hP 0 rfl rfl 0 (by decide) lk12 (fun _ h9 => h9) rfl dX5_note_55 ?_
          refine va_get (D := (dC, dI)) (ci := 1) (v := .ref (x 7)) (C := RX1) (T := TX1) (N := 5) hx hb hts hin1 hown hK hP 1 rfl rfl 2 (by decide) lk195 (fun _ h9 => h9) rfl dX5_note_58 ?_
          refine lv_iload_n hx hb dX5_note_61 rfl (lv_at hl 1 rfl) ?_
          refine qv_top (e_ti) ?_
          refine qx_Vv (C := RX4) (As := [.int (nI (tN ti))]) (rest := []) (ci := 4) (k0 := 2) (wr := (xO x X) ++ (fO ((fun i => x (1 + i)))) ++ ([(x 15, .inl (cI, 3, .inl Rf))])) (ws2 := fun u => (xO x X) ++ (fO ((fun i => x (1 + i)))) ++ (rW ((fun i => x (7 + i))) cI 3 18 u) ++ ([(x 15, .inl (cI, 3, .inl Rf))])) [2, 3] [0, 1, 4] [0, 1, 3, 4, 2] ⟨hx, hb, hml, hown, hts⟩ (c_X4_put_v3 l dC dI (fun i => x (7 + i)) cI H.size No (nI (tN ti)) (pno : inB (Rus No) 18)) (cwV 1 hts gX5_note_X4_put rfl rfl rfl (by decide +kernel) ⟨Nat.le_of_ble_eq_true rfl, Nat.le_of_ble_eq_true rfl⟩) (hK.sub [0] rfl) hK hP hD hS hA hN rfl rfl (by decide) (by decide) (by decide) (by decide) (fun _ => rfl) rfl rfl rfl rfl hl.1 rfl (Nat.le_of_ble_eq_true rfl) dX5_note_62 ⟨Nat.zero_le _, Nat.zero_le _⟩ (fun u_62 H locs hw_62 hP hD hS => ?_)
          obtain ⟨No_62, rfl⟩ : ∃ z, z = u_62 := ⟨_, rfl⟩
          have hP : va_P (dC, dI) vwCl ((xO x X) ++ (fO ((fun i => x (1 + i)))) ++ (rW ((fun i => x (7 + i))) cI 3 18 No_62) ++ ([(x 15, .inl (cI, 3, .inl Rf))])) H := hP
          have hD : va_D A ((xO x X) ++ (fO ((fun i => x (1 + i)))) ++ (rW ((fun i => x (7 + i))) cI 3 18 No_62) ++ ([(x 15, .inl (cI, 3, .inl Rf))])) := hD
          have a_62 := put_at3 hw_62 (pno : inB (Rus No) 18)
          rw [hw_62, let1_mk No_62] at hF
          refine lv_aload_n hx hb dX5_note_65 rfl (lv_at hl 0 rfl) ?_
          refine va_get (D := (dC, dI)) (ci := 5) (v := .ref (x 1)) (C := RX5) (T := TX5) (N := 14) hx hb hts hin5 hown hK hP 0 rfl rfl 0 (by decide) lk12 (fun _ h9 => h9) rfl dX5_note_66 ?_
          refine va_get (D := (dC, dI)) (ci := 1) (v := .ref (x 7)) (C := RX1) (T := TX1) (N := 5) hx hb hts hin1 hown hK hP 1 rfl rfl 2 (by decide) lk195 (fun _ h9 => h9) rfl dX5_note_69 ?_
          refine lv_iload_n hx hb dX5_note_72 rfl (lv_at hl 2 rfl) ?_
          refine qv_top (e_h) ?_
          refine qx_Vv (C := RX4) (As := [.int (nI (tN h))]) (rest := []) (ci := 4) (k0 := 2) (wr := (xO x X) ++ (fO ((fun i => x (1 + i)))) ++ ([(x 15, .inl (cI, 3, .inl Rf))])) (ws2 := fun u => (xO x X) ++ (fO ((fun i => x (1 + i)))) ++ (rW ((fun i => x (7 + i))) cI 3 18 u) ++ ([(x 15, .inl (cI, 3, .inl Rf))])) [2, 3] [0, 1, 4] [0, 1, 3, 4, 2] ⟨hx, hb, hml, hown, hts⟩ (c_X4_put_v3 l dC dI (fun i => x (7 + i)) cI H.size No_62 (nI (tN h)) (a_62 : inB (Rus No_62) 18)) (cwV 1 hts gX5_note_X4_put rfl rfl rfl (by decide +kernel) ⟨Nat.le_of_ble_eq_true rfl, Nat.le_of_ble_eq_true rfl⟩) (hK.sub [0] rfl) hK hP hD hS hA hN rfl rfl (by decide) (by decide) (by decide) (by decide) (fun _ => rfl) rfl rfl rfl rfl hl.1 rfl (Nat.le_of_ble_eq_true rfl) dX5_note_73 ⟨Nat.zero_le _, Nat.zero_le _⟩ (fun u_73 H locs hw_73 hP hD hS => ?_)
          obtain ⟨No_73, rfl⟩ : ∃ z, z = u_73 := ⟨_, rfl⟩
          have hP : va_P (dC, dI) vwCl ((xO x X) ++ (fO ((fun i => x (1 + i)))) ++ (rW ((fun i => x (7 + i))) cI 3 18 No_73) ++ ([(x 15, .inl (cI, 3, .inl Rf))])) H := hP
          have hD : va_D A ((xO x X) ++ (fO ((fun i => x (1 + i)))) ++ (rW ((fun i => x (7 + i))) cI 3 18 No_73) ++ ([(x 15, .inl (cI, 3, .inl Rf))])) := hD
          have a_73 := put_at3 hw_73 (a_62 : inB (Rus No_62) 18)
          rw [hw_73, let1_mk No_73] at hF
          refine lv_aload_n hx hb dX5_note_76 rfl (lv_at hl 0 rfl) ?_
          refine va_get (D := (dC, dI)) (ci := 5) (v := .ref (x 1)) (C := RX5) (T := TX5) (N := 14) hx hb hts hin5 hown hK hP 0 rfl rfl 0 (by decide) lk12 (fun _ h9 => h9) rfl dX5_note_77 ?_
          refine va_get (D := (dC, dI)) (ci := 1) (v := .ref (x 7)) (C := RX1) (T := TX1) (N := 5) hx hb hts hin1 hown hK hP 1 rfl rfl 2 (by decide) lk195 (fun _ h9 => h9) rfl dX5_note_80 ?_
          refine lv_iload_n hx hb dX5_note_83 rfl (lv_at hl 3 rfl) ?_
          refine qv_top (e_g) ?_
          refine qx_Vv (C := RX4) (As := [.int (nI (tN g))]) (rest := []) (ci := 4) (k0 := 2) (wr := (xO x X) ++ (fO ((fun i => x (1 + i)))) ++ ([(x 15, .inl (cI, 3, .inl Rf))])) (ws2 := fun u => (xO x X) ++ (fO ((fun i => x (1 + i)))) ++ (rW ((fun i => x (7 + i))) cI 3 18 u) ++ ([(x 15, .inl (cI, 3, .inl Rf))])) [2, 3] [0, 1, 4] [0, 1, 3, 4, 2] ⟨hx, hb, hml, hown, hts⟩ (c_X4_put_v3 l dC dI (fun i => x (7 + i)) cI H.size No_73 (nI (tN g)) (a_73 : inB (Rus No_73) 18)) (cwV 1 hts gX5_note_X4_put rfl rfl rfl (by decide +kernel) ⟨Nat.le_of_ble_eq_true rfl, Nat.le_of_ble_eq_true rfl⟩) (hK.sub [0] rfl) hK hP hD hS hA hN rfl rfl (by decide) (by decide) (by decide) (by decide) (fun _ => rfl) rfl rfl rfl rfl hl.1 rfl (Nat.le_of_ble_eq_true rfl) dX5_note_84 ⟨Nat.zero_le _, Nat.zero_le _⟩ (fun u_84 H locs hw_84 hP hD hS => ?_)
          obtain ⟨No_84, rfl⟩ : ∃ z, z = u_84 := ⟨_, rfl⟩
          have hP : va_P (dC, dI) vwCl ((xO x X) ++ (fO ((fun i => x (1 + i)))) ++ (rW ((fun i => x (7 + i))) cI 3 18 No_84) ++ ([(x 15, .inl (cI, 3, .inl Rf))])) H := hP
          have hD : va_D A ((xO x X) ++ (fO ((fun i => x (1 + i)))) ++ (rW ((fun i => x (7 + i))) cI 3 18 No_84) ++ ([(x 15, .inl (cI, 3, .inl Rf))])) := hD
          have a_84 := put_at3 hw_84 (a_73 : inB (Rus No_73) 18)
          rw [hw_84, let1_mk No_84] at hF
          refine lv_aload_n hx hb dX5_note_87 rfl (lv_at hl 0 rfl) ?_
          refine va_get (D := (dC, dI)) (ci := 5) (v := .ref (x 1)) (C := RX5) (T := TX5) (N := 14) hx hb hts hin5 hown hK hP 0 rfl rfl 0 (by decide) lk12 (fun _ h9 => h9) rfl dX5_note_88 ?_
          refine va_get (D := (dC, dI)) (ci := 1) (v := .ref (x 7)) (C := RX1) (T := TX1) (N := 5) hx hb hts hin1 hown hK hP 1 rfl rfl 2 (by decide) lk195 (fun _ h9 => h9) rfl dX5_note_91 ?_
          refine qx_Vi (C := RX4) (As := []) (rest := []) (ci := 4) (k0 := 2) (wr := (xO x X) ++ (fO ((fun i => x (1 + i)))) ++ ([(x 15, .inl (cI, 3, .inl Rf))])) (ws2 := fun u => (xO x X) ++ (fO ((fun i => x (1 + i)))) ++ (rW ((fun i => x (7 + i))) cI 3 18 No_84) ++ ([(x 15, .inl (cI, 3, .inl Rf))])) [2, 3] [0, 1, 4] [0, 1, 3, 4, 2] ⟨hx, hb, hml, hown, hts⟩ (c_X4_size_v3 l dC dI (fun i => x (7 + i)) cI H.size No_84  (a_84 : inB (Rus No_84) 18)) (cwV 0 hts gX5_note_X4_size rfl rfl rfl (by decide +kernel) ⟨Nat.le_of_ble_eq_true rfl, Nat.le_of_ble_eq_true rfl⟩) (hK.sub [0] rfl) hK hP hD hS hA hN rfl rfl (by decide) (by decide) (by decide) (by decide) (fun _ => rfl) rfl rfl rfl rfl hl.1 rfl (Nat.le_of_ble_eq_true rfl) dX5_note_94 ⟨Nat.zero_le _, Nat.zero_le _⟩ (fun r_94 u_94 H locs hw_94 hP hD hS => ?_)
          have hP : va_P (dC, dI) vwCl ((xO x X) ++ (fO ((fun i => x (1 + i)))) ++ (rW ((fun i => x (7 + i))) cI 3 18 No_84) ++ ([(x 15, .inl (cI, 3, .inl Rf))])) H := hP
          have hD : va_D A ((xO x X) ++ (fO ((fun i => x (1 + i)))) ++ (rW ((fun i => x (7 + i))) cI 3 18 No_84) ++ ([(x 15, .inl (cI, 3, .inl Rf))])) := hD
          rw [hw_94, let1_mk r_94] at hF
          have hP9 : va_P (dC, dI) vwCl ((xO x X) ++ (fO ((fun i => x (1 + i)))) ++ (rW ((fun i => x (7 + i))) cI 3 18 No_84) ++ ([(x 15, .inl (cI, 3, .inl Rf))])) H := hP
          exact W.iret (v := r_94) hx hb hr (fun t ht hW => ⟨⟨_, ((No_84, Rf)), rfl, hO.symm.trans hF, by rw [ht]; exact hP9, va_K.moved hW.alike hK, hD⟩, hS.F ht⟩) hS.2.2 dX5_note_97
        · rw [if_pos c_44] at hF
          refine lv_aload_n hx hb dX5_note_47 rfl (lv_at hl 0 rfl) ?_
          refine lv_bipush (v := (-4)) hx hb dX5_note_48 (by decide) ?_
          refine qx_Vi (C := RX5) (As := [.int ((-4))]) (rest := []) (ci := 5) (k0 := 0) (wr := (fO ((fun i => x (1 + i)))) ++ (rW ((fun i => x (7 + i))) cI 3 18 No)) (ws2 := fun u => (xO x X) ++ (fO ((fun i => x (1 + i)))) ++ (rW ((fun i => x (7 + i))) cI 3 18 No) ++ ([(x 15, .inl (cI, 3, .inl u))])) [0, 4] [1, 2, 3] [3, 0, 1, 2, 4] ⟨hx, hb, hml, hown, hts⟩ (c_X5_refuse l dC dI x cI H.size X Rf ((-4)) ) (cwV 1 hts gX5_note_X5_refuse rfl rfl rfl (by decide +kernel) ⟨Nat.le_of_ble_eq_true rfl, Nat.le_of_ble_eq_true rfl⟩) (hK.sub [0] rfl) hK hP hD hS hA hN rfl rfl (by decide) (by decide) (by decide) (by decide) (fun _ => rfl) rfl rfl rfl rfl hl.1 rfl (Nat.le_of_ble_eq_true rfl) dX5_note_50 ⟨Nat.zero_le _, Nat.zero_le _⟩ (fun r_50 u_50 H locs hw_50 hP hD hS => ?_)
          obtain ⟨Rf_50, rfl⟩ : ∃ z, z = u_50 := ⟨_, rfl⟩
          have hP : va_P (dC, dI) vwCl ((xO x X) ++ (fO ((fun i => x (1 + i)))) ++ (rW ((fun i => x (7 + i))) cI 3 18 No) ++ ([(x 15, .inl (cI, 3, .inl Rf_50))])) H := hP
          have hD : va_D A ((xO x X) ++ (fO ((fun i => x (1 + i)))) ++ (rW ((fun i => x (7 + i))) cI 3 18 No) ++ ([(x 15, .inl (cI, 3, .inl Rf_50))])) := hD
          rw [hw_50, let2_mk r_50 Rf_50] at hF
          have hP9 : va_P (dC, dI) vwCl ((xO x X) ++ (fO ((fun i => x (1 + i)))) ++ (rW ((fun i => x (7 + i))) cI 3 18 No) ++ ([(x 15, .inl (cI, 3, .inl Rf_50))])) H := hP
          exact W.iret (v := r_50) hx hb hr (fun t ht hW => ⟨⟨_, ((No, Rf_50)), rfl, hO.symm.trans hF, by rw [ht]; exact hP9, va_K.moved hW.alike hK, hD⟩, hS.F ht⟩) hS.2.2 dX5_note_53
      · rw [if_neg c_24] at hF
        refine lv_aload_n hx hb dX5_note_27 rfl (lv_at hl 0 rfl) ?_
        refine lv_bipush (v := (-2)) hx hb dX5_note_28 (by decide) ?_
        refine qx_Vi (C := RX5) (As := [.int ((-2))]) (rest := []) (ci := 5) (k0 := 0) (wr := (fO ((fun i => x (1 + i)))) ++ (rW ((fun i => x (7 + i))) cI 3 18 No)) (ws2 := fun u => (xO x X) ++ (fO ((fun i => x (1 + i)))) ++ (rW ((fun i => x (7 + i))) cI 3 18 No) ++ ([(x 15, .inl (cI, 3, .inl u))])) [0, 4] [1, 2, 3] [3, 0, 1, 2, 4] ⟨hx, hb, hml, hown, hts⟩ (c_X5_refuse l dC dI x cI s.heap.size X Rf ((-2)) ) (cwV 1 hts gX5_note_X5_refuse rfl rfl rfl (by decide +kernel) ⟨Nat.le_of_ble_eq_true rfl, Nat.le_of_ble_eq_true rfl⟩) (hK.sub [0] rfl) hK hP hD hS hA hN rfl rfl (by decide) (by decide) (by decide) (by decide) (fun _ => rfl) rfl rfl rfl rfl hl.1 rfl (Nat.le_of_ble_eq_true rfl) dX5_note_30 ⟨Nat.zero_le _, Nat.zero_le _⟩ (fun r_30 u_30 H locs hw_30 hP hD hS => ?_)
        obtain ⟨Rf_30, rfl⟩ : ∃ z, z = u_30 := ⟨_, rfl⟩
        have hP : va_P (dC, dI) vwCl ((xO x X) ++ (fO ((fun i => x (1 + i)))) ++ (rW ((fun i => x (7 + i))) cI 3 18 No) ++ ([(x 15, .inl (cI, 3, .inl Rf_30))])) H := hP
        have hD : va_D A ((xO x X) ++ (fO ((fun i => x (1 + i)))) ++ (rW ((fun i => x (7 + i))) cI 3 18 No) ++ ([(x 15, .inl (cI, 3, .inl Rf_30))])) := hD
        rw [hw_30, let2_mk r_30 Rf_30] at hF
        have hP9 : va_P (dC, dI) vwCl ((xO x X) ++ (fO ((fun i => x (1 + i)))) ++ (rW ((fun i => x (7 + i))) cI 3 18 No) ++ ([(x 15, .inl (cI, 3, .inl Rf_30))])) H := hP
        exact W.iret (v := r_30) hx hb hr (fun t ht hW => ⟨⟨_, ((No, Rf_30)), rfl, hO.symm.trans hF, by rw [ht]; exact hP9, va_K.moved hW.alike hK, hD⟩, hS.F ht⟩) hS.2.2 dX5_note_33
def F_X5_mark (P : pS) (Ma : rS) (Rf : Nat → Int32) (i : Int32) (lg : Int32) (g : Int32) (x0 : Int32) : Int32 × (rS) × (Nat → Int32) := let1 (F_X5_isBatter P i) (fun z_2 => if z_2 = true then (if (F_X5_within lg (nI 1) (nI 5)) = true then (if (F_X5_within g (nI 0) (nI 20)) = true then (if (F_X5_within x0 (nI 0) (nI 9)) = true then let1 (F_X4_isFull_v4 Ma) (fun z_52 => if z_52 = true then let2 (F_X5_refuse Rf ((-4))) (fun r_61 Rf_61 => (r_61, Ma, Rf_61)) else let1 (F_X4_put_v4 Ma (nI (tN i))) (fun Ma_73 => let1 (F_X4_put_v4 Ma_73 (nI (tN lg))) (fun Ma_84 => let1 (F_X4_put_v4 Ma_84 (nI (tN g))) (fun Ma_95 => let1 (F_X4_put_v4 Ma_95 (nI (tN x0))) (fun Ma_107 => let1 (F_X4_size_v4 Ma_107) (fun r_117 => (r_117, Ma_107, Rf))))))) else let2 (F_X5_refuse Rf ((-2))) (fun r_41 Rf_41 => (r_41, Ma, Rf_41))) else let2 (F_X5_refuse Rf ((-2))) (fun r_41 Rf_41 => (r_41, Ma, Rf_41))) else let2 (F_X5_refuse Rf ((-2))) (fun r_41 Rf_41 => (r_41, Ma, Rf_41))) else let2 (F_X5_refuse Rf ((-2))) (fun r_41 Rf_41 => (r_41, Ma, Rf_41)))
set_option maxHeartbeats 4000000 in
set_option maxRecDepth 100000 in
theorem c_X5_mark (l : Launch) (dC : Nat → ClassId) (dI : Nat → Nat → Nat) (x : Nat → Nat) (cI : ClassId) (sz : Nat) (X : xS) (P : pS) (Ma : rS) (Rf : Nat → Int32) (i : Int32) (lg : Int32) (g : Int32) (x0 : Int32) (pz : inB (Psz P) 6) (pma : inB (Rus Ma) 24) : Met l yX5_mark wsX5_mark { frames := 2, cells := 0, slots := 0, locals := 44 } (xPc (dC, dI) vwCl (xT cI) ((xO x X) ++ (fO ((fun i => x (1 + i)))) ++ (pW ((fun i => x (2 + i))) cI P) ++ (rW ((fun i => x (9 + i))) cI 4 24 Ma) ++ ([(x 15, .inl (cI, 3, .inl Rf))])) sz [.ref (x 0), .int i, .int lg, .int g, .int x0]) (va_Qi (fun (r : Int32) (u : (rS) × (Nat → Int32)) => F_X5_mark P Ma Rf i lg g x0 = (r, u)) (mB (dC, dI) vwCl (xT cI) (va_A ((xO x X) ++ (fO ((fun i => x (1 + i)))) ++ (pW ((fun i => x (2 + i))) cI P) ++ (rW ((fun i => x (9 + i))) cI 4 24 Ma) ++ ([(x 15, .inl (cI, 3, .inl Rf))])) sz) (fun u => (xO x X) ++ (fO ((fun i => x (1 + i)))) ++ (pW ((fun i => x (2 + i))) cI P) ++ (rW ((fun i => x (9 + i))) cI 4 24 (u.1)) ++ ([(x 15, .inl (cI, 3, .inl (u.2)))]))) (va_A ((xO x X) ++ (fO ((fun i => x (1 + i)))) ++ (pW ((fun i => x (2 + i))) cI P) ++ (rW ((fun i => x (9 + i))) cI 4 24 Ma) ++ ([(x 15, .inl (cI, 3, .inl Rf))])) sz)) 0 0 (va_A ((xO x X) ++ (fO ((fun i => x (1 + i)))) ++ (pW ((fun i => x (2 + i))) cI P) ++ (rW ((fun i => x (9 + i))) cI 4 24 Ma) ++ ([(x 15, .inl (cI, 3, .inl Rf))])) sz) := by
  refine Met.ofW (cc := cX5_mark) (maxL := 5) (ret := (some .int)) (by decide) rfl ?_
  intro p e s m args below meth c s₁ B hml hv
  obtain ⟨rfl, hsz, hP, hK, hD0, hN⟩ := hv
  have hx := B.exec
  have hb := B.bytes
  have hr := B.returns
  have hts := atoms_spec (ws := wsX5_mark) B.pre
  have hown : s.vm.findClass RX5 = some m.cls := findClass_of_methodNamed B.named
  have hlocks := B.notSynchronized
  subst hsz
  have hD := hD0.self (sz := s.heap.size)
  generalize hAe : va_A ((xO x X) ++ (fO ((fun i => x (1 + i)))) ++ (pW ((fun i => x (2 + i))) cI P) ++ (rW ((fun i => x (9 + i))) cI 4 24 Ma) ++ ([(x 15, .inl (cI, 3, .inl Rf))])) s.heap.size = A at hD ⊢
  have hA : ∀ q : Nat, s.heap.size ≤ q → A q := fun q h => by rw [← hAe]; exact Or.inr h
  have hS : va_S A s.heap s.heap [] := va_S.rf
  have hin1 : ∀ w ∈ wsX10, w ∈ wsX5_mark := by decide +kernel
  have hin5 : ∀ w ∈ wsX50, w ∈ wsX5_mark := by decide +kernel
  have lk12 := hts (.fieldLink RX5 12 "PostRounders" "now" "LPostRounders$Field;") (by decide +kernel)
  have lk204 := hts (.fieldLink RX5 204 "PostRounders$Field" "marks" "LPostRounders$Rows;") (by decide +kernel)
  have hl := lv_entry ([.ref (x 0), .int i, .int lg, .int g, .int x0]) (n := 5) (Nat.le_of_ble_eq_true rfl)
  rw [lg_entry_eq]
  generalize (lg_sl ([.ref (x 0), .int i, .int lg, .int g, .int x0]) ++ List.replicate (5 - (lg_sl ([.ref (x 0), .int i, .int lg, .int g, .int x0])).length) Slot.unset).toArray = ls at hl ⊢
  have hl : lv_has ls 5 [(0, .ref (x 0)), (1, .int i), (2, .int lg), (3, .int g), (4, .int x0)] := hl
  obtain ⟨OUT, hO⟩ : ∃ z, z = F_X5_mark P Ma Rf i lg g x0 := ⟨_, rfl⟩
  have hF := hO
  unfold F_X5_mark at hF
  have e_pz := tN_eq pz.1
  have b_pz := pz.2
  have e_pma := tN_eq pma.1
  have b_pma := pma.2
  refine lv_aload_n hx hb dX5_mark_0 rfl (lv_at hl 0 rfl) ?_
  refine lv_iload_n hx hb dX5_mark_1 rfl (lv_at hl 1 rfl) ?_
  refine qx_Vi (C := RX5) (As := [.int i]) (rest := []) (ci := 5) (k0 := 0) (wr := (rW ((fun i => x (9 + i))) cI 4 24 Ma) ++ ([(x 15, .inl (cI, 3, .inl Rf))])) (ws2 := fun u => (xO x X) ++ (fO ((fun i => x (1 + i)))) ++ (pW ((fun i => x (2 + i))) cI P) ++ (rW ((fun i => x (9 + i))) cI 4 24 Ma) ++ ([(x 15, .inl (cI, 3, .inl Rf))])) [0, 1, 2, 3, 4, 5] [6, 7, 8] [3, 4, 5, 6, 7, 8, 0, 1, 2] ⟨hx, hb, hml, hown, hts⟩ (c_X5_isBatter l dC dI x cI s.heap.size X P i (pz : inB (Psz P) 6)) (cwV 1 hts gX5_mark_X5_isBatter rfl rfl rfl (by decide +kernel) ⟨Nat.le_of_ble_eq_true rfl, Nat.le_of_ble_eq_true rfl⟩) (hK.sub [0] rfl) hK hP hD hS hA hN rfl rfl (by decide) (by decide) (by decide) (by decide) (fun _ => rfl) rfl rfl rfl rfl hl.1 rfl (Nat.le_of_ble_eq_true rfl) dX5_mark_2 ⟨Nat.zero_le _, Nat.zero_le _⟩ (fun r_2 u_2 H locs hw_2 hP hD hS => ?_)
  have hP : va_P (dC, dI) vwCl ((xO x X) ++ (fO ((fun i => x (1 + i)))) ++ (pW ((fun i => x (2 + i))) cI P) ++ (rW ((fun i => x (9 + i))) cI 4 24 Ma) ++ ([(x 15, .inl (cI, 3, .inl Rf))])) H := hP
  have hD : va_D A ((xO x X) ++ (fO ((fun i => x (1 + i)))) ++ (pW ((fun i => x (2 + i))) cI P) ++ (rW ((fun i => x (9 + i))) cI 4 24 Ma) ++ ([(x 15, .inl (cI, 3, .inl Rf))])) := hD
  obtain ⟨z_2, hw_2, rfl⟩ := hw_2
  rw [hw_2, let1_mk z_2] at hF
  refine qv_zif_eq (tgt := 38) hx hb dX5_mark_5 (by decide) (fun c_5 => ?_) (fun c_5 => ?_)
  · rw [if_neg c_5] at hF
    refine lv_aload_n hx hb dX5_mark_38 rfl (lv_at hl 0 rfl) ?_
    refine lv_bipush (v := (-2)) hx hb dX5_mark_39 (by decide) ?_
    refine qx_Vi (C := RX5) (As := [.int ((-2))]) (rest := []) (ci := 5) (k0 := 0) (wr := (fO ((fun i => x (1 + i)))) ++ (pW ((fun i => x (2 + i))) cI P) ++ (rW ((fun i => x (9 + i))) cI 4 24 Ma)) (ws2 := fun u => (xO x X) ++ (fO ((fun i => x (1 + i)))) ++ (pW ((fun i => x (2 + i))) cI P) ++ (rW ((fun i => x (9 + i))) cI 4 24 Ma) ++ ([(x 15, .inl (cI, 3, .inl u))])) [0, 8] [1, 2, 3, 4, 5, 6, 7] [7, 0, 1, 2, 3, 4, 5, 6, 8] ⟨hx, hb, hml, hown, hts⟩ (c_X5_refuse l dC dI x cI H.size X Rf ((-2)) ) (cwV 1 hts gX5_mark_X5_refuse rfl rfl rfl (by decide +kernel) ⟨Nat.le_of_ble_eq_true rfl, Nat.le_of_ble_eq_true rfl⟩) (hK.sub [0] rfl) hK hP hD hS hA hN rfl rfl (by decide) (by decide) (by decide) (by decide) (fun _ => rfl) rfl rfl rfl rfl hl.1 rfl (Nat.le_of_ble_eq_true rfl) dX5_mark_41 ⟨Nat.zero_le _, Nat.zero_le _⟩ (fun r_41 u_41 H locs hw_41 hP hD hS => ?_)
    obtain ⟨Rf_41, rfl⟩ : ∃ z, z = u_41 := ⟨_, rfl⟩
    have hP : va_P (dC, dI) vwCl ((xO x X) ++ (fO ((fun i => x (1 + i)))) ++ (pW ((fun i => x (2 + i))) cI P) ++ (rW ((fun i => x (9 + i))) cI 4 24 Ma) ++ ([(x 15, .inl (cI, 3, .inl Rf_41))])) H := hP
    have hD : va_D A ((xO x X) ++ (fO ((fun i => x (1 + i)))) ++ (pW ((fun i => x (2 + i))) cI P) ++ (rW ((fun i => x (9 + i))) cI 4 24 Ma) ++ ([(x 15, .inl (cI, 3, .inl Rf_41))])) := hD
    rw [hw_41, let2_mk r_41 Rf_41] at hF
    have hP9 : va_P (dC, dI) vwCl ((xO x X) ++ (fO ((fun i => x (1 + i)))) ++ (pW ((fun i => x (2 + i))) cI P) ++ (rW ((fun i => x (9 + i))) cI 4 24 Ma) ++ ([(x 15, .inl (cI, 3, .inl Rf_41))])) H := hP
    exact W.iret (v := r_41) hx hb hr (fun t ht hW => ⟨⟨_, ((Ma, Rf_41)), rfl, hO.symm.trans hF, by rw [ht]; exact hP9, va_K.moved hW.alike hK, hD⟩, hS.F ht⟩) hS.2.2 dX5_mark_44
  · rw [if_pos c_5] at hF
    obtain ⟨f_i, fb_i⟩ := isBatter2 hw_2 c_5 pz
    have e_i := tN_eq f_i
    refine lv_iload_n hx hb dX5_mark_8 rfl (lv_at hl 2 rfl) ?_
    refine lv_iconst (v := nI 1) hx hb dX5_mark_9 (by decide) ?_
    refine lv_iconst (v := nI 5) hx hb dX5_mark_10 (by decide) ?_
    refine qc_Si (As := [.int lg, .int (nI 1), .int (nI 5)]) (rest := []) ⟨hx, hb, hml, hown, hts⟩ (c_X5_within l lg (nI 1) (nI 5)) (va_cwS 3 hts gX5_mark_X5_within rfl rfl rfl (by decide +kernel) ⟨Nat.le_of_ble_eq_true rfl, Nat.le_of_ble_eq_true rfl⟩) rfl hl.1 rfl (Nat.le_of_ble_eq_true rfl) dX5_mark_11 ⟨Nat.zero_le _, Nat.zero_le _⟩ (fun r_11 hw_11 => ?_)
    subst hw_11
    refine qv_zif_eq (tgt := 38) hx hb dX5_mark_14 (by decide) (fun c_14 => ?_) (fun c_14 => ?_)
    · rw [if_neg c_14] at hF
      refine lv_aload_n hx hb dX5_mark_38 rfl (lv_at hl 0 rfl) ?_
      refine lv_bipush (v := (-2)) hx hb dX5_mark_39 (by decide) ?_
      refine qx_Vi (C := RX5) (As := [.int ((-2))]) (rest := []) (ci := 5) (k0 := 0) (wr := (fO ((fun i => x (1 + i)))) ++ (pW ((fun i => x (2 + i))) cI P) ++ (rW ((fun i => x (9 + i))) cI 4 24 Ma)) (ws2 := fun u => (xO x X) ++ (fO ((fun i => x (1 + i)))) ++ (pW ((fun i => x (2 + i))) cI P) ++ (rW ((fun i => x (9 + i))) cI 4 24 Ma) ++ ([(x 15, .inl (cI, 3, .inl u))])) [0, 8] [1, 2, 3, 4, 5, 6, 7] [7, 0, 1, 2, 3, 4, 5, 6, 8] ⟨hx, hb, hml, hown, hts⟩ (c_X5_refuse l dC dI x cI H.size X Rf ((-2)) ) (cwV 1 hts gX5_mark_X5_refuse rfl rfl rfl (by decide +kernel) ⟨Nat.le_of_ble_eq_true rfl, Nat.le_of_ble_eq_true rfl⟩) (hK.sub [0] rfl) hK hP hD hS hA hN rfl rfl (by decide) (by decide) (by decide) (by decide) (fun _ => rfl) rfl rfl rfl rfl hl.1 rfl (Nat.le_of_ble_eq_true rfl) dX5_mark_41 ⟨Nat.zero_le _, Nat.zero_le _⟩ (fun r_41 u_41 H locs hw_41 hP hD hS => ?_)
      obtain ⟨Rf_41, rfl⟩ : ∃ z, z = u_41 := ⟨_, rfl⟩
      have hP : va_P (dC, dI) vwCl ((xO x X) ++ (fO ((fun i => x (1 + i)))) ++ (pW ((fun i => x (2 + i))) cI P) ++ (rW ((fun i => x (9 + i))) cI 4 24 Ma) ++ ([(x 15, .inl (cI, 3, .inl Rf_41))])) H := hP
      have hD : va_D A ((xO x X) ++ (fO ((fun i => x (1 + i)))) ++ (pW ((fun i => x (2 + i))) cI P) ++ (rW ((fun i => x (9 + i))) cI 4 24 Ma) ++ ([(x 15, .inl (cI, 3, .inl Rf_41))])) := hD
      rw [hw_41, let2_mk r_41 Rf_41] at hF
      have hP9 : va_P (dC, dI) vwCl ((xO x X) ++ (fO ((fun i => x (1 + i)))) ++ (pW ((fun i => x (2 + i))) cI P) ++ (rW ((fun i => x (9 + i))) cI 4 24 Ma) ++ ([(x 15, .inl (cI, 3, .inl Rf_41))])) H := hP
      exact W.iret (v := r_41) hx hb hr (fun t ht hW => ⟨⟨_, ((Ma, Rf_41)), rfl, hO.symm.trans hF, by rw [ht]; exact hP9, va_K.moved hW.alike hK, hD⟩, hS.F ht⟩) hS.2.2 dX5_mark_44
    · rw [if_pos c_14] at hF
      obtain ⟨f_lg, fa_lg, fb_lg⟩ := within_nat (by decide) (by decide) c_14
      have e_lg := tN_eq f_lg
      refine lv_iload_n hx hb dX5_mark_17 rfl (lv_at hl 3 rfl) ?_
      refine lv_iconst (v := nI 0) hx hb dX5_mark_18 (by decide) ?_
      refine lv_bipush (v := nI 20) hx hb dX5_mark_19 (by decide) ?_
      refine qc_Si (As := [.int g, .int (nI 0), .int (nI 20)]) (rest := []) ⟨hx, hb, hml, hown, hts⟩ (c_X5_within l g (nI 0) (nI 20)) (va_cwS 3 hts gX5_mark_X5_within rfl rfl rfl (by decide +kernel) ⟨Nat.le_of_ble_eq_true rfl, Nat.le_of_ble_eq_true rfl⟩) rfl hl.1 rfl (Nat.le_of_ble_eq_true rfl) dX5_mark_21 ⟨Nat.zero_le _, Nat.zero_le _⟩ (fun r_21 hw_21 => ?_)
      subst hw_21
      refine qv_zif_eq (tgt := 38) hx hb dX5_mark_24 (by decide) (fun c_24 => ?_) (fun c_24 => ?_)
      · rw [if_neg c_24] at hF
        refine lv_aload_n hx hb dX5_mark_38 rfl (lv_at hl 0 rfl) ?_
        refine lv_bipush (v := (-2)) hx hb dX5_mark_39 (by decide) ?_
        refine qx_Vi (C := RX5) (As := [.int ((-2))]) (rest := []) (ci := 5) (k0 := 0) (wr := (fO ((fun i => x (1 + i)))) ++ (pW ((fun i => x (2 + i))) cI P) ++ (rW ((fun i => x (9 + i))) cI 4 24 Ma)) (ws2 := fun u => (xO x X) ++ (fO ((fun i => x (1 + i)))) ++ (pW ((fun i => x (2 + i))) cI P) ++ (rW ((fun i => x (9 + i))) cI 4 24 Ma) ++ ([(x 15, .inl (cI, 3, .inl u))])) [0, 8] [1, 2, 3, 4, 5, 6, 7] [7, 0, 1, 2, 3, 4, 5, 6, 8] ⟨hx, hb, hml, hown, hts⟩ (c_X5_refuse l dC dI x cI H.size X Rf ((-2)) ) (cwV 1 hts gX5_mark_X5_refuse rfl rfl rfl (by decide +kernel) ⟨Nat.le_of_ble_eq_true rfl, Nat.le_of_ble_eq_true rfl⟩) (hK.sub [0] rfl) hK hP hD hS hA hN rfl rfl (by decide) (by decide) (by decide) (by decide) (fun _ => rfl) rfl rfl rfl rfl hl.1 rfl (Nat.le_of_ble_eq_true rfl) dX5_mark_41 ⟨Nat.zero_le _, Nat.zero_le _⟩ (fun r_41 u_41 H locs hw_41 hP hD hS => ?_)
        obtain ⟨Rf_41, rfl⟩ : ∃ z, z = u_41 := ⟨_, rfl⟩
        have hP : va_P (dC, dI) vwCl ((xO x X) ++ (fO ((fun i => x (1 + i)))) ++ (pW ((fun i => x (2 + i))) cI P) ++ (rW ((fun i => x (9 + i))) cI 4 24 Ma) ++ ([(x 15, .inl (cI, 3, .inl Rf_41))])) H := hP
        have hD : va_D A ((xO x X) ++ (fO ((fun i => x (1 + i)))) ++ (pW ((fun i => x (2 + i))) cI P) ++ (rW ((fun i => x (9 + i))) cI 4 24 Ma) ++ ([(x 15, .inl (cI, 3, .inl Rf_41))])) := hD
        rw [hw_41, let2_mk r_41 Rf_41] at hF
        have hP9 : va_P (dC, dI) vwCl ((xO x X) ++ (fO ((fun i => x (1 + i)))) ++ (pW ((fun i => x (2 + i))) cI P) ++ (rW ((fun i => x (9 + i))) cI 4 24 Ma) ++ ([(x 15, .inl (cI, 3, .inl Rf_41))])) H := hP
        exact W.iret (v := r_41) hx hb hr (fun t ht hW => ⟨⟨_, ((Ma, Rf_41)), rfl, hO.symm.trans hF, by rw [ht]; exact hP9, va_K.moved hW.alike hK, hD⟩, hS.F ht⟩) hS.2.2 dX5_mark_44
      · rw [if_pos c_24] at hF
        obtain ⟨f_g, fa_g, fb_g⟩ := within_nat (by decide) (by decide) c_24
        have e_g := tN_eq f_g
        refine lv_iload hx hb dX5_mark_27 (lv_at hl 4 rfl) ?_
        refine lv_iconst (v := nI 0) hx hb dX5_mark_29 (by decide) ?_
        refine lv_bipush (v := nI 9) hx hb dX5_mark_30 (by decide) ?_
        refine qc_Si (As := [.int x0, .int (nI 0), .int (nI 9)]) (rest := []) ⟨hx, hb, hml, hown, hts⟩ (c_X5_within l x0 (nI 0) (nI 9)) (va_cwS 3 hts gX5_mark_X5_within rfl rfl rfl (by decide +kernel) ⟨Nat.le_of_ble_eq_true rfl, Nat.le_of_ble_eq_true rfl⟩) rfl hl.1 rfl (Nat.le_of_ble_eq_true rfl) dX5_mark_32 ⟨Nat.zero_le _, Nat.zero_le _⟩ (fun r_32 hw_32 => ?_)
        subst hw_32
        refine qv_zif_ne (tgt := 45) hx hb dX5_mark_35 (by decide) (fun c_35 => ?_) (fun c_35 => ?_)
        · rw [if_pos c_35] at hF
          obtain ⟨f_x0, fa_x0, fb_x0⟩ := within_nat (by decide) (by decide) c_35
          have e_x0 := tN_eq f_x0
          refine lv_aload_n hx hb dX5_mark_45 rfl (lv_at hl 0 rfl) ?_
          refine va_get (D := (dC, dI)) (ci := 5) (v := .ref (x 1)) (C := RX5) (T := TX5) (N := 14) hx hb hts hin5 hown hK hP 0 rfl rfl 0 (by decide) lk12 (fun _ h9 => h9) rfl dX5_mark_46 ?_
          refine va_get (D := (dC, dI)) (ci := 1) (v := .ref (x 9)) (C := RX1) (T := TX1) (N := 5) hx hb hts hin1 hown hK hP 1 rfl rfl 3 (by decide) lk204 (fun _ h9 => h9) rfl dX5_mark_49 ?_
          refine qx_Vi (C := RX4) (As := []) (rest := []) (ci := 4) (k0 := 6) (wr := (xO x X) ++ (fO ((fun i => x (1 + i)))) ++ (pW ((fun i => x (2 + i))) cI P) ++ ([(x 15, .inl (cI, 3, .inl Rf))])) (ws2 := fun u => (xO x X) ++ (fO ((fun i => x (1 + i)))) ++ (pW ((fun i => x (2 + i))) cI P) ++ (rW ((fun i => x (9 + i))) cI 4 24 Ma) ++ ([(x 15, .inl (cI, 3, .inl Rf))])) [6, 7] [0, 1, 2, 3, 4, 5, 8] [0, 1, 2, 3, 4, 5, 7, 8, 6] ⟨hx, hb, hml, hown, hts⟩ (c_X4_isFull_v4 l dC dI (fun i => x (9 + i)) cI H.size Ma  (pma : inB (Rus Ma) 24)) (cwV 0 hts gX5_mark_X4_isFull rfl rfl rfl (by decide +kernel) ⟨Nat.le_of_ble_eq_true rfl, Nat.le_of_ble_eq_true rfl⟩) (hK.sub [0] rfl) hK hP hD hS hA hN rfl rfl (by decide) (by decide) (by decide) (by decide) (fun _ => rfl) rfl rfl rfl rfl hl.1 rfl (Nat.le_of_ble_eq_true rfl) dX5_mark_52 ⟨Nat.zero_le _, Nat.zero_le _⟩ (fun r_52 u_52 H locs hw_52 hP hD hS => ?_)
          have hP : va_P (dC, dI) vwCl ((xO x X) ++ (fO ((fun i => x (1 + i)))) ++ (pW ((fun i => x (2 + i))) cI P) ++ (rW ((fun i => x (9 + i))) cI 4 24 Ma) ++ ([(x 15, .inl (cI, 3, .inl Rf))])) H := hP
          have hD : va_D A ((xO x X) ++ (fO ((fun i => x (1 + i)))) ++ (pW ((fun i => x (2 + i))) cI P) ++ (rW ((fun i => x (9 + i))) cI 4 24 Ma) ++ ([(x 15, .inl (cI, 3, .inl Rf))])) := hD
          obtain ⟨z_52, hw_52, rfl⟩ := hw_52
          rw [hw_52, let1_mk z_52] at hF
          refine qv_zif_eq (tgt := 65) hx hb dX5_mark_55 (by decide) (fun c_55 => ?_) (fun c_55 => ?_)
          · rw [if_neg c_55] at hF
            refine lv_aload_n hx hb dX5_mark_65 rfl (lv_at hl 0 rfl) ?_
            refine va_get (D := (dC, dI)) (ci := 5) (v := .ref (x 1)) (C := RX5) (T := TX5) (N := 14) hx hb hts hin5 hown hK hP 0 rfl rfl 0 (by decide) lk12 (fun _ h9 => h9) rfl dX5_mark_66 ?_
            refine va_get (D := (dC, dI)) (ci := 1) (v := .ref (x 9)) (C := RX1) (T := TX1) (N := 5) hx hb hts hin1 hown hK hP 1 rfl rfl 3 (by decide) lk204 (fun _ h9 => h9) rfl dX5_mark_69 ?_
            refine lv_iload_n hx hb dX5_mark_72 rfl (lv_at hl 1 rfl) ?_
            refine qv_top (e_i) ?_
            refine qx_Vv (C := RX4) (As := [.int (nI (tN i))]) (rest := []) (ci := 4) (k0 := 6) (wr := (xO x X) ++ (fO ((fun i => x (1 + i)))) ++ (pW ((fun i => x (2 + i))) cI P) ++ ([(x 15, .inl (cI, 3, .inl Rf))])) (ws2 := fun u => (xO x X) ++ (fO ((fun i => x (1 + i)))) ++ (pW ((fun i => x (2 + i))) cI P) ++ (rW ((fun i => x (9 + i))) cI 4 24 u) ++ ([(x 15, .inl (cI, 3, .inl Rf))])) [6, 7] [0, 1, 2, 3, 4, 5, 8] [0, 1, 2, 3, 4, 5, 7, 8, 6] ⟨hx, hb, hml, hown, hts⟩ (c_X4_put_v4 l dC dI (fun i => x (9 + i)) cI H.size Ma (nI (tN i)) (pma : inB (Rus Ma) 24)) (cwV 1 hts gX5_mark_X4_put rfl rfl rfl (by decide +kernel) ⟨Nat.le_of_ble_eq_true rfl, Nat.le_of_ble_eq_true rfl⟩) (hK.sub [0] rfl) hK hP hD hS hA hN rfl rfl (by decide) (by decide) (by decide) (by decide) (fun _ => rfl) rfl rfl rfl rfl hl.1 rfl (Nat.le_of_ble_eq_true rfl) dX5_mark_73 ⟨Nat.zero_le _, Nat.zero_le _⟩ (fun u_73 H locs hw_73 hP hD hS => ?_)
            obtain ⟨Ma_73, rfl⟩ : ∃ z, z = u_73 := ⟨_, rfl⟩
            have hP : va_P (dC, dI) vwCl ((xO x X) ++ (fO ((fun i => x (1 + i)))) ++ (pW ((fun i => x (2 + i))) cI P) ++ (rW ((fun i => x (9 + i))) cI 4 24 Ma_73) ++ ([(x 15, .inl (cI, 3, .inl Rf))])) H := hP
            have hD : va_D A ((xO x X) ++ (fO ((fun i => x (1 + i)))) ++ (pW ((fun i => x (2 + i))) cI P) ++ (rW ((fun i => x (9 + i))) cI 4 24 Ma_73) ++ ([(x 15, .inl (cI, 3, .inl Rf))])) := hD
            have a_73 := put_at4 hw_73 (pma : inB (Rus Ma) 24)
            rw [hw_73, let1_mk Ma_73] at hF
            refine lv_aload_n hx hb dX5_mark_76 rfl (lv_at hl 0 rfl) ?_
            refine va_get (D := (dC, dI)) (ci := 5) (v := .ref (x 1)) (C := RX5) (T := TX5) (N := 14) hx hb hts hin5 hown hK hP 0 rfl rfl 0 (by decide) lk12 (fun _ h9 => h9) rfl dX5_mark_77 ?_
            refine va_get (D := (dC, dI)) (ci := 1) (v := .ref (x 9)) (C := RX1) (T := TX1) (N := 5) hx hb hts hin1 hown hK hP 1 rfl rfl 3 (by decide) lk204 (fun _ h9 => h9) rfl dX5_mark_80 ?_
            refine lv_iload_n hx hb dX5_mark_83 rfl (lv_at hl 2 rfl) ?_
            refine qv_top (e_lg) ?_
            refine qx_Vv (C := RX4) (As := [.int (nI (tN lg))]) (rest := []) (ci := 4) (k0 := 6) (wr := (xO x X) ++ (fO ((fun i => x (1 + i)))) ++ (pW ((fun i => x (2 + i))) cI P) ++ ([(x 15, .inl (cI, 3, .inl Rf))])) (ws2 := fun u => (xO x X) ++ (fO ((fun i => x (1 + i)))) ++ (pW ((fun i => x (2 + i))) cI P) ++ (rW ((fun i => x (9 + i))) cI 4 24 u) ++ ([(x 15, .inl (cI, 3, .inl Rf))])) [6, 7] [0, 1, 2, 3, 4, 5, 8] [0, 1, 2, 3, 4, 5, 7, 8, 6] ⟨hx, hb, hml, hown, hts⟩ (c_X4_put_v4 l dC dI (fun i => x (9 + i)) cI H.size Ma_73 (nI (tN lg)) (a_73 : inB (Rus Ma_73) 24)) (cwV 1 hts gX5_mark_X4_put rfl rfl rfl (by decide +kernel) ⟨Nat.le_of_ble_eq_true rfl, Nat.le_of_ble_eq_true rfl⟩) (hK.sub [0] rfl) hK hP hD hS hA hN rfl rfl (by decide) (by decide) (by decide) (by decide) (fun _ => rfl) rfl rfl rfl rfl hl.1 rfl (Nat.le_of_ble_eq_true rfl) dX5_mark_84 ⟨Nat.zero_le _, Nat.zero_le _⟩ (fun u_84 H locs hw_84 hP hD hS => ?_)
            obtain ⟨Ma_84, rfl⟩ : ∃ z, z = u_84 := ⟨_, rfl⟩
            have hP : va_P (dC, dI) vwCl ((xO x X) ++ (fO ((fun i => x (1 + i)))) ++ (pW ((fun i => x (2 + i))) cI P) ++ (rW ((fun i => x (9 + i))) cI 4 24 Ma_84) ++ ([(x 15, .inl (cI, 3, .inl Rf))])) H := hP
            have hD : va_D A ((xO x X) ++ (fO ((fun i => x (1 + i)))) ++ (pW ((fun i => x (2 + i))) cI P) ++ (rW ((fun i => x (9 + i))) cI 4 24 Ma_84) ++ ([(x 15, .inl (cI, 3, .inl Rf))])) := hD
            have a_84 := put_at4 hw_84 (a_73 : inB (Rus Ma_73) 24)
            rw [hw_84, let1_mk Ma_84] at hF
            refine lv_aload_n hx hb dX5_mark_87 rfl (lv_at hl 0 rfl) ?_
            refine va_get (D := (dC, dI)) (ci := 5) (v := .ref (x 1)) (C := RX5) (T := TX5) (N := 14) hx hb hts hin5 hown hK hP 0 rfl rfl 0 (by decide) lk12 (fun _ h9 => h9) rfl dX5_mark_88 ?_
            refine va_get (D := (dC, dI)) (ci := 1) (v := .ref (x 9)) (C := RX1) (T := TX1) (N := 5) hx hb hts hin1 hown hK hP 1 rfl rfl 3 (by decide) lk204 (fun _ h9 => h9) rfl dX5_mark_91 ?_
            refine lv_iload_n hx hb dX5_mark_94 rfl (lv_at hl 3 rfl) ?_
            refine qv_top (e_g) ?_
            refine qx_Vv (C := RX4) (As := [.int (nI (tN g))]) (rest := []) (ci := 4) (k0 := 6) (wr := (xO x X) ++ (fO ((fun i => x (1 + i)))) ++ (pW ((fun i => x (2 + i))) cI P) ++ ([(x 15, .inl (cI, 3, .inl Rf))])) (ws2 := fun u => (xO x X) ++ (fO ((fun i => x (1 + i)))) ++ (pW ((fun i => x (2 + i))) cI P) ++ (rW ((fun i => x (9 + i))) cI 4 24 u) ++ ([(x 15, .inl (cI, 3, .inl Rf))])) [6, 7] [0, 1, 2, 3, 4, 5, 8] [0, 1, 2, 3, 4, 5, 7, 8, 6] ⟨hx, hb, hml, hown, hts⟩ (c_X4_put_v4 l dC dI (fun i => x (9 + i)) cI H.size Ma_84 (nI (tN g)) (a_84 : inB (Rus Ma_84) 24)) (cwV 1 hts gX5_mark_X4_put rfl rfl rfl (by decide +kernel) ⟨Nat.le_of_ble_eq_true rfl, Nat.le_of_ble_eq_true rfl⟩) (hK.sub [0] rfl) hK hP hD hS hA hN rfl rfl (by decide) (by decide) (by decide) (by decide) (fun _ => rfl) rfl rfl rfl rfl hl.1 rfl (Nat.le_of_ble_eq_true rfl) dX5_mark_95 ⟨Nat.zero_le _, Nat.zero_le _⟩ (fun u_95 H locs hw_95 hP hD hS => ?_)
            obtain ⟨Ma_95, rfl⟩ : ∃ z, z = u_95 := ⟨_, rfl⟩
            have hP : va_P (dC, dI) vwCl ((xO x X) ++ (fO ((fun i => x (1 + i)))) ++ (pW ((fun i => x (2 + i))) cI P) ++ (rW ((fun i => x (9 + i))) cI 4 24 Ma_95) ++ ([(x 15, .inl (cI, 3, .inl Rf))])) H := hP
            have hD : va_D A ((xO x X) ++ (fO ((fun i => x (1 + i)))) ++ (pW ((fun i => x (2 + i))) cI P) ++ (rW ((fun i => x (9 + i))) cI 4 24 Ma_95) ++ ([(x 15, .inl (cI, 3, .inl Rf))])) := hD
            have a_95 := put_at4 hw_95 (a_84 : inB (Rus Ma_84) 24)
            rw [hw_95, let1_mk Ma_95] at hF
            refine lv_aload_n hx hb dX5_mark_98 rfl (lv_at hl 0 rfl) ?_
            refine va_get (D := (dC, dI)) (ci := 5) (v := .ref (x 1)) (C := RX5) (T := TX5) (N := 14) hx hb hts hin5 hown hK hP 0 rfl rfl 0 (by decide) lk12 (fun _ h9 => h9) rfl dX5_mark_99 ?_
            refine va_get (D := (dC, dI)) (ci := 1) (v := .ref (x 9)) (C := RX1) (T := TX1) (N := 5) hx hb hts hin1 hown hK hP 1 rfl rfl 3 (by decide) lk204 (fun _ h9 => h9) rfl dX5_mark_102 ?_
            refine lv_iload hx hb dX5_mark_105 (lv_at hl 4 rfl) ?_
            refine qv_top (e_x0) ?_
            refine qx_Vv (C := RX4) (As := [.int (nI (tN x0))]) (rest := []) (ci := 4) (k0 := 6) (wr := (xO x X) ++ (fO ((fun i => x (1 + i)))) ++ (pW ((fun i => x (2 + i))) cI P) ++ ([(x 15, .inl (cI, 3, .inl Rf))])) (ws2 := fun u => (xO x X) ++ (fO ((fun i => x (1 + i)))) ++ (pW ((fun i => x (2 + i))) cI P) ++ (rW ((fun i => x (9 + i))) cI 4 24 u) ++ ([(x 15, .inl (cI, 3, .inl Rf))])) [6, 7] [0, 1, 2, 3, 4, 5, 8] [0, 1, 2, 3, 4, 5, 7, 8, 6] ⟨hx, hb, hml, hown, hts⟩ (c_X4_put_v4 l dC dI (fun i => x (9 + i)) cI H.size Ma_95 (nI (tN x0)) (a_95 : inB (Rus Ma_95) 24)) (cwV 1 hts gX5_mark_X4_put rfl rfl rfl (by decide +kernel) ⟨Nat.le_of_ble_eq_true rfl, Nat.le_of_ble_eq_true rfl⟩) (hK.sub [0] rfl) hK hP hD hS hA hN rfl rfl (by decide) (by decide) (by decide) (by decide) (fun _ => rfl) rfl rfl rfl rfl hl.1 rfl (Nat.le_of_ble_eq_true rfl) dX5_mark_107 ⟨Nat.zero_le _, Nat.zero_le _⟩ (fun u_107 H locs hw_107 hP hD hS => ?_)
            obtain ⟨Ma_107, rfl⟩ : ∃ z, z = u_107 := ⟨_, rfl⟩
            have hP : va_P (dC, dI) vwCl ((xO x X) ++ (fO ((fun i => x (1 + i)))) ++ (pW ((fun i => x (2 + i))) cI P) ++ (rW ((fun i => x (9 + i))) cI 4 24 Ma_107) ++ ([(x 15, .inl (cI, 3, .inl Rf))])) H := hP
            have hD : va_D A ((xO x X) ++ (fO ((fun i => x (1 + i)))) ++ (pW ((fun i => x (2 + i))) cI P) ++ (rW ((fun i => x (9 + i))) cI 4 24 Ma_107) ++ ([(x 15, .inl (cI, 3, .inl Rf))])) := hD
            have a_107 := put_at4 hw_107 (a_95 : inB (Rus Ma_95) 24)
            rw [hw_107, let1_mk Ma_107] at hF
            refine lv_aload_n hx hb dX5_mark_110 rfl (lv_at hl 0 rfl) ?_
            refine va_get (D := (dC, dI)) (ci := 5) (v := .ref (x 1)) (C := RX5) (T := TX5) (N := 14) hx hb hts hin5 hown hK hP 0 rfl rfl 0 (by decide) lk12 (fun _ h9 => h9) rfl dX5_mark_111 ?_
            refine va_get (D := (dC, dI)) (ci := 1) (v := .ref (x 9)) (C := RX1) (T := TX1) (N := 5) hx hb hts hin1 hown hK hP 1 rfl rfl 3 (by decide) lk204 (fun _ h9 => h9) rfl dX5_mark_114 ?_
            refine qx_Vi (C := RX4) (As := []) (rest := []) (ci := 4) (k0 := 6) (wr := (xO x X) ++ (fO ((fun i => x (1 + i)))) ++ (pW ((fun i => x (2 + i))) cI P) ++ ([(x 15, .inl (cI, 3, .inl Rf))])) (ws2 := fun u => (xO x X) ++ (fO ((fun i => x (1 + i)))) ++ (pW ((fun i => x (2 + i))) cI P) ++ (rW ((fun i => x (9 + i))) cI 4 24 Ma_107) ++ ([(x 15, .inl (cI, 3, .inl Rf))])) [6, 7] [0, 1, 2, 3, 4, 5, 8] [0, 1, 2, 3, 4, 5, 7, 8, 6] ⟨hx, hb, hml, hown, hts⟩ (c_X4_size_v4 l dC dI (fun i => x (9 + i)) cI H.size Ma_107  (a_107 : inB (Rus Ma_107) 24)) (cwV 0 hts gX5_mark_X4_size rfl rfl rfl (by decide +kernel) ⟨Nat.le_of_ble_eq_true rfl, Nat.le_of_ble_eq_true rfl⟩) (hK.sub [0] rfl) hK hP hD hS hA hN rfl rfl (by decide) (by decide) (by decide) (by decide) (fun _ => rfl) rfl rfl rfl rfl hl.1 rfl (Nat.le_of_ble_eq_true rfl) dX5_mark_117 ⟨Nat.zero_le _, Nat.zero_le _⟩ (fun r_117 u_117 H locs hw_117 hP hD hS => ?_)
            have hP : va_P (dC, dI) vwCl ((xO x X) ++ (fO ((fun i => x (1 + i)))) ++ (pW ((fun i => x (2 + i))) cI P) ++ (rW ((fun i => x (9 + i))) cI 4 24 Ma_107) ++ ([(x 15, .inl (cI, 3, .inl Rf))])) H := hP
            have hD : va_D A ((xO x X) ++ (fO ((fun i => x (1 + i)))) ++ (pW ((fun i => x (2 + i))) cI P) ++ (rW ((fun i => x (9 + i))) cI 4 24 Ma_107) ++ ([(x 15, .inl (cI, 3, .inl Rf))])) := hD
            rw [hw_117, let1_mk r_117] at hF
            have hP9 : va_P (dC, dI) vwCl ((xO x X) ++ (fO ((fun i => x (1 + i)))) ++ (pW ((fun i => x (2 + i))) cI P) ++ (rW ((fun i => x (9 + i))) cI 4 24 Ma_107) ++ ([(x 15, .inl (cI, 3, .inl Rf))])) H := hP
            exact W.iret (v := r_117) hx hb hr (fun t ht hW => ⟨⟨_, ((Ma_107, Rf)), rfl, hO.symm.trans hF, by rw [ht]; exact hP9, va_K.moved hW.alike hK, hD⟩, hS.F ht⟩) hS.2.2 dX5_mark_120
          · rw [if_pos c_55] at hF
            refine lv_aload_n hx hb dX5_mark_58 rfl (lv_at hl 0 rfl) ?_
            refine lv_bipush (v := (-4)) hx hb dX5_mark_59 (by decide) ?_
            refine qx_Vi (C := RX5) (As := [.int ((-4))]) (rest := []) (ci := 5) (k0 := 0) (wr := (fO ((fun i => x (1 + i)))) ++ (pW ((fun i => x (2 + i))) cI P) ++ (rW ((fun i => x (9 + i))) cI 4 24 Ma)) (ws2 := fun u => (xO x X) ++ (fO ((fun i => x (1 + i)))) ++ (pW ((fun i => x (2 + i))) cI P) ++ (rW ((fun i => x (9 + i))) cI 4 24 Ma) ++ ([(x 15, .inl (cI, 3, .inl u))])) [0, 8] [1, 2, 3, 4, 5, 6, 7] [7, 0, 1, 2, 3, 4, 5, 6, 8] ⟨hx, hb, hml, hown, hts⟩ (c_X5_refuse l dC dI x cI H.size X Rf ((-4)) ) (cwV 1 hts gX5_mark_X5_refuse rfl rfl rfl (by decide +kernel) ⟨Nat.le_of_ble_eq_true rfl, Nat.le_of_ble_eq_true rfl⟩) (hK.sub [0] rfl) hK hP hD hS hA hN rfl rfl (by decide) (by decide) (by decide) (by decide) (fun _ => rfl) rfl rfl rfl rfl hl.1 rfl (Nat.le_of_ble_eq_true rfl) dX5_mark_61 ⟨Nat.zero_le _, Nat.zero_le _⟩ (fun r_61 u_61 H locs hw_61 hP hD hS => ?_)
            obtain ⟨Rf_61, rfl⟩ : ∃ z, z = u_61 := ⟨_, rfl⟩
            have hP : va_P (dC, dI) vwCl ((xO x X) ++ (fO ((fun i => x (1 + i)))) ++ (pW ((fun i => x (2 + i))) cI P) ++ (rW ((fun i => x (9 + i))) cI 4 24 Ma) ++ ([(x 15, .inl (cI, 3, .inl Rf_61))])) H := hP
            have hD : va_D A ((xO x X) ++ (fO ((fun i => x (1 + i)))) ++ (pW ((fun i => x (2 + i))) cI P) ++ (rW ((fun i => x (9 + i))) cI 4 24 Ma) ++ ([(x 15, .inl (cI, 3, .inl Rf_61))])) := hD
            rw [hw_61, let2_mk r_61 Rf_61] at hF
            have hP9 : va_P (dC, dI) vwCl ((xO x X) ++ (fO ((fun i => x (1 + i)))) ++ (pW ((fun i => x (2 + i))) cI P) ++ (rW ((fun i => x (9 + i))) cI 4 24 Ma) ++ ([(x 15, .inl (cI, 3, .inl Rf_61))])) H := hP
            exact W.iret (v := r_61) hx hb hr (fun t ht hW => ⟨⟨_, ((Ma, Rf_61)), rfl, hO.symm.trans hF, by rw [ht]; exact hP9, va_K.moved hW.alike hK, hD⟩, hS.F ht⟩) hS.2.2 dX5_mark_64
        · rw [if_neg c_35] at hF
          refine lv_aload_n hx hb dX5_mark_38 rfl (lv_at hl 0 rfl) ?_
          refine lv_bipush (v := (-2)) hx hb dX5_mark_39 (by decide) ?_
          refine qx_Vi (C := RX5) (As := [.int ((-2))]) (rest := []) (ci := 5) (k0 := 0) (wr := (fO ((fun i => x (1 + i)))) ++ (pW ((fun i => x (2 + i))) cI P) ++ (rW ((fun i => x (9 + i))) cI 4 24 Ma)) (ws2 := fun u => (xO x X) ++ (fO ((fun i => x (1 + i)))) ++ (pW ((fun i => x (2 + i))) cI P) ++ (rW ((fun i => x (9 + i))) cI 4 24 Ma) ++ ([(x 15, .inl (cI, 3, .inl u))])) [0, 8] [1, 2, 3, 4, 5, 6, 7] [7, 0, 1, 2, 3, 4, 5, 6, 8] ⟨hx, hb, hml, hown, hts⟩ (c_X5_refuse l dC dI x cI H.size X Rf ((-2)) ) (cwV 1 hts gX5_mark_X5_refuse rfl rfl rfl (by decide +kernel) ⟨Nat.le_of_ble_eq_true rfl, Nat.le_of_ble_eq_true rfl⟩) (hK.sub [0] rfl) hK hP hD hS hA hN rfl rfl (by decide) (by decide) (by decide) (by decide) (fun _ => rfl) rfl rfl rfl rfl hl.1 rfl (Nat.le_of_ble_eq_true rfl) dX5_mark_41 ⟨Nat.zero_le _, Nat.zero_le _⟩ (fun r_41 u_41 H locs hw_41 hP hD hS => ?_)
          obtain ⟨Rf_41, rfl⟩ : ∃ z, z = u_41 := ⟨_, rfl⟩
          have hP : va_P (dC, dI) vwCl ((xO x X) ++ (fO ((fun i => x (1 + i)))) ++ (pW ((fun i => x (2 + i))) cI P) ++ (rW ((fun i => x (9 + i))) cI 4 24 Ma) ++ ([(x 15, .inl (cI, 3, .inl Rf_41))])) H := hP
          have hD : va_D A ((xO x X) ++ (fO ((fun i => x (1 + i)))) ++ (pW ((fun i => x (2 + i))) cI P) ++ (rW ((fun i => x (9 + i))) cI 4 24 Ma) ++ ([(x 15, .inl (cI, 3, .inl Rf_41))])) := hD
          rw [hw_41, let2_mk r_41 Rf_41] at hF
          have hP9 : va_P (dC, dI) vwCl ((xO x X) ++ (fO ((fun i => x (1 + i)))) ++ (pW ((fun i => x (2 + i))) cI P) ++ (rW ((fun i => x (9 + i))) cI 4 24 Ma) ++ ([(x 15, .inl (cI, 3, .inl Rf_41))])) H := hP
          exact W.iret (v := r_41) hx hb hr (fun t ht hW => ⟨⟨_, ((Ma, Rf_41)), rfl, hO.symm.trans hF, by rw [ht]; exact hP9, va_K.moved hW.alike hK, hD⟩, hS.F ht⟩) hS.2.2 dX5_mark_44
def F_X5_forget (No : rS) (Ma : rS) (Rf : Nat → Int32) (wh : Int32) : Int32 × (rS) × (rS) × (Nat → Int32) := if (F_X5_within wh (nI 0) (nI 1)) = true then (if tN wh = 0 then let1 (F_X4_size_v3 No) (fun r_39 => let1 (F_X4_empty_v3 No) (fun No_44 => (r_39, No_44, Ma, Rf))) else let1 (F_X4_size_v4 Ma) (fun r_39 => let1 (F_X4_empty_v4 Ma) (fun Ma_44 => (r_39, No, Ma_44, Rf)))) else let2 (F_X5_refuse Rf ((-2))) (fun r_12 Rf_12 => (r_12, No, Ma, Rf_12))
set_option maxHeartbeats 4000000 in
set_option maxRecDepth 100000 in
theorem c_X5_forget (l : Launch) (dC : Nat → ClassId) (dI : Nat → Nat → Nat) (x : Nat → Nat) (cI : ClassId) (sz : Nat) (X : xS) (No : rS) (Ma : rS) (Rf : Nat → Int32) (wh : Int32) (pno : inB (Rus No) 18) (pma : inB (Rus Ma) 24) : Met l yX5_forget wsX5_forget { frames := 2, cells := 0, slots := 0, locals := 44 } (xPc (dC, dI) vwCl (xT cI) ((xO x X) ++ (fO ((fun i => x (1 + i)))) ++ (rW ((fun i => x (7 + i))) cI 3 18 No) ++ (rW ((fun i => x (9 + i))) cI 4 24 Ma) ++ ([(x 15, .inl (cI, 3, .inl Rf))])) sz [.ref (x 0), .int wh]) (va_Qi (fun (r : Int32) (u : (rS) × (rS) × (Nat → Int32)) => F_X5_forget No Ma Rf wh = (r, u)) (mB (dC, dI) vwCl (xT cI) (va_A ((xO x X) ++ (fO ((fun i => x (1 + i)))) ++ (rW ((fun i => x (7 + i))) cI 3 18 No) ++ (rW ((fun i => x (9 + i))) cI 4 24 Ma) ++ ([(x 15, .inl (cI, 3, .inl Rf))])) sz) (fun u => (xO x X) ++ (fO ((fun i => x (1 + i)))) ++ (rW ((fun i => x (7 + i))) cI 3 18 (u.1)) ++ (rW ((fun i => x (9 + i))) cI 4 24 (u.2.1)) ++ ([(x 15, .inl (cI, 3, .inl (u.2.2)))]))) (va_A ((xO x X) ++ (fO ((fun i => x (1 + i)))) ++ (rW ((fun i => x (7 + i))) cI 3 18 No) ++ (rW ((fun i => x (9 + i))) cI 4 24 Ma) ++ ([(x 15, .inl (cI, 3, .inl Rf))])) sz)) 0 0 (va_A ((xO x X) ++ (fO ((fun i => x (1 + i)))) ++ (rW ((fun i => x (7 + i))) cI 3 18 No) ++ (rW ((fun i => x (9 + i))) cI 4 24 Ma) ++ ([(x 15, .inl (cI, 3, .inl Rf))])) sz) := by
  refine Met.ofW (cc := cX5_forget) (maxL := 4) (ret := (some .int)) (by decide) rfl ?_
  intro p e s m args below meth c s₁ B hml hv
  obtain ⟨rfl, hsz, hP, hK, hD0, hN⟩ := hv
  have hx := B.exec
  have hb := B.bytes
  have hr := B.returns
  have hts := atoms_spec (ws := wsX5_forget) B.pre
  have hown : s.vm.findClass RX5 = some m.cls := findClass_of_methodNamed B.named
  have hlocks := B.notSynchronized
  subst hsz
  have hD := hD0.self (sz := s.heap.size)
  generalize hAe : va_A ((xO x X) ++ (fO ((fun i => x (1 + i)))) ++ (rW ((fun i => x (7 + i))) cI 3 18 No) ++ (rW ((fun i => x (9 + i))) cI 4 24 Ma) ++ ([(x 15, .inl (cI, 3, .inl Rf))])) s.heap.size = A at hD ⊢
  have hA : ∀ q : Nat, s.heap.size ≤ q → A q := fun q h => by rw [← hAe]; exact Or.inr h
  have hS : va_S A s.heap s.heap [] := va_S.rf
  have hin1 : ∀ w ∈ wsX10, w ∈ wsX5_forget := by decide +kernel
  have hin5 : ∀ w ∈ wsX50, w ∈ wsX5_forget := by decide +kernel
  have lk12 := hts (.fieldLink RX5 12 "PostRounders" "now" "LPostRounders$Field;") (by decide +kernel)
  have lk195 := hts (.fieldLink RX5 195 "PostRounders$Field" "notes" "LPostRounders$Rows;") (by decide +kernel)
  have lk204 := hts (.fieldLink RX5 204 "PostRounders$Field" "marks" "LPostRounders$Rows;") (by decide +kernel)
  have hl := lv_entry ([.ref (x 0), .int wh]) (n := 4) (Nat.le_of_ble_eq_true rfl)
  rw [lg_entry_eq]
  generalize (lg_sl ([.ref (x 0), .int wh]) ++ List.replicate (4 - (lg_sl ([.ref (x 0), .int wh])).length) Slot.unset).toArray = ls at hl ⊢
  have hl : lv_has ls 4 [(0, .ref (x 0)), (1, .int wh)] := hl
  obtain ⟨OUT, hO⟩ : ∃ z, z = F_X5_forget No Ma Rf wh := ⟨_, rfl⟩
  have hF := hO
  unfold F_X5_forget at hF
  have e_pno := tN_eq pno.1
  have b_pno := pno.2
  have e_pma := tN_eq pma.1
  have b_pma := pma.2
  refine lv_iload_n hx hb dX5_forget_0 rfl (lv_at hl 1 rfl) ?_
  refine lv_iconst (v := nI 0) hx hb dX5_forget_1 (by decide) ?_
  refine lv_iconst (v := nI 1) hx hb dX5_forget_2 (by decide) ?_
  refine qc_Si (As := [.int wh, .int (nI 0), .int (nI 1)]) (rest := []) ⟨hx, hb, hml, hown, hts⟩ (c_X5_within l wh (nI 0) (nI 1)) (va_cwS 3 hts gX5_forget_X5_within rfl rfl rfl (by decide +kernel) ⟨Nat.le_of_ble_eq_true rfl, Nat.le_of_ble_eq_true rfl⟩) rfl hl.1 rfl (Nat.le_of_ble_eq_true rfl) dX5_forget_3 ⟨Nat.zero_le _, Nat.zero_le _⟩ (fun r_3 hw_3 => ?_)
  subst hw_3
  refine qv_zif_ne (tgt := 16) hx hb dX5_forget_6 (by decide) (fun c_6 => ?_) (fun c_6 => ?_)
  · rw [if_pos c_6] at hF
    obtain ⟨f_wh, fa_wh, fb_wh⟩ := within_nat (by decide) (by decide) c_6
    have e_wh := tN_eq f_wh
    refine lv_iload_n hx hb dX5_forget_16 rfl (lv_at hl 1 rfl) ?_
    refine qv_top (e_wh) ?_
    refine qv_if_ne (tgt := 30) hx hb dX5_forget_17 (by decide) (by omega) (fun c_17 => ?_) (fun c_17 => ?_)
    · rw [if_neg c_17] at hF
      refine lv_aload_n hx hb dX5_forget_30 rfl (lv_at hl 0 rfl) ?_
      refine va_get (D := (dC, dI)) (ci := 5) (v := .ref (x 1)) (C := RX5) (T := TX5) (N := 14) hx hb hts hin5 hown hK hP 0 rfl rfl 0 (by decide) lk12 (fun _ h9 => h9) rfl dX5_forget_31 ?_
      refine va_get (D := (dC, dI)) (ci := 1) (v := .ref (x 9)) (C := RX1) (T := TX1) (N := 5) hx hb hts hin1 hown hK hP 1 rfl rfl 3 (by decide) lk204 (fun _ h9 => h9) rfl dX5_forget_34 ?_
      refine lv_astore_n (lv' := [(2, .ref (x 9)), (0, .ref (x 0)), (1, .int wh)]) hx hb dX5_forget_37 rfl hl (by decide) rfl (fun ls hl => ?_)
      refine lv_aload_n hx hb dX5_forget_38 rfl (lv_at hl 0 rfl) ?_
      refine qx_Vi (C := RX4) (As := []) (rest := []) (ci := 4) (k0 := 4) (wr := (xO x X) ++ (fO ((fun i => x (1 + i)))) ++ (rW ((fun i => x (7 + i))) cI 3 18 No) ++ ([(x 15, .inl (cI, 3, .inl Rf))])) (ws2 := fun u => (xO x X) ++ (fO ((fun i => x (1 + i)))) ++ (rW ((fun i => x (7 + i))) cI 3 18 No) ++ (rW ((fun i => x (9 + i))) cI 4 24 Ma) ++ ([(x 15, .inl (cI, 3, .inl Rf))])) [4, 5] [0, 1, 2, 3, 6] [0, 1, 2, 3, 5, 6, 4] ⟨hx, hb, hml, hown, hts⟩ (c_X4_size_v4 l dC dI (fun i => x (9 + i)) cI s.heap.size Ma  (pma : inB (Rus Ma) 24)) (cwV 0 hts gX5_forget_X4_size rfl rfl rfl (by decide +kernel) ⟨Nat.le_of_ble_eq_true rfl, Nat.le_of_ble_eq_true rfl⟩) (hK.sub [0] rfl) hK hP hD hS hA hN rfl rfl (by decide) (by decide) (by decide) (by decide) (fun _ => rfl) rfl rfl rfl rfl hl.1 rfl (Nat.le_of_ble_eq_true rfl) dX5_forget_39 ⟨Nat.zero_le _, Nat.zero_le _⟩ (fun r_39 u_39 H locs hw_39 hP hD hS => ?_)
      have hP : va_P (dC, dI) vwCl ((xO x X) ++ (fO ((fun i => x (1 + i)))) ++ (rW ((fun i => x (7 + i))) cI 3 18 No) ++ (rW ((fun i => x (9 + i))) cI 4 24 Ma) ++ ([(x 15, .inl (cI, 3, .inl Rf))])) H := hP
      have hD : va_D A ((xO x X) ++ (fO ((fun i => x (1 + i)))) ++ (rW ((fun i => x (7 + i))) cI 3 18 No) ++ (rW ((fun i => x (9 + i))) cI 4 24 Ma) ++ ([(x 15, .inl (cI, 3, .inl Rf))])) := hD
      rw [hw_39, let1_mk r_39] at hF
      refine lv_istore_n (lv' := [(3, .int r_39), (2, .ref (x 9)), (0, .ref (x 0)), (1, .int wh)]) hx hb dX5_forget_42 rfl hl (by decide) rfl (fun ls hl => ?_)
      refine lv_aload_n hx hb dX5_forget_43 rfl (lv_at hl 1 rfl) ?_
      refine qx_Vv (C := RX4) (As := []) (rest := []) (ci := 4) (k0 := 4) (wr := (xO x X) ++ (fO ((fun i => x (1 + i)))) ++ (rW ((fun i => x (7 + i))) cI 3 18 No) ++ ([(x 15, .inl (cI, 3, .inl Rf))])) (ws2 := fun u => (xO x X) ++ (fO ((fun i => x (1 + i)))) ++ (rW ((fun i => x (7 + i))) cI 3 18 No) ++ (rW ((fun i => x (9 + i))) cI 4 24 u) ++ ([(x 15, .inl (cI, 3, .inl Rf))])) [4, 5] [0, 1, 2, 3, 6] [0, 1, 2, 3, 5, 6, 4] ⟨hx, hb, hml, hown, hts⟩ (c_X4_empty_v4 l dC dI (fun i => x (9 + i)) cI H.size Ma  ) (cwV 0 hts gX5_forget_X4_empty rfl rfl rfl (by decide +kernel) ⟨Nat.le_of_ble_eq_true rfl, Nat.le_of_ble_eq_true rfl⟩) (hK.sub [0] rfl) hK hP hD hS hA hN rfl rfl (by decide) (by decide) (by decide) (by decide) (fun _ => rfl) rfl rfl rfl rfl hl.1 rfl (Nat.le_of_ble_eq_true rfl) dX5_forget_44 ⟨Nat.zero_le _, Nat.zero_le _⟩ (fun u_44 H locs hw_44 hP hD hS => ?_)
      obtain ⟨Ma_44, rfl⟩ : ∃ z, z = u_44 := ⟨_, rfl⟩
      have hP : va_P (dC, dI) vwCl ((xO x X) ++ (fO ((fun i => x (1 + i)))) ++ (rW ((fun i => x (7 + i))) cI 3 18 No) ++ (rW ((fun i => x (9 + i))) cI 4 24 Ma_44) ++ ([(x 15, .inl (cI, 3, .inl Rf))])) H := hP
      have hD : va_D A ((xO x X) ++ (fO ((fun i => x (1 + i)))) ++ (rW ((fun i => x (7 + i))) cI 3 18 No) ++ (rW ((fun i => x (9 + i))) cI 4 24 Ma_44) ++ ([(x 15, .inl (cI, 3, .inl Rf))])) := hD
      rw [hw_44, let1_mk Ma_44] at hF
      refine lv_iload_n hx hb dX5_forget_47 rfl (lv_at hl 0 rfl) ?_
      have hP9 : va_P (dC, dI) vwCl ((xO x X) ++ (fO ((fun i => x (1 + i)))) ++ (rW ((fun i => x (7 + i))) cI 3 18 No) ++ (rW ((fun i => x (9 + i))) cI 4 24 Ma_44) ++ ([(x 15, .inl (cI, 3, .inl Rf))])) H := hP
      exact W.iret (v := r_39) hx hb hr (fun t ht hW => ⟨⟨_, ((No, Ma_44, Rf)), rfl, hO.symm.trans hF, by rw [ht]; exact hP9, va_K.moved hW.alike hK, hD⟩, hS.F ht⟩) hS.2.2 dX5_forget_48
    · rw [if_pos c_17] at hF
      refine lv_aload_n hx hb dX5_forget_20 rfl (lv_at hl 0 rfl) ?_
      refine va_get (D := (dC, dI)) (ci := 5) (v := .ref (x 1)) (C := RX5) (T := TX5) (N := 14) hx hb hts hin5 hown hK hP 0 rfl rfl 0 (by decide) lk12 (fun _ h9 => h9) rfl dX5_forget_21 ?_
      refine va_get (D := (dC, dI)) (ci := 1) (v := .ref (x 7)) (C := RX1) (T := TX1) (N := 5) hx hb hts hin1 hown hK hP 1 rfl rfl 2 (by decide) lk195 (fun _ h9 => h9) rfl dX5_forget_24 ?_
      refine lv_goto (tgt := 37) hx hb dX5_forget_27 (by decide) ?_
      refine lv_astore_n (lv' := [(2, .ref (x 7)), (0, .ref (x 0)), (1, .int wh)]) hx hb dX5_forget_37 rfl hl (by decide) rfl (fun ls hl => ?_)
      refine lv_aload_n hx hb dX5_forget_38 rfl (lv_at hl 0 rfl) ?_
      refine qx_Vi (C := RX4) (As := []) (rest := []) (ci := 4) (k0 := 2) (wr := (xO x X) ++ (fO ((fun i => x (1 + i)))) ++ (rW ((fun i => x (9 + i))) cI 4 24 Ma) ++ ([(x 15, .inl (cI, 3, .inl Rf))])) (ws2 := fun u => (xO x X) ++ (fO ((fun i => x (1 + i)))) ++ (rW ((fun i => x (7 + i))) cI 3 18 No) ++ (rW ((fun i => x (9 + i))) cI 4 24 Ma) ++ ([(x 15, .inl (cI, 3, .inl Rf))])) [2, 3] [0, 1, 4, 5, 6] [0, 1, 5, 6, 2, 3, 4] ⟨hx, hb, hml, hown, hts⟩ (c_X4_size_v3 l dC dI (fun i => x (7 + i)) cI s.heap.size No  (pno : inB (Rus No) 18)) (cwV 0 hts gX5_forget_X4_size rfl rfl rfl (by decide +kernel) ⟨Nat.le_of_ble_eq_true rfl, Nat.le_of_ble_eq_true rfl⟩) (hK.sub [0] rfl) hK hP hD hS hA hN rfl rfl (by decide) (by decide) (by decide) (by decide) (fun _ => rfl) rfl rfl rfl rfl hl.1 rfl (Nat.le_of_ble_eq_true rfl) dX5_forget_39 ⟨Nat.zero_le _, Nat.zero_le _⟩ (fun r_39 u_39 H locs hw_39 hP hD hS => ?_)
      have hP : va_P (dC, dI) vwCl ((xO x X) ++ (fO ((fun i => x (1 + i)))) ++ (rW ((fun i => x (7 + i))) cI 3 18 No) ++ (rW ((fun i => x (9 + i))) cI 4 24 Ma) ++ ([(x 15, .inl (cI, 3, .inl Rf))])) H := hP
      have hD : va_D A ((xO x X) ++ (fO ((fun i => x (1 + i)))) ++ (rW ((fun i => x (7 + i))) cI 3 18 No) ++ (rW ((fun i => x (9 + i))) cI 4 24 Ma) ++ ([(x 15, .inl (cI, 3, .inl Rf))])) := hD
      rw [hw_39, let1_mk r_39] at hF
      refine lv_istore_n (lv' := [(3, .int r_39), (2, .ref (x 7)), (0, .ref (x 0)), (1, .int wh)]) hx hb dX5_forget_42 rfl hl (by decide) rfl (fun ls hl => ?_)
      refine lv_aload_n hx hb dX5_forget_43 rfl (lv_at hl 1 rfl) ?_
      refine qx_Vv (C := RX4) (As := []) (rest := []) (ci := 4) (k0 := 2) (wr := (xO x X) ++ (fO ((fun i => x (1 + i)))) ++ (rW ((fun i => x (9 + i))) cI 4 24 Ma) ++ ([(x 15, .inl (cI, 3, .inl Rf))])) (ws2 := fun u => (xO x X) ++ (fO ((fun i => x (1 + i)))) ++ (rW ((fun i => x (7 + i))) cI 3 18 u) ++ (rW ((fun i => x (9 + i))) cI 4 24 Ma) ++ ([(x 15, .inl (cI, 3, .inl Rf))])) [2, 3] [0, 1, 4, 5, 6] [0, 1, 5, 6, 2, 3, 4] ⟨hx, hb, hml, hown, hts⟩ (c_X4_empty_v3 l dC dI (fun i => x (7 + i)) cI H.size No  ) (cwV 0 hts gX5_forget_X4_empty rfl rfl rfl (by decide +kernel) ⟨Nat.le_of_ble_eq_true rfl, Nat.le_of_ble_eq_true rfl⟩) (hK.sub [0] rfl) hK hP hD hS hA hN rfl rfl (by decide) (by decide) (by decide) (by decide) (fun _ => rfl) rfl rfl rfl rfl hl.1 rfl (Nat.le_of_ble_eq_true rfl) dX5_forget_44 ⟨Nat.zero_le _, Nat.zero_le _⟩ (fun u_44 H locs hw_44 hP hD hS => ?_)
      obtain ⟨No_44, rfl⟩ : ∃ z, z = u_44 := ⟨_, rfl⟩
      have hP : va_P (dC, dI) vwCl ((xO x X) ++ (fO ((fun i => x (1 + i)))) ++ (rW ((fun i => x (7 + i))) cI 3 18 No_44) ++ (rW ((fun i => x (9 + i))) cI 4 24 Ma) ++ ([(x 15, .inl (cI, 3, .inl Rf))])) H := hP
      have hD : va_D A ((xO x X) ++ (fO ((fun i => x (1 + i)))) ++ (rW ((fun i => x (7 + i))) cI 3 18 No_44) ++ (rW ((fun i => x (9 + i))) cI 4 24 Ma) ++ ([(x 15, .inl (cI, 3, .inl Rf))])) := hD
      rw [hw_44, let1_mk No_44] at hF
      refine lv_iload_n hx hb dX5_forget_47 rfl (lv_at hl 0 rfl) ?_
      have hP9 : va_P (dC, dI) vwCl ((xO x X) ++ (fO ((fun i => x (1 + i)))) ++ (rW ((fun i => x (7 + i))) cI 3 18 No_44) ++ (rW ((fun i => x (9 + i))) cI 4 24 Ma) ++ ([(x 15, .inl (cI, 3, .inl Rf))])) H := hP
      exact W.iret (v := r_39) hx hb hr (fun t ht hW => ⟨⟨_, ((No_44, Ma, Rf)), rfl, hO.symm.trans hF, by rw [ht]; exact hP9, va_K.moved hW.alike hK, hD⟩, hS.F ht⟩) hS.2.2 dX5_forget_48
  · rw [if_neg c_6] at hF
    refine lv_aload_n hx hb dX5_forget_9 rfl (lv_at hl 0 rfl) ?_
    refine lv_bipush (v := (-2)) hx hb dX5_forget_10 (by decide) ?_
    refine qx_Vi (C := RX5) (As := [.int ((-2))]) (rest := []) (ci := 5) (k0 := 0) (wr := (fO ((fun i => x (1 + i)))) ++ (rW ((fun i => x (7 + i))) cI 3 18 No) ++ (rW ((fun i => x (9 + i))) cI 4 24 Ma)) (ws2 := fun u => (xO x X) ++ (fO ((fun i => x (1 + i)))) ++ (rW ((fun i => x (7 + i))) cI 3 18 No) ++ (rW ((fun i => x (9 + i))) cI 4 24 Ma) ++ ([(x 15, .inl (cI, 3, .inl u))])) [0, 6] [1, 2, 3, 4, 5] [5, 0, 1, 2, 3, 4, 6] ⟨hx, hb, hml, hown, hts⟩ (c_X5_refuse l dC dI x cI s.heap.size X Rf ((-2)) ) (cwV 1 hts gX5_forget_X5_refuse rfl rfl rfl (by decide +kernel) ⟨Nat.le_of_ble_eq_true rfl, Nat.le_of_ble_eq_true rfl⟩) (hK.sub [0] rfl) hK hP hD hS hA hN rfl rfl (by decide) (by decide) (by decide) (by decide) (fun _ => rfl) rfl rfl rfl rfl hl.1 rfl (Nat.le_of_ble_eq_true rfl) dX5_forget_12 ⟨Nat.zero_le _, Nat.zero_le _⟩ (fun r_12 u_12 H locs hw_12 hP hD hS => ?_)
    obtain ⟨Rf_12, rfl⟩ : ∃ z, z = u_12 := ⟨_, rfl⟩
    have hP : va_P (dC, dI) vwCl ((xO x X) ++ (fO ((fun i => x (1 + i)))) ++ (rW ((fun i => x (7 + i))) cI 3 18 No) ++ (rW ((fun i => x (9 + i))) cI 4 24 Ma) ++ ([(x 15, .inl (cI, 3, .inl Rf_12))])) H := hP
    have hD : va_D A ((xO x X) ++ (fO ((fun i => x (1 + i)))) ++ (rW ((fun i => x (7 + i))) cI 3 18 No) ++ (rW ((fun i => x (9 + i))) cI 4 24 Ma) ++ ([(x 15, .inl (cI, 3, .inl Rf_12))])) := hD
    rw [hw_12, let2_mk r_12 Rf_12] at hF
    have hP9 : va_P (dC, dI) vwCl ((xO x X) ++ (fO ((fun i => x (1 + i)))) ++ (rW ((fun i => x (7 + i))) cI 3 18 No) ++ (rW ((fun i => x (9 + i))) cI 4 24 Ma) ++ ([(x 15, .inl (cI, 3, .inl Rf_12))])) H := hP
    exact W.iret (v := r_12) hx hb hr (fun t ht hW => ⟨⟨_, ((No, Ma, Rf_12)), rfl, hO.symm.trans hF, by rw [ht]; exact hP9, va_K.moved hW.alike hK, hD⟩, hS.F ht⟩) hS.2.2 dX5_forget_15
def F_X5_fitsNotes_L2 : Nat → (Int32) → (rS) → (Nat) → ((Nat)) ⊕ (Bool)
  | 0, _, _, j => .inl j
  | n_2 + 1, k, No, j => let1 (F_X4_size_v3 No) (fun r_10 => if (tN (Rus No) / 3) ≤ j then .inl j else let1 (F_X4_cell_v3 No j 0) (fun r_25 => let1 (F_X4_cell_v3 No j 1) (fun r_38 => let1 (F_X4_cell_v3 No j 2) (fun r_59 => if (F_X5_hitWorth k r_38 r_25) = r_59 then F_X5_fitsNotes_L2 n_2 k No (j + 1) else .inr false))))
def F_X5_fitsNotes (No : rS) (k : Int32) : Bool := sel1 (F_X5_fitsNotes_L2 7 k No 0) (fun j => true) (fun r => r)
set_option maxHeartbeats 4000000 in
set_option maxRecDepth 100000 in
theorem c_X5_fitsNotes (l : Launch) (dC : Nat → ClassId) (dI : Nat → Nat → Nat) (x : Nat → Nat) (cI : ClassId) (sz : Nat) (X : xS) (No : rS) (k : Int32) (pno : inB (Rus No) 18) : Met l yX5_fitsNotes wsX5_fitsNotes { frames := 2, cells := 0, slots := 0, locals := 38 } (xPc (dC, dI) vwCl (xT cI) ((xO x X) ++ (fO ((fun i => x (1 + i)))) ++ (rW ((fun i => x (7 + i))) cI 3 18 No)) sz [.ref (x 0), .int k]) (va_Qi (fun (r : Int32) (u : Unit) => ∃ z : Bool, F_X5_fitsNotes No k = z ∧ r = if z = true then 1 else 0) (mB (dC, dI) vwCl (xT cI) (va_A ((xO x X) ++ (fO ((fun i => x (1 + i)))) ++ (rW ((fun i => x (7 + i))) cI 3 18 No)) sz) (fun u => (xO x X) ++ (fO ((fun i => x (1 + i)))) ++ (rW ((fun i => x (7 + i))) cI 3 18 No))) (va_A ((xO x X) ++ (fO ((fun i => x (1 + i)))) ++ (rW ((fun i => x (7 + i))) cI 3 18 No)) sz)) 0 0 (va_A ((xO x X) ++ (fO ((fun i => x (1 + i)))) ++ (rW ((fun i => x (7 + i))) cI 3 18 No)) sz) := by
  refine Met.ofW (cc := cX5_fitsNotes) (maxL := 5) (ret := (some .boolean)) (by decide) rfl ?_
  intro p e s m args below meth c s₁ B hml hv
  obtain ⟨rfl, hsz, hP, hK, hD0, hN⟩ := hv
  have hx := B.exec
  have hb := B.bytes
  have hr := B.returns
  have hts := atoms_spec (ws := wsX5_fitsNotes) B.pre
  have hown : s.vm.findClass RX5 = some m.cls := findClass_of_methodNamed B.named
  have hlocks := B.notSynchronized
  subst hsz
  have hD := hD0.self (sz := s.heap.size)
  generalize hAe : va_A ((xO x X) ++ (fO ((fun i => x (1 + i)))) ++ (rW ((fun i => x (7 + i))) cI 3 18 No)) s.heap.size = A at hD ⊢
  have hA : ∀ q : Nat, s.heap.size ≤ q → A q := fun q h => by rw [← hAe]; exact Or.inr h
  have hS : va_S A s.heap s.heap [] := va_S.rf
  have hin1 : ∀ w ∈ wsX10, w ∈ wsX5_fitsNotes := by decide +kernel
  have hin5 : ∀ w ∈ wsX50, w ∈ wsX5_fitsNotes := by decide +kernel
  have lk12 := hts (.fieldLink RX5 12 "PostRounders" "now" "LPostRounders$Field;") (by decide +kernel)
  have lk195 := hts (.fieldLink RX5 195 "PostRounders$Field" "notes" "LPostRounders$Rows;") (by decide +kernel)
  have hl := lv_entry ([.ref (x 0), .int k]) (n := 5) (Nat.le_of_ble_eq_true rfl)
  rw [lg_entry_eq]
  generalize (lg_sl ([.ref (x 0), .int k]) ++ List.replicate (5 - (lg_sl ([.ref (x 0), .int k])).length) Slot.unset).toArray = ls at hl ⊢
  have hl : lv_has ls 5 [(0, .ref (x 0)), (1, .int k)] := hl
  obtain ⟨OUT, hO⟩ : ∃ z, z = F_X5_fitsNotes No k := ⟨_, rfl⟩
  have hF := hO
  unfold F_X5_fitsNotes at hF
  have e_pno := tN_eq pno.1
  have b_pno := pno.2
  refine lv_iconst (v := nI 0) hx hb dX5_fitsNotes_0 (by decide) ?_
  refine lv_istore_n (lv' := [(2, .int (nI 0)), (0, .ref (x 0)), (1, .int k)]) hx hb dX5_fitsNotes_1 rfl hl (by decide) rfl (fun ls hl => ?_)
  have L_2 : ∀ (n_2 : Nat) (j : Nat) (H : Heap) (locs : List Loc), j ≤ tN (Rus No) / 3 → tN (Rus No) / 3 - j < n_2 → va_P (dC, dI) vwCl ((xO x X) ++ (fO ((fun i => x (1 + i)))) ++ (rW ((fun i => x (7 + i))) cI 3 18 No)) H → va_D A ((xO x X) ++ (fO ((fun i => x (1 + i)))) ++ (rW ((fun i => x (7 + i))) cI 3 18 No)) → va_S A s.heap H locs → ∀ (ls : Array Slot), lv_has ls 5 [(2, .int (nI j)), (0, .ref (x 0)), (1, .int k)] → OUT = sel1 (F_X5_fitsNotes_L2 n_2 k No j) (fun j => true) (fun r => r) → W p l e (headSpec wsX5_fitsNotes { frames := 2, cells := 0, slots := 0, locals := 38 }).room s m ([.ref (x 0), .int k] : List Value).toArray below meth c H locs 0 0 (MQ below (va_Qi (fun (r : Int32) (u : Unit) => ∃ z : Bool, F_X5_fitsNotes No k = z ∧ r = if z = true then 1 else 0) (mB (dC, dI) vwCl (xT cI) A (fun u => (xO x X) ++ (fO ((fun i => x (1 + i)))) ++ (rW ((fun i => x (7 + i))) cI 3 18 No))) A) ([.ref (x 0), .int k] : List Value).toArray s 0 0 A) (F0 m 2 ls []) := by
    intro n_2
    induction n_2 with
    | zero => intro j H locs i0 hmu; exact absurd hmu (Nat.not_lt_zero _)
    | succ n_2 ih_2 =>
      intro j H locs i0 hmu_2 hP hD hS ls hl hF
      rw [F_X5_fitsNotes_L2] at hF
      refine lv_iload_n hx hb dX5_fitsNotes_2 rfl (lv_at hl 0 rfl) ?_
      refine lv_aload_n hx hb dX5_fitsNotes_3 rfl (lv_at hl 1 rfl) ?_
      refine va_get (D := (dC, dI)) (ci := 5) (v := .ref (x 1)) (C := RX5) (T := TX5) (N := 14) hx hb hts hin5 hown hK hP 0 rfl rfl 0 (by decide) lk12 (fun _ h9 => h9) rfl dX5_fitsNotes_4 ?_
      refine va_get (D := (dC, dI)) (ci := 1) (v := .ref (x 7)) (C := RX1) (T := TX1) (N := 5) hx hb hts hin1 hown hK hP 1 rfl rfl 2 (by decide) lk195 (fun _ h9 => h9) rfl dX5_fitsNotes_7 ?_
      refine qx_Vi (C := RX4) (As := []) (rest := [.int (nI j)]) (ci := 4) (k0 := 2) (wr := (xO x X) ++ (fO ((fun i => x (1 + i))))) (ws2 := fun u => (xO x X) ++ (fO ((fun i => x (1 + i)))) ++ (rW ((fun i => x (7 + i))) cI 3 18 No)) [2, 3] [0, 1] [0, 1, 2, 3] ⟨hx, hb, hml, hown, hts⟩ (c_X4_size_v3 l dC dI (fun i => x (7 + i)) cI H.size No  (pno : inB (Rus No) 18)) (cwV 0 hts gX5_fitsNotes_X4_size rfl rfl rfl (by decide +kernel) ⟨Nat.le_of_ble_eq_true rfl, Nat.le_of_ble_eq_true rfl⟩) (hK.sub [0] rfl) hK hP hD hS hA hN rfl rfl (by decide) (by decide) (by decide) (by decide) (fun _ => rfl) rfl rfl rfl rfl hl.1 rfl (Nat.le_of_ble_eq_true rfl) dX5_fitsNotes_10 ⟨Nat.zero_le _, Nat.zero_le _⟩ (fun r_10 u_10 H locs hw_10 hP hD hS => ?_)
      have hP : va_P (dC, dI) vwCl ((xO x X) ++ (fO ((fun i => x (1 + i)))) ++ (rW ((fun i => x (7 + i))) cI 3 18 No)) H := hP
      have hD : va_D A ((xO x X) ++ (fO ((fun i => x (1 + i)))) ++ (rW ((fun i => x (7 + i))) cI 3 18 No)) := hD
      have e_10 : r_10 = nI (tN (Rus No) / 3) := hw_10.symm
      refine qv_top (e_10) ?_
      rw [hw_10, let1_mk r_10] at hF
      refine qv_icmp_ge (tgt := 73) hx hb dX5_fitsNotes_13 (by decide) (by omega) (by omega) (fun c_13 => ?_) (fun c_13 => ?_)
      · rw [if_pos c_13] at hF
        rw [sel1_inl (j : Nat)] at hF
        refine lv_iconst (v := nI 1) hx hb dX5_fitsNotes_73 (by decide) ?_
        have hP9 : va_P (dC, dI) vwCl ((xO x X) ++ (fO ((fun i => x (1 + i)))) ++ (rW ((fun i => x (7 + i))) cI 3 18 No)) H := hP
        exact W.zret (v := nI 1) hx hb hr (by rfl) (fun t ht hW => ⟨⟨_, (()), rfl, ⟨true, hO.symm.trans hF, rfl⟩, by rw [ht]; exact hP9, va_K.moved hW.alike hK, hD⟩, hS.F ht⟩) hS.2.2 dX5_fitsNotes_74
      · rw [if_neg c_13] at hF
        refine lv_aload_n hx hb dX5_fitsNotes_16 rfl (lv_at hl 1 rfl) ?_
        refine va_get (D := (dC, dI)) (ci := 5) (v := .ref (x 1)) (C := RX5) (T := TX5) (N := 14) hx hb hts hin5 hown hK hP 0 rfl rfl 0 (by decide) lk12 (fun _ h9 => h9) rfl dX5_fitsNotes_17 ?_
        refine va_get (D := (dC, dI)) (ci := 1) (v := .ref (x 7)) (C := RX1) (T := TX1) (N := 5) hx hb hts hin1 hown hK hP 1 rfl rfl 2 (by decide) lk195 (fun _ h9 => h9) rfl dX5_fitsNotes_20 ?_
        refine lv_iload_n hx hb dX5_fitsNotes_23 rfl (lv_at hl 0 rfl) ?_
        refine lv_iconst (v := nI 0) hx hb dX5_fitsNotes_24 (by decide) ?_
        refine qx_Vi (C := RX4) (As := [.int (nI j), .int (nI 0)]) (rest := []) (ci := 4) (k0 := 2) (wr := (xO x X) ++ (fO ((fun i => x (1 + i))))) (ws2 := fun u => (xO x X) ++ (fO ((fun i => x (1 + i)))) ++ (rW ((fun i => x (7 + i))) cI 3 18 No)) [2, 3] [0, 1] [0, 1, 2, 3] ⟨hx, hb, hml, hown, hts⟩ (c_X4_cell_v3 l dC dI (fun i => x (7 + i)) cI H.size No j 0 (pno : inB (Rus No) 18) (by omega) (by omega)) (cwV 2 hts gX5_fitsNotes_X4_cell rfl rfl rfl (by decide +kernel) ⟨Nat.le_of_ble_eq_true rfl, Nat.le_of_ble_eq_true rfl⟩) (hK.sub [0] rfl) hK hP hD hS hA hN rfl rfl (by decide) (by decide) (by decide) (by decide) (fun _ => rfl) rfl rfl rfl rfl hl.1 rfl (Nat.le_of_ble_eq_true rfl) dX5_fitsNotes_25 ⟨Nat.zero_le _, Nat.zero_le _⟩ (fun r_25 u_25 H locs hw_25 hP hD hS => ?_)
        have hP : va_P (dC, dI) vwCl ((xO x X) ++ (fO ((fun i => x (1 + i)))) ++ (rW ((fun i => x (7 + i))) cI 3 18 No)) H := hP
        have hD : va_D A ((xO x X) ++ (fO ((fun i => x (1 + i)))) ++ (rW ((fun i => x (7 + i))) cI 3 18 No)) := hD
        rw [hw_25, let1_mk r_25] at hF
        refine lv_istore_n (lv' := [(3, .int r_25), (2, .int (nI j)), (0, .ref (x 0)), (1, .int k)]) hx hb dX5_fitsNotes_28 rfl hl (by decide) rfl (fun ls hl => ?_)
        refine lv_aload_n hx hb dX5_fitsNotes_29 rfl (lv_at hl 2 rfl) ?_
        refine va_get (D := (dC, dI)) (ci := 5) (v := .ref (x 1)) (C := RX5) (T := TX5) (N := 14) hx hb hts hin5 hown hK hP 0 rfl rfl 0 (by decide) lk12 (fun _ h9 => h9) rfl dX5_fitsNotes_30 ?_
        refine va_get (D := (dC, dI)) (ci := 1) (v := .ref (x 7)) (C := RX1) (T := TX1) (N := 5) hx hb hts hin1 hown hK hP 1 rfl rfl 2 (by decide) lk195 (fun _ h9 => h9) rfl dX5_fitsNotes_33 ?_
        refine lv_iload_n hx hb dX5_fitsNotes_36 rfl (lv_at hl 1 rfl) ?_
        refine lv_iconst (v := nI 1) hx hb dX5_fitsNotes_37 (by decide) ?_
        refine qx_Vi (C := RX4) (As := [.int (nI j), .int (nI 1)]) (rest := []) (ci := 4) (k0 := 2) (wr := (xO x X) ++ (fO ((fun i => x (1 + i))))) (ws2 := fun u => (xO x X) ++ (fO ((fun i => x (1 + i)))) ++ (rW ((fun i => x (7 + i))) cI 3 18 No)) [2, 3] [0, 1] [0, 1, 2, 3] ⟨hx, hb, hml, hown, hts⟩ (c_X4_cell_v3 l dC dI (fun i => x (7 + i)) cI H.size No j 1 (pno : inB (Rus No) 18) (by omega) (by omega)) (cwV 2 hts gX5_fitsNotes_X4_cell rfl rfl rfl (by decide +kernel) ⟨Nat.le_of_ble_eq_true rfl, Nat.le_of_ble_eq_true rfl⟩) (hK.sub [0] rfl) hK hP hD hS hA hN rfl rfl (by decide) (by decide) (by decide) (by decide) (fun _ => rfl) rfl rfl rfl rfl hl.1 rfl (Nat.le_of_ble_eq_true rfl) dX5_fitsNotes_38 ⟨Nat.zero_le _, Nat.zero_le _⟩ (fun r_38 u_38 H locs hw_38 hP hD hS => ?_)
        have hP : va_P (dC, dI) vwCl ((xO x X) ++ (fO ((fun i => x (1 + i)))) ++ (rW ((fun i => x (7 + i))) cI 3 18 No)) H := hP
        have hD : va_D A ((xO x X) ++ (fO ((fun i => x (1 + i)))) ++ (rW ((fun i => x (7 + i))) cI 3 18 No)) := hD
        rw [hw_38, let1_mk r_38] at hF
        refine lv_istore (lv' := [(4, .int r_38), (3, .int r_25), (2, .int (nI j)), (0, .ref (x 0)), (1, .int k)]) hx hb dX5_fitsNotes_41 hl (by decide) rfl (fun ls hl => ?_)
        refine lv_iload_n hx hb dX5_fitsNotes_43 rfl (lv_at hl 4 rfl) ?_
        refine lv_iload hx hb dX5_fitsNotes_44 (lv_at hl 0 rfl) ?_
        refine lv_iload_n hx hb dX5_fitsNotes_46 rfl (lv_at hl 1 rfl) ?_
        refine qc_Si (As := [.int k, .int r_38, .int r_25]) (rest := []) ⟨hx, hb, hml, hown, hts⟩ (c_X5_hitWorth l k r_38 r_25) (va_cwS 3 hts gX5_fitsNotes_X5_hitWorth rfl rfl rfl (by decide +kernel) ⟨Nat.le_of_ble_eq_true rfl, Nat.le_of_ble_eq_true rfl⟩) rfl hl.1 rfl (Nat.le_of_ble_eq_true rfl) dX5_fitsNotes_47 ⟨Nat.zero_le _, Nat.zero_le _⟩ (fun r_47 hw_47 => ?_)
        subst hw_47
        refine lv_aload_n hx hb dX5_fitsNotes_50 rfl (lv_at hl 3 rfl) ?_
        refine va_get (D := (dC, dI)) (ci := 5) (v := .ref (x 1)) (C := RX5) (T := TX5) (N := 14) hx hb hts hin5 hown hK hP 0 rfl rfl 0 (by decide) lk12 (fun _ h9 => h9) rfl dX5_fitsNotes_51 ?_
        refine va_get (D := (dC, dI)) (ci := 1) (v := .ref (x 7)) (C := RX1) (T := TX1) (N := 5) hx hb hts hin1 hown hK hP 1 rfl rfl 2 (by decide) lk195 (fun _ h9 => h9) rfl dX5_fitsNotes_54 ?_
        refine lv_iload_n hx hb dX5_fitsNotes_57 rfl (lv_at hl 2 rfl) ?_
        refine lv_iconst (v := nI 2) hx hb dX5_fitsNotes_58 (by decide) ?_
        refine qx_Vi (C := RX4) (As := [.int (nI j), .int (nI 2)]) (rest := [.int (F_X5_hitWorth k r_38 r_25)]) (ci := 4) (k0 := 2) (wr := (xO x X) ++ (fO ((fun i => x (1 + i))))) (ws2 := fun u => (xO x X) ++ (fO ((fun i => x (1 + i)))) ++ (rW ((fun i => x (7 + i))) cI 3 18 No)) [2, 3] [0, 1] [0, 1, 2, 3] ⟨hx, hb, hml, hown, hts⟩ (c_X4_cell_v3 l dC dI (fun i => x (7 + i)) cI H.size No j 2 (pno : inB (Rus No) 18) (by omega) (by omega)) (cwV 2 hts gX5_fitsNotes_X4_cell rfl rfl rfl (by decide +kernel) ⟨Nat.le_of_ble_eq_true rfl, Nat.le_of_ble_eq_true rfl⟩) (hK.sub [0] rfl) hK hP hD hS hA hN rfl rfl (by decide) (by decide) (by decide) (by decide) (fun _ => rfl) rfl rfl rfl rfl hl.1 rfl (Nat.le_of_ble_eq_true rfl) dX5_fitsNotes_59 ⟨Nat.zero_le _, Nat.zero_le _⟩ (fun r_59 u_59 H locs hw_59 hP hD hS => ?_)
        have hP : va_P (dC, dI) vwCl ((xO x X) ++ (fO ((fun i => x (1 + i)))) ++ (rW ((fun i => x (7 + i))) cI 3 18 No)) H := hP
        have hD : va_D A ((xO x X) ++ (fO ((fun i => x (1 + i)))) ++ (rW ((fun i => x (7 + i))) cI 3 18 No)) := hD
        rw [hw_59, let1_mk r_59] at hF
        refine lv_icmp_eq (tgt := 67) hx hb dX5_fitsNotes_62 (by decide) (fun c_62 => ?_) (fun c_62 => ?_)
        · rw [if_pos c_62] at hF
          refine lv_iinc (v := nI (j + 1)) (lv' := [(2, .int (nI (j + 1))), (4, .int r_38), (3, .int r_25), (0, .ref (x 0)), (1, .int k)]) hx hb dX5_fitsNotes_67 hl (k := 2) rfl (qn_inc (c := 1) rfl (by omega)) (by decide) rfl (fun ls hl => ?_)
          refine lv_goto (tgt := 2) hx hb dX5_fitsNotes_70 (by decide) ?_
          exact ih_2 (j + 1) H locs (by omega) (by omega) hP hD hS ls (lv_sub hl [0, 3, 4] rfl) hF
        · rw [if_neg c_62] at hF
          refine lv_iconst (v := nI 0) hx hb dX5_fitsNotes_65 (by decide) ?_
          rw [sel1_inr] at hF
          have hP9 : va_P (dC, dI) vwCl ((xO x X) ++ (fO ((fun i => x (1 + i)))) ++ (rW ((fun i => x (7 + i))) cI 3 18 No)) H := hP
          exact W.zret (v := nI 0) hx hb hr (by rfl) (fun t ht hW => ⟨⟨_, (()), rfl, ⟨false, hO.symm.trans hF, rfl⟩, by rw [ht]; exact hP9, va_K.moved hW.alike hK, hD⟩, hS.F ht⟩) hS.2.2 dX5_fitsNotes_66
  exact L_2 7 0 s.heap [] (by omega) (by omega) hP hD hS ls (lv_sub hl [0, 1, 2] rfl) hF
def F_X5_is_L4 : Nat → (rS) → (Nat) → (Int32) → (Nat) × (Int32)
  | 0, _, kd, bi => (kd, bi)
  | n_4 + 1, No, kd, bi => if 6 ≤ kd then (kd, bi) else let1 (F_X5_fitsNotes No (nI kd)) (fun z_12 => if z_12 = true then F_X5_is_L4 n_4 No (kd + 1) (bi ||| ((nI 1) <<< ((nI kd) &&& 31))) else F_X5_is_L4 n_4 No (kd + 1) bi)
def F_X5_is (No : rS) : Int32 := let2 (F_X5_is_L4 7 No 0 (nI 0)) (fun kd bi => bi)
set_option maxHeartbeats 4000000 in
set_option maxRecDepth 100000 in
theorem c_X5_is (l : Launch) (dC : Nat → ClassId) (dI : Nat → Nat → Nat) (x : Nat → Nat) (cI : ClassId) (sz : Nat) (X : xS) (No : rS) (pno : inB (Rus No) 18) : Met l yX5_is wsX5_is { frames := 3, cells := 0, slots := 0, locals := 62 } (xPc (dC, dI) vwCl (xT cI) ((xO x X) ++ (fO ((fun i => x (1 + i)))) ++ (rW ((fun i => x (7 + i))) cI 3 18 No)) sz [.ref (x 0)]) (va_Qi (fun (r : Int32) (u : Unit) => F_X5_is No = r) (mB (dC, dI) vwCl (xT cI) (va_A ((xO x X) ++ (fO ((fun i => x (1 + i)))) ++ (rW ((fun i => x (7 + i))) cI 3 18 No)) sz) (fun u => (xO x X) ++ (fO ((fun i => x (1 + i)))) ++ (rW ((fun i => x (7 + i))) cI 3 18 No))) (va_A ((xO x X) ++ (fO ((fun i => x (1 + i)))) ++ (rW ((fun i => x (7 + i))) cI 3 18 No)) sz)) 0 0 (va_A ((xO x X) ++ (fO ((fun i => x (1 + i)))) ++ (rW ((fun i => x (7 + i))) cI 3 18 No)) sz) := by
  refine Met.ofW (cc := cX5_is) (maxL := 3) (ret := (some .int)) (by decide) rfl ?_
  intro p e s m args below meth c s₁ B hml hv
  obtain ⟨rfl, hsz, hP, hK, hD0, hN⟩ := hv
  have hx := B.exec
  have hb := B.bytes
  have hr := B.returns
  have hts := atoms_spec (ws := wsX5_is) B.pre
  have hown : s.vm.findClass RX5 = some m.cls := findClass_of_methodNamed B.named
  have hlocks := B.notSynchronized
  subst hsz
  have hD := hD0.self (sz := s.heap.size)
  generalize hAe : va_A ((xO x X) ++ (fO ((fun i => x (1 + i)))) ++ (rW ((fun i => x (7 + i))) cI 3 18 No)) s.heap.size = A at hD ⊢
  have hA : ∀ q : Nat, s.heap.size ≤ q → A q := fun q h => by rw [← hAe]; exact Or.inr h
  have hS : va_S A s.heap s.heap [] := va_S.rf
  have hl := lv_entry ([.ref (x 0)]) (n := 3) (Nat.le_of_ble_eq_true rfl)
  rw [lg_entry_eq]
  generalize (lg_sl ([.ref (x 0)]) ++ List.replicate (3 - (lg_sl ([.ref (x 0)])).length) Slot.unset).toArray = ls at hl ⊢
  have hl : lv_has ls 3 [(0, .ref (x 0))] := hl
  obtain ⟨OUT, hO⟩ : ∃ z, z = F_X5_is No := ⟨_, rfl⟩
  have hF := hO
  unfold F_X5_is at hF
  have e_pno := tN_eq pno.1
  have b_pno := pno.2
  refine lv_iconst (v := nI 0) hx hb dX5_is_0 (by decide) ?_
  refine lv_istore_n (lv' := [(1, .int (nI 0)), (0, .ref (x 0))]) hx hb dX5_is_1 rfl hl (by decide) rfl (fun ls hl => ?_)
  refine lv_iconst (v := nI 0) hx hb dX5_is_2 (by decide) ?_
  refine lv_istore_n (lv' := [(2, .int (nI 0)), (1, .int (nI 0)), (0, .ref (x 0))]) hx hb dX5_is_3 rfl hl (by decide) rfl (fun ls hl => ?_)
  have L_4 : ∀ (n_4 : Nat) (kd : Nat) (bi : Int32) (H : Heap) (locs : List Loc), kd ≤ 6 → 6 - kd < n_4 → va_P (dC, dI) vwCl ((xO x X) ++ (fO ((fun i => x (1 + i)))) ++ (rW ((fun i => x (7 + i))) cI 3 18 No)) H → va_D A ((xO x X) ++ (fO ((fun i => x (1 + i)))) ++ (rW ((fun i => x (7 + i))) cI 3 18 No)) → va_S A s.heap H locs → ∀ (ls : Array Slot), lv_has ls 3 [(2, .int (nI kd)), (1, .int bi), (0, .ref (x 0))] → OUT = let2 (F_X5_is_L4 n_4 No kd bi) (fun kd bi => bi) → W p l e (headSpec wsX5_is { frames := 3, cells := 0, slots := 0, locals := 62 }).room s m ([.ref (x 0)] : List Value).toArray below meth c H locs 0 0 (MQ below (va_Qi (fun (r : Int32) (u : Unit) => F_X5_is No = r) (mB (dC, dI) vwCl (xT cI) A (fun u => (xO x X) ++ (fO ((fun i => x (1 + i)))) ++ (rW ((fun i => x (7 + i))) cI 3 18 No))) A) ([.ref (x 0)] : List Value).toArray s 0 0 A) (F0 m 4 ls []) := by
    intro n_4
    induction n_4 with
    | zero => intro kd bi H locs i0 hmu; exact absurd hmu (Nat.not_lt_zero _)
    | succ n_4 ih_4 =>
      intro kd bi H locs i0 hmu_4 hP hD hS ls hl hF
      rw [F_X5_is_L4] at hF
      refine lv_iload_n hx hb dX5_is_4 rfl (lv_at hl 0 rfl) ?_
      refine lv_bipush (v := nI 6) hx hb dX5_is_5 (by decide) ?_
      refine qv_icmp_ge (tgt := 30) hx hb dX5_is_7 (by decide) (by omega) (by omega) (fun c_7 => ?_) (fun c_7 => ?_)
      · rw [if_pos c_7] at hF
        rw [let2_mk (kd : Nat) (bi : Int32)] at hF
        refine lv_iload_n hx hb dX5_is_30 rfl (lv_at hl 1 rfl) ?_
        have hP9 : va_P (dC, dI) vwCl ((xO x X) ++ (fO ((fun i => x (1 + i)))) ++ (rW ((fun i => x (7 + i))) cI 3 18 No)) H := hP
        exact W.iret (v := bi) hx hb hr (fun t ht hW => ⟨⟨_, (()), rfl, hO.symm.trans hF, by rw [ht]; exact hP9, va_K.moved hW.alike hK, hD⟩, hS.F ht⟩) hS.2.2 dX5_is_31
      · rw [if_neg c_7] at hF
        refine lv_aload_n hx hb dX5_is_10 rfl (lv_at hl 2 rfl) ?_
        refine lv_iload_n hx hb dX5_is_11 rfl (lv_at hl 0 rfl) ?_
        refine qx_Vi (C := RX5) (As := [.int (nI kd)]) (rest := []) (ci := 5) (k0 := 0) (wr := []) (ws2 := fun u => (xO x X) ++ (fO ((fun i => x (1 + i)))) ++ (rW ((fun i => x (7 + i))) cI 3 18 No)) [0, 1, 2, 3] [] [0, 1, 2, 3] ⟨hx, hb, hml, hown, hts⟩ (c_X5_fitsNotes l dC dI x cI H.size X No (nI kd) (pno : inB (Rus No) 18)) (cwV 1 hts gX5_is_X5_fitsNotes rfl rfl rfl (by decide +kernel) ⟨Nat.le_of_ble_eq_true rfl, Nat.le_of_ble_eq_true rfl⟩) (hK.sub [0] rfl) hK hP hD hS hA hN rfl rfl (by decide) (by decide) (by decide) (by decide) (fun _ => rfl) rfl rfl rfl rfl hl.1 rfl (Nat.le_of_ble_eq_true rfl) dX5_is_12 ⟨Nat.zero_le _, Nat.zero_le _⟩ (fun r_12 u_12 H locs hw_12 hP hD hS => ?_)
        have hP : va_P (dC, dI) vwCl ((xO x X) ++ (fO ((fun i => x (1 + i)))) ++ (rW ((fun i => x (7 + i))) cI 3 18 No)) H := hP
        have hD : va_D A ((xO x X) ++ (fO ((fun i => x (1 + i)))) ++ (rW ((fun i => x (7 + i))) cI 3 18 No)) := hD
        obtain ⟨z_12, hw_12, rfl⟩ := hw_12
        rw [hw_12, let1_mk z_12] at hF
        refine qv_zif_eq (tgt := 24) hx hb dX5_is_15 (by decide) (fun c_15 => ?_) (fun c_15 => ?_)
        · rw [if_neg c_15] at hF
          refine lv_iinc (v := nI (kd + 1)) (lv' := [(2, .int (nI (kd + 1))), (1, .int bi), (0, .ref (x 0))]) hx hb dX5_is_24 hl (k := 0) rfl (qn_inc (c := 1) rfl (by omega)) (by decide) rfl (fun ls hl => ?_)
          refine lv_goto (tgt := 4) hx hb dX5_is_27 (by decide) ?_
          exact ih_4 (kd + 1) bi H locs (by omega) (by omega) hP hD hS ls (lv_sub hl [0, 1, 2] rfl) hF
        · rw [if_pos c_15] at hF
          refine lv_iload_n hx hb dX5_is_18 rfl (lv_at hl 1 rfl) ?_
          refine lv_iconst (v := nI 1) hx hb dX5_is_19 (by decide) ?_
          refine lv_iload_n hx hb dX5_is_20 rfl (lv_at hl 0 rfl) ?_
          refine lv_ishl hx hb dX5_is_21 ?_
          refine lv_ior hx hb dX5_is_22 ?_
          refine lv_istore_n (lv' := [(1, .int (bi ||| ((nI 1) <<< ((nI kd) &&& 31)))), (2, .int (nI kd)), (0, .ref (x 0))]) hx hb dX5_is_23 rfl hl (by decide) rfl (fun ls hl => ?_)
          refine lv_iinc (v := nI (kd + 1)) (lv' := [(2, .int (nI (kd + 1))), (1, .int (bi ||| ((nI 1) <<< ((nI kd) &&& 31)))), (0, .ref (x 0))]) hx hb dX5_is_24 hl (k := 1) rfl (qn_inc (c := 1) rfl (by omega)) (by decide) rfl (fun ls hl => ?_)
          refine lv_goto (tgt := 4) hx hb dX5_is_27 (by decide) ?_
          exact ih_4 (kd + 1) (bi ||| ((nI 1) <<< ((nI kd) &&& 31))) H locs (by omega) (by omega) hP hD hS ls (lv_sub hl [0, 1, 2] rfl) hF
  exact L_4 7 0 (nI 0) s.heap [] (by omega) (by omega) hP hD hS ls (lv_sub hl [0, 1, 2] rfl) hF
def F_X5_mostAlike_L16 : Nat → (Int32) → (Nat → Int32) → (Nat) → (Nat) → (Nat) → (Nat) × (Nat)
  | 0, _, _, _, b0, al => (b0, al)
  | n_16 + 1, bi, Se, a0, b0, al => if 6 ≤ b0 then (b0, al) else (if ((bi >>> ((nI a0) &&& 31)) &&& (nI 1)) = (nI 1) then (if ((bi >>> ((nI b0) &&& 31)) &&& (nI 1)) = (nI 1) then (if (Se a0) = (Se b0) then F_X5_mostAlike_L16 n_16 bi Se a0 (b0 + 1) (al + 1) else F_X5_mostAlike_L16 n_16 bi Se a0 (b0 + 1) al) else F_X5_mostAlike_L16 n_16 bi Se a0 (b0 + 1) al) else F_X5_mostAlike_L16 n_16 bi Se a0 (b0 + 1) al)
def F_X5_mostAlike_L4 : Nat → (Int32) → (Nat → Int32) → (Nat) → (Nat) → (Nat) × (Nat)
  | 0, _, _, a0, mo => (a0, mo)
  | n_4 + 1, bi, Se, a0, mo => if 6 ≤ a0 then (a0, mo) else let2 (F_X5_mostAlike_L16 7 bi Se a0 0 0) (fun b0 al => if (nI mo) < (nI al) then F_X5_mostAlike_L4 n_4 bi Se (a0 + 1) al else F_X5_mostAlike_L4 n_4 bi Se (a0 + 1) mo)
def F_X5_mostAlike (Se : Nat → Int32) (bi : Int32) : Int32 := let2 (F_X5_mostAlike_L4 7 bi Se 0 0) (fun a0 mo => nI mo)
set_option maxHeartbeats 4000000 in
set_option maxRecDepth 100000 in
theorem c_X5_mostAlike (l : Launch) (dC : Nat → ClassId) (dI : Nat → Nat → Nat) (x : Nat → Nat) (cI : ClassId) (sz : Nat) (X : xS) (Se : Nat → Int32) (bi : Int32) : Met l yX5_mostAlike wsX5_mostAlike { frames := 1, cells := 0, slots := 0, locals := 13 } (xPc (dC, dI) vwCl (xT cI) ((xO x X) ++ ([(x 57, .inl (cI, 6, .inl Se))])) sz [.ref (x 0), .int bi]) (va_Qi (fun (r : Int32) (u : Unit) => F_X5_mostAlike Se bi = r) (mB (dC, dI) vwCl (xT cI) (va_A ((xO x X) ++ ([(x 57, .inl (cI, 6, .inl Se))])) sz) (fun u => (xO x X) ++ ([(x 57, .inl (cI, 6, .inl Se))]))) (va_A ((xO x X) ++ ([(x 57, .inl (cI, 6, .inl Se))])) sz)) 0 0 (va_A ((xO x X) ++ ([(x 57, .inl (cI, 6, .inl Se))])) sz) := by
  refine Met.ofW (cc := cX5_mostAlike) (maxL := 6) (ret := (some .int)) (by decide) rfl ?_
  intro p e s m args below meth c s₁ B hml hv
  obtain ⟨rfl, hsz, hP, hK, hD0, hN⟩ := hv
  have hx := B.exec
  have hb := B.bytes
  have hr := B.returns
  have hts := atoms_spec (ws := wsX5_mostAlike) B.pre
  have hown : s.vm.findClass RX5 = some m.cls := findClass_of_methodNamed B.named
  have hlocks := B.notSynchronized
  subst hsz
  have hD := hD0.self (sz := s.heap.size)
  generalize hAe : va_A ((xO x X) ++ ([(x 57, .inl (cI, 6, .inl Se))])) s.heap.size = A at hD ⊢
  have hA : ∀ q : Nat, s.heap.size ≤ q → A q := fun q h => by rw [← hAe]; exact Or.inr h
  have hS : va_S A s.heap s.heap [] := va_S.rf
  have hin5 : ∀ w ∈ wsX50, w ∈ wsX5_mostAlike := by decide +kernel
  have lk58 := hts (.fieldLink RX5 58 "PostRounders" "seen" "[I") (by decide +kernel)
  have hl := lv_entry ([.ref (x 0), .int bi]) (n := 6) (Nat.le_of_ble_eq_true rfl)
  rw [lg_entry_eq]
  generalize (lg_sl ([.ref (x 0), .int bi]) ++ List.replicate (6 - (lg_sl ([.ref (x 0), .int bi])).length) Slot.unset).toArray = ls at hl ⊢
  have hl : lv_has ls 6 [(0, .ref (x 0)), (1, .int bi)] := hl
  obtain ⟨OUT, hO⟩ : ∃ z, z = F_X5_mostAlike Se bi := ⟨_, rfl⟩
  have hF := hO
  unfold F_X5_mostAlike at hF
  refine lv_iconst (v := nI 0) hx hb dX5_mostAlike_0 (by decide) ?_
  refine lv_istore_n (lv' := [(2, .int (nI 0)), (0, .ref (x 0)), (1, .int bi)]) hx hb dX5_mostAlike_1 rfl hl (by decide) rfl (fun ls hl => ?_)
  refine lv_iconst (v := nI 0) hx hb dX5_mostAlike_2 (by decide) ?_
  refine lv_istore_n (lv' := [(3, .int (nI 0)), (2, .int (nI 0)), (0, .ref (x 0)), (1, .int bi)]) hx hb dX5_mostAlike_3 rfl hl (by decide) rfl (fun ls hl => ?_)
  have L_4 : ∀ (n_4 : Nat) (a0 : Nat) (mo : Nat) (H : Heap) (locs : List Loc), a0 ≤ 6 → mo ≤ 6 → 6 - a0 < n_4 → va_P (dC, dI) vwCl ((xO x X) ++ ([(x 57, .inl (cI, 6, .inl Se))])) H → va_D A ((xO x X) ++ ([(x 57, .inl (cI, 6, .inl Se))])) → va_S A s.heap H locs → ∀ (ls : Array Slot), lv_has ls 6 [(3, .int (nI a0)), (2, .int (nI mo)), (0, .ref (x 0)), (1, .int bi)] → OUT = let2 (F_X5_mostAlike_L4 n_4 bi Se a0 mo) (fun a0 mo => nI mo) → W p l e (headSpec wsX5_mostAlike { frames := 1, cells := 0, slots := 0, locals := 13 }).room s m ([.ref (x 0), .int bi] : List Value).toArray below meth c H locs 0 0 (MQ below (va_Qi (fun (r : Int32) (u : Unit) => F_X5_mostAlike Se bi = r) (mB (dC, dI) vwCl (xT cI) A (fun u => (xO x X) ++ ([(x 57, .inl (cI, 6, .inl Se))]))) A) ([.ref (x 0), .int bi] : List Value).toArray s 0 0 A) (F0 m 4 ls []) := by
    intro n_4
    induction n_4 with
    | zero => intro a0 mo H locs i0 i1 hmu; exact absurd hmu (Nat.not_lt_zero _)
    | succ n_4 ih_4 =>
      intro a0 mo H locs i0 i1 hmu_4 hP hD hS ls hl hF
      rw [F_X5_mostAlike_L4] at hF
      refine lv_iload_n hx hb dX5_mostAlike_4 rfl (lv_at hl 0 rfl) ?_
      refine lv_bipush (v := nI 6) hx hb dX5_mostAlike_5 (by decide) ?_
      refine qv_icmp_ge (tgt := 80) hx hb dX5_mostAlike_7 (by decide) (by omega) (by omega) (fun c_7 => ?_) (fun c_7 => ?_)
      · rw [if_pos c_7] at hF
        rw [let2_mk (a0 : Nat) (mo : Nat)] at hF
        refine lv_iload_n hx hb dX5_mostAlike_80 rfl (lv_at hl 1 rfl) ?_
        have hP9 : va_P (dC, dI) vwCl ((xO x X) ++ ([(x 57, .inl (cI, 6, .inl Se))])) H := hP
        exact W.iret (v := nI mo) hx hb hr (fun t ht hW => ⟨⟨_, (()), rfl, hO.symm.trans hF, by rw [ht]; exact hP9, va_K.moved hW.alike hK, hD⟩, hS.F ht⟩) hS.2.2 dX5_mostAlike_81
      · rw [if_neg c_7] at hF
        refine lv_iconst (v := nI 0) hx hb dX5_mostAlike_10 (by decide) ?_
        refine lv_istore (lv' := [(4, .int (nI 0)), (3, .int (nI a0)), (2, .int (nI mo)), (0, .ref (x 0)), (1, .int bi)]) hx hb dX5_mostAlike_11 hl (by decide) rfl (fun ls hl => ?_)
        refine lv_iconst (v := nI 0) hx hb dX5_mostAlike_13 (by decide) ?_
        refine lv_istore (lv' := [(5, .int (nI 0)), (4, .int (nI 0)), (3, .int (nI a0)), (2, .int (nI mo)), (0, .ref (x 0)), (1, .int bi)]) hx hb dX5_mostAlike_14 hl (by decide) rfl (fun ls hl => ?_)
        have L_16 : ∀ (n_16 : Nat) (b0 : Nat) (al : Nat) (H : Heap) (locs : List Loc), b0 ≤ 6 → al ≤ b0 → 6 - b0 < n_16 → va_P (dC, dI) vwCl ((xO x X) ++ ([(x 57, .inl (cI, 6, .inl Se))])) H → va_D A ((xO x X) ++ ([(x 57, .inl (cI, 6, .inl Se))])) → va_S A s.heap H locs → ∀ (ls : Array Slot), lv_has ls 6 [(5, .int (nI b0)), (4, .int (nI al)), (3, .int (nI a0)), (2, .int (nI mo)), (0, .ref (x 0)), (1, .int bi)] → OUT = let2 (let2 (F_X5_mostAlike_L16 n_16 bi Se a0 b0 al) (fun b0 al => if (nI mo) < (nI al) then F_X5_mostAlike_L4 n_4 bi Se (a0 + 1) al else F_X5_mostAlike_L4 n_4 bi Se (a0 + 1) mo)) (fun a0 mo => nI mo) → W p l e (headSpec wsX5_mostAlike { frames := 1, cells := 0, slots := 0, locals := 13 }).room s m ([.ref (x 0), .int bi] : List Value).toArray below meth c H locs 0 0 (MQ below (va_Qi (fun (r : Int32) (u : Unit) => F_X5_mostAlike Se bi = r) (mB (dC, dI) vwCl (xT cI) A (fun u => (xO x X) ++ ([(x 57, .inl (cI, 6, .inl Se))]))) A) ([.ref (x 0), .int bi] : List Value).toArray s 0 0 A) (F0 m 16 ls []) := by
          intro n_16
          induction n_16 with
          | zero => intro b0 al H locs j0 j1 hmu; exact absurd hmu (Nat.not_lt_zero _)
          | succ n_16 ih_16 =>
            intro b0 al H locs j0 j1 hmu_16 hP hD hS ls hl hF
            rw [F_X5_mostAlike_L16] at hF
            refine lv_iload hx hb dX5_mostAlike_16 (lv_at hl 0 rfl) ?_
            refine lv_bipush (v := nI 6) hx hb dX5_mostAlike_18 (by decide) ?_
            refine qv_icmp_ge (tgt := 67) hx hb dX5_mostAlike_20 (by decide) (by omega) (by omega) (fun c_20 => ?_) (fun c_20 => ?_)
            · rw [if_pos c_20] at hF
              rw [let2_mk (b0 : Nat) (al : Nat)] at hF
              refine lv_iload_n hx hb dX5_mostAlike_67 rfl (lv_at hl 3 rfl) ?_
              refine lv_iload hx hb dX5_mostAlike_68 (lv_at hl 1 rfl) ?_
              refine va_mmax hx hb (hml.trans hl.1.symm) hown (hts (.methodLink RX5 168 Lib.Math.max.name) (by decide +kernel)) (hts (.static Lib.Math.max.name) (by decide +kernel)) (hts (.initialized "java/lang/Math") (by decide +kernel)) (hts (.code Lib.Math.max.name Lib.Math.max.code 2 (some .int)) (by decide +kernel)) (Nat.le_of_ble_eq_true rfl) (Nat.le_of_ble_eq_true rfl) (Nat.zero_le _) (Nat.zero_le _) dX5_mostAlike_70 ?_
              by_cases c_70 : (nI mo) < (nI al)
              · rw [if_pos c_70] at hF ⊢
                refine lv_istore_n (lv' := [(2, .int (nI al)), (5, .int (nI b0)), (4, .int (nI al)), (3, .int (nI a0)), (0, .ref (x 0)), (1, .int bi)]) hx hb dX5_mostAlike_73 rfl hl (by decide) rfl (fun ls hl => ?_)
                refine lv_iinc (v := nI (a0 + 1)) (lv' := [(3, .int (nI (a0 + 1))), (2, .int (nI al)), (5, .int (nI b0)), (4, .int (nI al)), (0, .ref (x 0)), (1, .int bi)]) hx hb dX5_mostAlike_74 hl (k := 3) rfl (qn_inc (c := 1) rfl (by omega)) (by decide) rfl (fun ls hl => ?_)
                refine lv_goto (tgt := 4) hx hb dX5_mostAlike_77 (by decide) ?_
                exact ih_4 (a0 + 1) al H locs (by omega) (by omega) (by omega) hP hD hS ls (lv_sub hl [0, 1, 4, 5] rfl) hF
              · rw [if_neg c_70] at hF ⊢
                refine lv_istore_n (lv' := [(2, .int (nI mo)), (5, .int (nI b0)), (4, .int (nI al)), (3, .int (nI a0)), (0, .ref (x 0)), (1, .int bi)]) hx hb dX5_mostAlike_73 rfl hl (by decide) rfl (fun ls hl => ?_)
                refine lv_iinc (v := nI (a0 + 1)) (lv' := [(3, .int (nI (a0 + 1))), (2, .int (nI mo)), (5, .int (nI b0)), (4, .int (nI al)), (0, .ref (x 0)), (1, .int bi)]) hx hb dX5_mostAlike_74 hl (k := 3) rfl (qn_inc (c := 1) rfl (by omega)) (by decide) rfl (fun ls hl => ?_)
                refine lv_goto (tgt := 4) hx hb dX5_mostAlike_77 (by decide) ?_
                exact ih_4 (a0 + 1) mo H locs (by omega) (by omega) (by omega) hP hD hS ls (lv_sub hl [0, 1, 4, 5] rfl) hF
            · rw [if_neg c_20] at hF
              refine lv_iload_n hx hb dX5_mostAlike_23 rfl (lv_at hl 5 rfl) ?_
              refine lv_iload_n hx hb dX5_mostAlike_24 rfl (lv_at hl 2 rfl) ?_
              refine lv_ishr hx hb dX5_mostAlike_25 ?_
              refine lv_iconst (v := nI 1) hx hb dX5_mostAlike_26 (by decide) ?_
              refine lv_iand hx hb dX5_mostAlike_27 ?_
              refine lv_iconst (v := nI 1) hx hb dX5_mostAlike_28 (by decide) ?_
              refine lv_icmp_ne (tgt := 61) hx hb dX5_mostAlike_29 (by decide) (fun c_29 => ?_) (fun c_29 => ?_)
              · rw [if_neg c_29] at hF
                refine lv_iinc (v := nI (b0 + 1)) (lv' := [(5, .int (nI (b0 + 1))), (4, .int (nI al)), (3, .int (nI a0)), (2, .int (nI mo)), (0, .ref (x 0)), (1, .int bi)]) hx hb dX5_mostAlike_61 hl (k := 0) rfl (qn_inc (c := 1) rfl (by omega)) (by decide) rfl (fun ls hl => ?_)
                refine lv_goto (tgt := 16) hx hb dX5_mostAlike_64 (by decide) ?_
                exact ih_16 (b0 + 1) al H locs (by omega) (by omega) (by omega) hP hD hS ls (lv_sub hl [0, 1, 2, 3, 4, 5] rfl) hF
              · rw [if_pos c_29] at hF
                refine lv_iload_n hx hb dX5_mostAlike_32 rfl (lv_at hl 5 rfl) ?_
                refine lv_iload hx hb dX5_mostAlike_33 (lv_at hl 0 rfl) ?_
                refine lv_ishr hx hb dX5_mostAlike_35 ?_
                refine lv_iconst (v := nI 1) hx hb dX5_mostAlike_36 (by decide) ?_
                refine lv_iand hx hb dX5_mostAlike_37 ?_
                refine lv_iconst (v := nI 1) hx hb dX5_mostAlike_38 (by decide) ?_
                refine lv_icmp_ne (tgt := 61) hx hb dX5_mostAlike_39 (by decide) (fun c_39 => ?_) (fun c_39 => ?_)
                · rw [if_neg c_39] at hF
                  refine lv_iinc (v := nI (b0 + 1)) (lv' := [(5, .int (nI (b0 + 1))), (4, .int (nI al)), (3, .int (nI a0)), (2, .int (nI mo)), (0, .ref (x 0)), (1, .int bi)]) hx hb dX5_mostAlike_61 hl (k := 0) rfl (qn_inc (c := 1) rfl (by omega)) (by decide) rfl (fun ls hl => ?_)
                  refine lv_goto (tgt := 16) hx hb dX5_mostAlike_64 (by decide) ?_
                  exact ih_16 (b0 + 1) al H locs (by omega) (by omega) (by omega) hP hD hS ls (lv_sub hl [0, 1, 2, 3, 4, 5] rfl) hF
                · rw [if_pos c_39] at hF
                  refine lv_aload_n hx hb dX5_mostAlike_42 rfl (lv_at hl 4 rfl) ?_
                  refine va_get (D := (dC, dI)) (ci := 5) (v := .ref (x 57)) (C := RX5) (T := TX5) (N := 14) hx hb hts hin5 hown hK hP 0 rfl rfl 12 (by decide) lk58 (fun _ h9 => h9) rfl dX5_mostAlike_43 ?_
                  refine lv_iload_n hx hb dX5_mostAlike_46 rfl (lv_at hl 2 rfl) ?_
                  refine qv_ald (v := Se a0) hx hb hK hP 1 0 rfl rfl (by omega) (by decide) (rfl) dX5_mostAlike_47 ?_
                  refine lv_aload_n hx hb dX5_mostAlike_48 rfl (lv_at hl 4 rfl) ?_
                  refine va_get (D := (dC, dI)) (ci := 5) (v := .ref (x 57)) (C := RX5) (T := TX5) (N := 14) hx hb hts hin5 hown hK hP 0 rfl rfl 12 (by decide) lk58 (fun _ h9 => h9) rfl dX5_mostAlike_49 ?_
                  refine lv_iload hx hb dX5_mostAlike_52 (lv_at hl 0 rfl) ?_
                  refine qv_ald (v := Se b0) hx hb hK hP 1 0 rfl rfl (by omega) (by decide) (rfl) dX5_mostAlike_54 ?_
                  refine lv_icmp_ne (tgt := 61) hx hb dX5_mostAlike_55 (by decide) (fun c_55 => ?_) (fun c_55 => ?_)
                  · rw [if_neg c_55] at hF
                    refine lv_iinc (v := nI (b0 + 1)) (lv' := [(5, .int (nI (b0 + 1))), (4, .int (nI al)), (3, .int (nI a0)), (2, .int (nI mo)), (0, .ref (x 0)), (1, .int bi)]) hx hb dX5_mostAlike_61 hl (k := 0) rfl (qn_inc (c := 1) rfl (by omega)) (by decide) rfl (fun ls hl => ?_)
                    refine lv_goto (tgt := 16) hx hb dX5_mostAlike_64 (by decide) ?_
                    exact ih_16 (b0 + 1) al H locs (by omega) (by omega) (by omega) hP hD hS ls (lv_sub hl [0, 1, 2, 3, 4, 5] rfl) hF
                  · rw [if_pos c_55] at hF
                    refine lv_iinc (v := nI (al + 1)) (lv' := [(4, .int (nI (al + 1))), (5, .int (nI b0)), (3, .int (nI a0)), (2, .int (nI mo)), (0, .ref (x 0)), (1, .int bi)]) hx hb dX5_mostAlike_58 hl (k := 1) rfl (qn_inc (c := 1) rfl (by omega)) (by decide) rfl (fun ls hl => ?_)
                    refine lv_iinc (v := nI (b0 + 1)) (lv' := [(5, .int (nI (b0 + 1))), (4, .int (nI (al + 1))), (3, .int (nI a0)), (2, .int (nI mo)), (0, .ref (x 0)), (1, .int bi)]) hx hb dX5_mostAlike_61 hl (k := 1) rfl (qn_inc (c := 1) rfl (by omega)) (by decide) rfl (fun ls hl => ?_)
                    refine lv_goto (tgt := 16) hx hb dX5_mostAlike_64 (by decide) ?_
                    exact ih_16 (b0 + 1) (al + 1) H locs (by omega) (by omega) (by omega) hP hD hS ls (lv_sub hl [0, 1, 2, 3, 4, 5] rfl) hF
        exact L_16 7 0 0 H locs (by omega) (by omega) (by omega) hP hD hS ls (lv_sub hl [0, 1, 2, 3, 4, 5] rfl) hF
  exact L_4 7 0 0 s.heap [] (by omega) (by omega) (by omega) hP hD hS ls (lv_sub hl [0, 1, 2, 3] rfl) hF
def F_X5_look_L27 : Nat → (Nat) → (Nat) → (Nat → Int32) → (Nat) × (Nat → Int32)
  | 0, _, kd, s2 => (kd, s2)
  | n_27 + 1, pl, kd, s2 => if 6 ≤ kd then (kd, s2) else F_X5_look_L27 n_27 pl (kd + 1) (upd s2 kd (F_X5_hitWorth (nI kd) (nI ((pl % 10))) (nI ((pl / 10)))))
def F_X5_look_L13 : Nat → (Int32) → (Nat) → (Int32) → (Int32) → (Nat → Int32) → (Nat) × (Int32) × (Int32) × (Nat → Int32)
  | 0, _, pl, bs, fw, s1 => (pl, bs, fw, s1)
  | n_13 + 1, r_1, pl, bs, fw, s1 => if 100 ≤ pl then (pl, bs, fw, s1) else (if r_1 = 0 then (pl, bs, fw, s1) else let2 (F_X5_look_L27 7 pl 0 s1) (fun kd s2 => let1 (F_X5_mostAlike s2 r_1) (fun r_64 => if fw ≤ r_64 then F_X5_look_L13 n_13 r_1 (pl + 1) bs fw s2 else F_X5_look_L13 n_13 r_1 (pl + 1) (nI pl) r_64 s2)))
def F_X5_look (No : rS) (Se : Nat → Int32) : Int32 × (Nat → Int32) := let1 (F_X5_is No) (fun r_1 => let4 (F_X5_look_L13 101 r_1 0 ((-1)) (nI 7) Se) (fun pl bs fw s1 => (bs, s1)))
set_option maxHeartbeats 4000000 in
set_option maxRecDepth 100000 in
theorem c_X5_look (l : Launch) (dC : Nat → ClassId) (dI : Nat → Nat → Nat) (x : Nat → Nat) (cI : ClassId) (sz : Nat) (X : xS) (No : rS) (Se : Nat → Int32) (pno : inB (Rus No) 18) : Met l yX5_look wsX5_look { frames := 4, cells := 0, slots := 0, locals := 84 } (xPc (dC, dI) vwCl (xT cI) ((xO x X) ++ (fO ((fun i => x (1 + i)))) ++ (rW ((fun i => x (7 + i))) cI 3 18 No) ++ ([(x 57, .inl (cI, 6, .inl Se))])) sz [.ref (x 0)]) (va_Qi (fun (r : Int32) (u : (Nat → Int32)) => F_X5_look No Se = (r, u)) (mB (dC, dI) vwCl (xT cI) (va_A ((xO x X) ++ (fO ((fun i => x (1 + i)))) ++ (rW ((fun i => x (7 + i))) cI 3 18 No) ++ ([(x 57, .inl (cI, 6, .inl Se))])) sz) (fun u => (xO x X) ++ (fO ((fun i => x (1 + i)))) ++ (rW ((fun i => x (7 + i))) cI 3 18 No) ++ ([(x 57, .inl (cI, 6, .inl u))]))) (va_A ((xO x X) ++ (fO ((fun i => x (1 + i)))) ++ (rW ((fun i => x (7 + i))) cI 3 18 No) ++ ([(x 57, .inl (cI, 6, .inl Se))])) sz)) 0 0 (va_A ((xO x X) ++ (fO ((fun i => x (1 + i)))) ++ (rW ((fun i => x (7 + i))) cI 3 18 No) ++ ([(x 57, .inl (cI, 6, .inl Se))])) sz) := by
  refine Met.ofW (cc := cX5_look) (maxL := 6) (ret := (some .int)) (by decide) rfl ?_
  intro p e s m args below meth c s₁ B hml hv
  obtain ⟨rfl, hsz, hP, hK, hD0, hN⟩ := hv
  have hx := B.exec
  have hb := B.bytes
  have hr := B.returns
  have hts := atoms_spec (ws := wsX5_look) B.pre
  have hown : s.vm.findClass RX5 = some m.cls := findClass_of_methodNamed B.named
  have hlocks := B.notSynchronized
  subst hsz
  have hD := hD0.self (sz := s.heap.size)
  generalize hAe : va_A ((xO x X) ++ (fO ((fun i => x (1 + i)))) ++ (rW ((fun i => x (7 + i))) cI 3 18 No) ++ ([(x 57, .inl (cI, 6, .inl Se))])) s.heap.size = A at hD ⊢
  have hA : ∀ q : Nat, s.heap.size ≤ q → A q := fun q h => by rw [← hAe]; exact Or.inr h
  have hS : va_S A s.heap s.heap [] := va_S.rf
  have hin5 : ∀ w ∈ wsX50, w ∈ wsX5_look := by decide +kernel
  have lk58 := hts (.fieldLink RX5 58 "PostRounders" "seen" "[I") (by decide +kernel)
  have hl := lv_entry ([.ref (x 0)]) (n := 6) (Nat.le_of_ble_eq_true rfl)
  rw [lg_entry_eq]
  generalize (lg_sl ([.ref (x 0)]) ++ List.replicate (6 - (lg_sl ([.ref (x 0)])).length) Slot.unset).toArray = ls at hl ⊢
  have hl : lv_has ls 6 [(0, .ref (x 0))] := hl
  obtain ⟨OUT, hO⟩ : ∃ z, z = F_X5_look No Se := ⟨_, rfl⟩
  have hF := hO
  unfold F_X5_look at hF
  have e_pno := tN_eq pno.1
  have b_pno := pno.2
  refine lv_aload_n hx hb dX5_look_0 rfl (lv_at hl 0 rfl) ?_
  refine qx_Vi (C := RX5) (As := []) (rest := []) (ci := 5) (k0 := 0) (wr := ([(x 57, .inl (cI, 6, .inl Se))])) (ws2 := fun u => (xO x X) ++ (fO ((fun i => x (1 + i)))) ++ (rW ((fun i => x (7 + i))) cI 3 18 No) ++ ([(x 57, .inl (cI, 6, .inl Se))])) [0, 1, 2, 3] [4] [1, 2, 3, 4, 0] ⟨hx, hb, hml, hown, hts⟩ (c_X5_is l dC dI x cI s.heap.size X No  (pno : inB (Rus No) 18)) (cwV 0 hts gX5_look_X5_is rfl rfl rfl (by decide +kernel) ⟨Nat.le_of_ble_eq_true rfl, Nat.le_of_ble_eq_true rfl⟩) (hK.sub [0] rfl) hK hP hD hS hA hN rfl rfl (by decide) (by decide) (by decide) (by decide) (fun _ => rfl) rfl rfl rfl rfl hl.1 rfl (Nat.le_of_ble_eq_true rfl) dX5_look_1 ⟨Nat.zero_le _, Nat.zero_le _⟩ (fun r_1 u_1 H locs hw_1 hP hD hS => ?_)
  have hP : va_P (dC, dI) vwCl ((xO x X) ++ (fO ((fun i => x (1 + i)))) ++ (rW ((fun i => x (7 + i))) cI 3 18 No) ++ ([(x 57, .inl (cI, 6, .inl Se))])) H := hP
  have hD : va_D A ((xO x X) ++ (fO ((fun i => x (1 + i)))) ++ (rW ((fun i => x (7 + i))) cI 3 18 No) ++ ([(x 57, .inl (cI, 6, .inl Se))])) := hD
  rw [hw_1, let1_mk r_1] at hF
  refine lv_istore_n (lv' := [(1, .int r_1), (0, .ref (x 0))]) hx hb dX5_look_4 rfl hl (by decide) rfl (fun ls hl => ?_)
  refine lv_iconst (v := (-1)) hx hb dX5_look_5 (by decide) ?_
  refine lv_istore_n (lv' := [(2, .int ((-1))), (1, .int r_1), (0, .ref (x 0))]) hx hb dX5_look_6 rfl hl (by decide) rfl (fun ls hl => ?_)
  refine lv_bipush (v := nI 7) hx hb dX5_look_7 (by decide) ?_
  refine lv_istore_n (lv' := [(3, .int (nI 7)), (2, .int ((-1))), (1, .int r_1), (0, .ref (x 0))]) hx hb dX5_look_9 rfl hl (by decide) rfl (fun ls hl => ?_)
  refine lv_iconst (v := nI 0) hx hb dX5_look_10 (by decide) ?_
  refine lv_istore (lv' := [(4, .int (nI 0)), (3, .int (nI 7)), (2, .int ((-1))), (1, .int r_1), (0, .ref (x 0))]) hx hb dX5_look_11 hl (by decide) rfl (fun ls hl => ?_)
  have L_13 : ∀ (n_13 : Nat) (pl : Nat) (bs : Int32) (fw : Int32) (s1 : Nat → Int32) (H : Heap) (locs : List Loc), pl ≤ 100 → 100 - pl < n_13 → va_P (dC, dI) vwCl ((xO x X) ++ (fO ((fun i => x (1 + i)))) ++ (rW ((fun i => x (7 + i))) cI 3 18 No) ++ ([(x 57, .inl (cI, 6, .inl s1))])) H → va_D A ((xO x X) ++ (fO ((fun i => x (1 + i)))) ++ (rW ((fun i => x (7 + i))) cI 3 18 No) ++ ([(x 57, .inl (cI, 6, .inl s1))])) → va_S A s.heap H locs → ∀ (ls : Array Slot), lv_has ls 6 [(4, .int (nI pl)), (3, .int fw), (2, .int bs), (1, .int r_1), (0, .ref (x 0))] → OUT = let4 (F_X5_look_L13 n_13 r_1 pl bs fw s1) (fun pl bs fw s1 => (bs, s1)) → W p l e (headSpec wsX5_look { frames := 4, cells := 0, slots := 0, locals := 84 }).room s m ([.ref (x 0)] : List Value).toArray below meth c H locs 0 0 (MQ below (va_Qi (fun (r : Int32) (u : (Nat → Int32)) => F_X5_look No Se = (r, u)) (mB (dC, dI) vwCl (xT cI) A (fun u => (xO x X) ++ (fO ((fun i => x (1 + i)))) ++ (rW ((fun i => x (7 + i))) cI 3 18 No) ++ ([(x 57, .inl (cI, 6, .inl u))]))) A) ([.ref (x 0)] : List Value).toArray s 0 0 A) (F0 m 13 ls []) := by
    intro n_13
    induction n_13 with
    | zero => intro pl bs fw s1 H locs i0 hmu; exact absurd hmu (Nat.not_lt_zero _)
    | succ n_13 ih_13 =>
      intro pl bs fw s1 H locs i0 hmu_13 hP hD hS ls hl hF
      rw [F_X5_look_L13] at hF
      refine lv_iload hx hb dX5_look_13 (lv_at hl 0 rfl) ?_
      refine lv_bipush (v := nI 100) hx hb dX5_look_15 (by decide) ?_
      refine qv_icmp_ge (tgt := 87) hx hb dX5_look_17 (by decide) (by omega) (by omega) (fun c_17 => ?_) (fun c_17 => ?_)
      · rw [if_pos c_17] at hF
        rw [let4_mk (pl : Nat) (bs : Int32) (fw : Int32) (s1 : Nat → Int32)] at hF
        refine lv_iload_n hx hb dX5_look_87 rfl (lv_at hl 2 rfl) ?_
        have hP9 : va_P (dC, dI) vwCl ((xO x X) ++ (fO ((fun i => x (1 + i)))) ++ (rW ((fun i => x (7 + i))) cI 3 18 No) ++ ([(x 57, .inl (cI, 6, .inl s1))])) H := hP
        exact W.iret (v := bs) hx hb hr (fun t ht hW => ⟨⟨_, (s1), rfl, hO.symm.trans hF, by rw [ht]; exact hP9, va_K.moved hW.alike hK, hD⟩, hS.F ht⟩) hS.2.2 dX5_look_88
      · rw [if_neg c_17] at hF
        refine lv_iload_n hx hb dX5_look_20 rfl (lv_at hl 3 rfl) ?_
        refine lv_if_eq (tgt := 87) hx hb dX5_look_21 (by decide) (fun c_21 => ?_) (fun c_21 => ?_)
        · rw [if_pos c_21] at hF
          rw [let4_mk (pl : Nat) (bs : Int32) (fw : Int32) (s1 : Nat → Int32)] at hF
          refine lv_iload_n hx hb dX5_look_87 rfl (lv_at hl 2 rfl) ?_
          have hP9 : va_P (dC, dI) vwCl ((xO x X) ++ (fO ((fun i => x (1 + i)))) ++ (rW ((fun i => x (7 + i))) cI 3 18 No) ++ ([(x 57, .inl (cI, 6, .inl s1))])) H := hP
          exact W.iret (v := bs) hx hb hr (fun t ht hW => ⟨⟨_, (s1), rfl, hO.symm.trans hF, by rw [ht]; exact hP9, va_K.moved hW.alike hK, hD⟩, hS.F ht⟩) hS.2.2 dX5_look_88
        · rw [if_neg c_21] at hF
          refine lv_iconst (v := nI 0) hx hb dX5_look_24 (by decide) ?_
          refine lv_istore (lv' := [(5, .int (nI 0)), (4, .int (nI pl)), (3, .int fw), (2, .int bs), (1, .int r_1), (0, .ref (x 0))]) hx hb dX5_look_25 hl (by decide) rfl (fun ls hl => ?_)
          have L_27 : ∀ (n_27 : Nat) (kd : Nat) (s2 : Nat → Int32) (H : Heap) (locs : List Loc), kd ≤ 6 → 6 - kd < n_27 → va_P (dC, dI) vwCl ((xO x X) ++ (fO ((fun i => x (1 + i)))) ++ (rW ((fun i => x (7 + i))) cI 3 18 No) ++ ([(x 57, .inl (cI, 6, .inl s2))])) H → va_D A ((xO x X) ++ (fO ((fun i => x (1 + i)))) ++ (rW ((fun i => x (7 + i))) cI 3 18 No) ++ ([(x 57, .inl (cI, 6, .inl s2))])) → va_S A s.heap H locs → ∀ (ls : Array Slot), lv_has ls 6 [(5, .int (nI kd)), (4, .int (nI pl)), (3, .int fw), (2, .int bs), (1, .int r_1), (0, .ref (x 0))] → OUT = let4 (let2 (F_X5_look_L27 n_27 pl kd s2) (fun kd s2 => let1 (F_X5_mostAlike s2 r_1) (fun r_64 => if fw ≤ r_64 then F_X5_look_L13 n_13 r_1 (pl + 1) bs fw s2 else F_X5_look_L13 n_13 r_1 (pl + 1) (nI pl) r_64 s2))) (fun pl bs fw s1 => (bs, s1)) → W p l e (headSpec wsX5_look { frames := 4, cells := 0, slots := 0, locals := 84 }).room s m ([.ref (x 0)] : List Value).toArray below meth c H locs 0 0 (MQ below (va_Qi (fun (r : Int32) (u : (Nat → Int32)) => F_X5_look No Se = (r, u)) (mB (dC, dI) vwCl (xT cI) A (fun u => (xO x X) ++ (fO ((fun i => x (1 + i)))) ++ (rW ((fun i => x (7 + i))) cI 3 18 No) ++ ([(x 57, .inl (cI, 6, .inl u))]))) A) ([.ref (x 0)] : List Value).toArray s 0 0 A) (F0 m 27 ls []) := by
            intro n_27
            induction n_27 with
            | zero => intro kd s2 H locs j0 hmu; exact absurd hmu (Nat.not_lt_zero _)
            | succ n_27 ih_27 =>
              intro kd s2 H locs j0 hmu_27 hP hD hS ls hl hF
              rw [F_X5_look_L27] at hF
              refine lv_iload hx hb dX5_look_27 (lv_at hl 0 rfl) ?_
              refine lv_bipush (v := nI 6) hx hb dX5_look_29 (by decide) ?_
              refine qv_icmp_ge (tgt := 62) hx hb dX5_look_31 (by decide) (by omega) (by omega) (fun c_31 => ?_) (fun c_31 => ?_)
              · rw [if_pos c_31] at hF
                rw [let2_mk (kd : Nat) (s2 : Nat → Int32)] at hF
                refine lv_aload_n hx hb dX5_look_62 rfl (lv_at hl 5 rfl) ?_
                refine lv_iload_n hx hb dX5_look_63 rfl (lv_at hl 4 rfl) ?_
                refine qx_Vi (C := RX5) (As := [.int r_1]) (rest := []) (ci := 5) (k0 := 0) (wr := (fO ((fun i => x (1 + i)))) ++ (rW ((fun i => x (7 + i))) cI 3 18 No)) (ws2 := fun u => (xO x X) ++ (fO ((fun i => x (1 + i)))) ++ (rW ((fun i => x (7 + i))) cI 3 18 No) ++ ([(x 57, .inl (cI, 6, .inl s2))])) [0, 4] [1, 2, 3] [3, 0, 1, 2, 4] ⟨hx, hb, hml, hown, hts⟩ (c_X5_mostAlike l dC dI x cI H.size X s2 r_1 ) (cwV 1 hts gX5_look_X5_mostAlike rfl rfl rfl (by decide +kernel) ⟨Nat.le_of_ble_eq_true rfl, Nat.le_of_ble_eq_true rfl⟩) (hK.sub [0] rfl) hK hP hD hS hA hN rfl rfl (by decide) (by decide) (by decide) (by decide) (fun _ => rfl) rfl rfl rfl rfl hl.1 rfl (Nat.le_of_ble_eq_true rfl) dX5_look_64 ⟨Nat.zero_le _, Nat.zero_le _⟩ (fun r_64 u_64 H locs hw_64 hP hD hS => ?_)
                have hP : va_P (dC, dI) vwCl ((xO x X) ++ (fO ((fun i => x (1 + i)))) ++ (rW ((fun i => x (7 + i))) cI 3 18 No) ++ ([(x 57, .inl (cI, 6, .inl s2))])) H := hP
                have hD : va_D A ((xO x X) ++ (fO ((fun i => x (1 + i)))) ++ (rW ((fun i => x (7 + i))) cI 3 18 No) ++ ([(x 57, .inl (cI, 6, .inl s2))])) := hD
                rw [hw_64, let1_mk r_64] at hF
                refine lv_istore (lv' := [(5, .int r_64), (4, .int (nI pl)), (3, .int fw), (2, .int bs), (1, .int r_1), (0, .ref (x 0))]) hx hb dX5_look_67 hl (by decide) rfl (fun ls hl => ?_)
                refine lv_iload hx hb dX5_look_69 (lv_at hl 0 rfl) ?_
                refine lv_iload_n hx hb dX5_look_71 rfl (lv_at hl 2 rfl) ?_
                refine lv_icmp_ge (tgt := 81) hx hb dX5_look_72 (by decide) (fun c_72 => ?_) (fun c_72 => ?_)
                · rw [if_pos c_72] at hF
                  refine lv_iinc (v := nI (pl + 1)) (lv' := [(4, .int (nI (pl + 1))), (5, .int r_64), (3, .int fw), (2, .int bs), (1, .int r_1), (0, .ref (x 0))]) hx hb dX5_look_81 hl (k := 1) rfl (qn_inc (c := 1) rfl (by omega)) (by decide) rfl (fun ls hl => ?_)
                  refine lv_goto (tgt := 13) hx hb dX5_look_84 (by decide) ?_
                  exact ih_13 (pl + 1) bs fw s2 H locs (by omega) (by omega) hP hD hS ls (lv_sub hl [0, 2, 3, 4, 5] rfl) hF
                · rw [if_neg c_72] at hF
                  refine lv_iload hx hb dX5_look_75 (lv_at hl 0 rfl) ?_
                  refine lv_istore_n (lv' := [(3, .int r_64), (5, .int r_64), (4, .int (nI pl)), (2, .int bs), (1, .int r_1), (0, .ref (x 0))]) hx hb dX5_look_77 rfl hl (by decide) rfl (fun ls hl => ?_)
                  refine lv_iload hx hb dX5_look_78 (lv_at hl 2 rfl) ?_
                  refine lv_istore_n (lv' := [(2, .int (nI pl)), (3, .int r_64), (5, .int r_64), (4, .int (nI pl)), (1, .int r_1), (0, .ref (x 0))]) hx hb dX5_look_80 rfl hl (by decide) rfl (fun ls hl => ?_)
                  refine lv_iinc (v := nI (pl + 1)) (lv' := [(4, .int (nI (pl + 1))), (2, .int (nI pl)), (3, .int r_64), (5, .int r_64), (1, .int r_1), (0, .ref (x 0))]) hx hb dX5_look_81 hl (k := 3) rfl (qn_inc (c := 1) rfl (by omega)) (by decide) rfl (fun ls hl => ?_)
                  refine lv_goto (tgt := 13) hx hb dX5_look_84 (by decide) ?_
                  exact ih_13 (pl + 1) (nI pl) r_64 s2 H locs (by omega) (by omega) hP hD hS ls (lv_sub hl [0, 2, 1, 4, 5] rfl) hF
              · rw [if_neg c_31] at hF
                refine lv_aload_n hx hb dX5_look_34 rfl (lv_at hl 5 rfl) ?_
                refine va_get (D := (dC, dI)) (ci := 5) (v := .ref (x 57)) (C := RX5) (T := TX5) (N := 14) hx hb hts hin5 hown hK hP 0 rfl rfl 12 (by decide) lk58 (fun _ h9 => h9) rfl dX5_look_35 ?_
                refine lv_iload hx hb dX5_look_38 (lv_at hl 0 rfl) ?_
                refine lv_iload hx hb dX5_look_40 (lv_at hl 0 rfl) ?_
                refine lv_iload hx hb dX5_look_42 (lv_at hl 1 rfl) ?_
                refine lv_bipush (v := nI 10) hx hb dX5_look_44 (by decide) ?_
                refine qv_irem hx hb dX5_look_46 (by omega) (by omega) (by omega) ?_
                refine lv_iload hx hb dX5_look_47 (lv_at hl 1 rfl) ?_
                refine lv_bipush (v := nI 10) hx hb dX5_look_49 (by decide) ?_
                refine qv_idiv hx hb dX5_look_51 (by omega) (by omega) (by omega) ?_
                refine qc_Si (As := [.int (nI kd), .int (nI ((pl % 10))), .int (nI ((pl / 10)))]) (rest := [.int (nI kd), .ref (x 57)]) ⟨hx, hb, hml, hown, hts⟩ (c_X5_hitWorth l (nI kd) (nI ((pl % 10))) (nI ((pl / 10)))) (va_cwS 3 hts gX5_look_X5_hitWorth rfl rfl rfl (by decide +kernel) ⟨Nat.le_of_ble_eq_true rfl, Nat.le_of_ble_eq_true rfl⟩) rfl hl.1 rfl (Nat.le_of_ble_eq_true rfl) dX5_look_52 ⟨Nat.zero_le _, Nat.zero_le _⟩ (fun r_52 hw_52 => ?_)
                subst hw_52
                refine qv_ast (ws' := (xO x X) ++ (fO ((fun i => x (1 + i)))) ++ (rW ((fun i => x (7 + i))) cI 3 18 No) ++ ([(x 57, .inl (cI, 6, .inl (upd s2 kd (F_X5_hitWorth (nI kd) (nI ((pl % 10))) (nI ((pl / 10)))))))])) hx hb hK hP hD hS 4 0 rfl rfl (by omega) (by decide) dX5_look_55 rfl (fun H locs hP hD hS => ?_)
                refine lv_iinc (v := nI (kd + 1)) (lv' := [(5, .int (nI (kd + 1))), (4, .int (nI pl)), (3, .int fw), (2, .int bs), (1, .int r_1), (0, .ref (x 0))]) hx hb dX5_look_56 hl (k := 0) rfl (qn_inc (c := 1) rfl (by omega)) (by decide) rfl (fun ls hl => ?_)
                refine lv_goto (tgt := 27) hx hb dX5_look_59 (by decide) ?_
                exact ih_27 (kd + 1) (upd s2 kd (F_X5_hitWorth (nI kd) (nI ((pl % 10))) (nI ((pl / 10))))) H locs (by omega) (by omega) hP hD hS ls (lv_sub hl [0, 1, 2, 3, 4, 5] rfl) hF
          exact L_27 7 0 s1 H locs (by omega) (by omega) hP hD hS ls (lv_sub hl [0, 1, 2, 3, 4, 5] rfl) hF
  exact L_13 101 0 ((-1)) (nI 7) Se H locs (by omega) (by omega) hP hD hS ls (lv_sub hl [0, 1, 2, 3, 4] rfl) hF
def F_X5_fitsMarks_L2 : Nat → (Int32) → (Int32) → (rS) → (Nat) → ((Nat)) ⊕ (Bool)
  | 0, _, _, _, j => .inl j
  | n_2 + 1, i, k, Ma, j => let1 (F_X4_size_v4 Ma) (fun r_10 => if (tN (Rus Ma) / 4) ≤ j then .inl j else let1 (F_X4_cell_v4 Ma j 1) (fun r_25 => let1 (F_X4_cell_v4 Ma j 2) (fun r_39 => let1 (F_X4_cell_v4 Ma j 0) (fun r_53 => if r_53 = i then let1 (F_X4_cell_v4 Ma j 3) (fun r_77 => if (F_X5_postsRun k r_25 r_39) = r_77 then F_X5_fitsMarks_L2 n_2 i k Ma (j + 1) else .inr false) else F_X5_fitsMarks_L2 n_2 i k Ma (j + 1)))))
def F_X5_fitsMarks (Ma : rS) (i : Int32) (k : Int32) : Bool := sel1 (F_X5_fitsMarks_L2 7 i k Ma 0) (fun j => true) (fun r => r)
set_option maxHeartbeats 4000000 in
set_option maxRecDepth 100000 in
theorem c_X5_fitsMarks (l : Launch) (dC : Nat → ClassId) (dI : Nat → Nat → Nat) (x : Nat → Nat) (cI : ClassId) (sz : Nat) (X : xS) (Ma : rS) (i : Int32) (k : Int32) (pma : inB (Rus Ma) 24) : Met l yX5_fitsMarks wsX5_fitsMarks { frames := 2, cells := 0, slots := 0, locals := 38 } (xPc (dC, dI) vwCl (xT cI) ((xO x X) ++ (fO ((fun i => x (1 + i)))) ++ (rW ((fun i => x (9 + i))) cI 4 24 Ma)) sz [.ref (x 0), .int i, .int k]) (va_Qi (fun (r : Int32) (u : Unit) => ∃ z : Bool, F_X5_fitsMarks Ma i k = z ∧ r = if z = true then 1 else 0) (mB (dC, dI) vwCl (xT cI) (va_A ((xO x X) ++ (fO ((fun i => x (1 + i)))) ++ (rW ((fun i => x (9 + i))) cI 4 24 Ma)) sz) (fun u => (xO x X) ++ (fO ((fun i => x (1 + i)))) ++ (rW ((fun i => x (9 + i))) cI 4 24 Ma))) (va_A ((xO x X) ++ (fO ((fun i => x (1 + i)))) ++ (rW ((fun i => x (9 + i))) cI 4 24 Ma)) sz)) 0 0 (va_A ((xO x X) ++ (fO ((fun i => x (1 + i)))) ++ (rW ((fun i => x (9 + i))) cI 4 24 Ma)) sz) := by
  refine Met.ofW (cc := cX5_fitsMarks) (maxL := 6) (ret := (some .boolean)) (by decide) rfl ?_
  intro p e s m args below meth c s₁ B hml hv
  obtain ⟨rfl, hsz, hP, hK, hD0, hN⟩ := hv
  have hx := B.exec
  have hb := B.bytes
  have hr := B.returns
  have hts := atoms_spec (ws := wsX5_fitsMarks) B.pre
  have hown : s.vm.findClass RX5 = some m.cls := findClass_of_methodNamed B.named
  have hlocks := B.notSynchronized
  subst hsz
  have hD := hD0.self (sz := s.heap.size)
  generalize hAe : va_A ((xO x X) ++ (fO ((fun i => x (1 + i)))) ++ (rW ((fun i => x (9 + i))) cI 4 24 Ma)) s.heap.size = A at hD ⊢
  have hA : ∀ q : Nat, s.heap.size ≤ q → A q := fun q h => by rw [← hAe]; exact Or.inr h
  have hS : va_S A s.heap s.heap [] := va_S.rf
  have hin1 : ∀ w ∈ wsX10, w ∈ wsX5_fitsMarks := by decide +kernel
  have hin5 : ∀ w ∈ wsX50, w ∈ wsX5_fitsMarks := by decide +kernel
  have lk12 := hts (.fieldLink RX5 12 "PostRounders" "now" "LPostRounders$Field;") (by decide +kernel)
  have lk204 := hts (.fieldLink RX5 204 "PostRounders$Field" "marks" "LPostRounders$Rows;") (by decide +kernel)
  have hl := lv_entry ([.ref (x 0), .int i, .int k]) (n := 6) (Nat.le_of_ble_eq_true rfl)
  rw [lg_entry_eq]
  generalize (lg_sl ([.ref (x 0), .int i, .int k]) ++ List.replicate (6 - (lg_sl ([.ref (x 0), .int i, .int k])).length) Slot.unset).toArray = ls at hl ⊢
  have hl : lv_has ls 6 [(0, .ref (x 0)), (1, .int i), (2, .int k)] := hl
  obtain ⟨OUT, hO⟩ : ∃ z, z = F_X5_fitsMarks Ma i k := ⟨_, rfl⟩
  have hF := hO
  unfold F_X5_fitsMarks at hF
  have e_pma := tN_eq pma.1
  have b_pma := pma.2
  refine lv_iconst (v := nI 0) hx hb dX5_fitsMarks_0 (by decide) ?_
  refine lv_istore_n (lv' := [(3, .int (nI 0)), (0, .ref (x 0)), (1, .int i), (2, .int k)]) hx hb dX5_fitsMarks_1 rfl hl (by decide) rfl (fun ls hl => ?_)
  have L_2 : ∀ (n_2 : Nat) (j : Nat) (H : Heap) (locs : List Loc), j ≤ tN (Rus Ma) / 4 → tN (Rus Ma) / 4 - j < n_2 → va_P (dC, dI) vwCl ((xO x X) ++ (fO ((fun i => x (1 + i)))) ++ (rW ((fun i => x (9 + i))) cI 4 24 Ma)) H → va_D A ((xO x X) ++ (fO ((fun i => x (1 + i)))) ++ (rW ((fun i => x (9 + i))) cI 4 24 Ma)) → va_S A s.heap H locs → ∀ (ls : Array Slot), lv_has ls 6 [(3, .int (nI j)), (0, .ref (x 0)), (1, .int i), (2, .int k)] → OUT = sel1 (F_X5_fitsMarks_L2 n_2 i k Ma j) (fun j => true) (fun r => r) → W p l e (headSpec wsX5_fitsMarks { frames := 2, cells := 0, slots := 0, locals := 38 }).room s m ([.ref (x 0), .int i, .int k] : List Value).toArray below meth c H locs 0 0 (MQ below (va_Qi (fun (r : Int32) (u : Unit) => ∃ z : Bool, F_X5_fitsMarks Ma i k = z ∧ r = if z = true then 1 else 0) (mB (dC, dI) vwCl (xT cI) A (fun u => (xO x X) ++ (fO ((fun i => x (1 + i)))) ++ (rW ((fun i => x (9 + i))) cI 4 24 Ma))) A) ([.ref (x 0), .int i, .int k] : List Value).toArray s 0 0 A) (F0 m 2 ls []) := by
    intro n_2
    induction n_2 with
    | zero => intro j H locs i0 hmu; exact absurd hmu (Nat.not_lt_zero _)
    | succ n_2 ih_2 =>
      intro j H locs i0 hmu_2 hP hD hS ls hl hF
      rw [F_X5_fitsMarks_L2] at hF
      refine lv_iload_n hx hb dX5_fitsMarks_2 rfl (lv_at hl 0 rfl) ?_
      refine lv_aload_n hx hb dX5_fitsMarks_3 rfl (lv_at hl 1 rfl) ?_
      refine va_get (D := (dC, dI)) (ci := 5) (v := .ref (x 1)) (C := RX5) (T := TX5) (N := 14) hx hb hts hin5 hown hK hP 0 rfl rfl 0 (by decide) lk12 (fun _ h9 => h9) rfl dX5_fitsMarks_4 ?_
      refine va_get (D := (dC, dI)) (ci := 1) (v := .ref (x 9)) (C := RX1) (T := TX1) (N := 5) hx hb hts hin1 hown hK hP 1 rfl rfl 3 (by decide) lk204 (fun _ h9 => h9) rfl dX5_fitsMarks_7 ?_
      refine qx_Vi (C := RX4) (As := []) (rest := [.int (nI j)]) (ci := 4) (k0 := 2) (wr := (xO x X) ++ (fO ((fun i => x (1 + i))))) (ws2 := fun u => (xO x X) ++ (fO ((fun i => x (1 + i)))) ++ (rW ((fun i => x (9 + i))) cI 4 24 Ma)) [2, 3] [0, 1] [0, 1, 2, 3] ⟨hx, hb, hml, hown, hts⟩ (c_X4_size_v4 l dC dI (fun i => x (9 + i)) cI H.size Ma  (pma : inB (Rus Ma) 24)) (cwV 0 hts gX5_fitsMarks_X4_size rfl rfl rfl (by decide +kernel) ⟨Nat.le_of_ble_eq_true rfl, Nat.le_of_ble_eq_true rfl⟩) (hK.sub [0] rfl) hK hP hD hS hA hN rfl rfl (by decide) (by decide) (by decide) (by decide) (fun _ => rfl) rfl rfl rfl rfl hl.1 rfl (Nat.le_of_ble_eq_true rfl) dX5_fitsMarks_10 ⟨Nat.zero_le _, Nat.zero_le _⟩ (fun r_10 u_10 H locs hw_10 hP hD hS => ?_)
      have hP : va_P (dC, dI) vwCl ((xO x X) ++ (fO ((fun i => x (1 + i)))) ++ (rW ((fun i => x (9 + i))) cI 4 24 Ma)) H := hP
      have hD : va_D A ((xO x X) ++ (fO ((fun i => x (1 + i)))) ++ (rW ((fun i => x (9 + i))) cI 4 24 Ma)) := hD
      have e_10 : r_10 = nI (tN (Rus Ma) / 4) := hw_10.symm
      refine qv_top (e_10) ?_
      rw [hw_10, let1_mk r_10] at hF
      refine qv_icmp_ge (tgt := 91) hx hb dX5_fitsMarks_13 (by decide) (by omega) (by omega) (fun c_13 => ?_) (fun c_13 => ?_)
      · rw [if_pos c_13] at hF
        rw [sel1_inl (j : Nat)] at hF
        refine lv_iconst (v := nI 1) hx hb dX5_fitsMarks_91 (by decide) ?_
        have hP9 : va_P (dC, dI) vwCl ((xO x X) ++ (fO ((fun i => x (1 + i)))) ++ (rW ((fun i => x (9 + i))) cI 4 24 Ma)) H := hP
        exact W.zret (v := nI 1) hx hb hr (by rfl) (fun t ht hW => ⟨⟨_, (()), rfl, ⟨true, hO.symm.trans hF, rfl⟩, by rw [ht]; exact hP9, va_K.moved hW.alike hK, hD⟩, hS.F ht⟩) hS.2.2 dX5_fitsMarks_92
      · rw [if_neg c_13] at hF
        refine lv_aload_n hx hb dX5_fitsMarks_16 rfl (lv_at hl 1 rfl) ?_
        refine va_get (D := (dC, dI)) (ci := 5) (v := .ref (x 1)) (C := RX5) (T := TX5) (N := 14) hx hb hts hin5 hown hK hP 0 rfl rfl 0 (by decide) lk12 (fun _ h9 => h9) rfl dX5_fitsMarks_17 ?_
        refine va_get (D := (dC, dI)) (ci := 1) (v := .ref (x 9)) (C := RX1) (T := TX1) (N := 5) hx hb hts hin1 hown hK hP 1 rfl rfl 3 (by decide) lk204 (fun _ h9 => h9) rfl dX5_fitsMarks_20 ?_
        refine lv_iload_n hx hb dX5_fitsMarks_23 rfl (lv_at hl 0 rfl) ?_
        refine lv_iconst (v := nI 1) hx hb dX5_fitsMarks_24 (by decide) ?_
        refine qx_Vi (C := RX4) (As := [.int (nI j), .int (nI 1)]) (rest := []) (ci := 4) (k0 := 2) (wr := (xO x X) ++ (fO ((fun i => x (1 + i))))) (ws2 := fun u => (xO x X) ++ (fO ((fun i => x (1 + i)))) ++ (rW ((fun i => x (9 + i))) cI 4 24 Ma)) [2, 3] [0, 1] [0, 1, 2, 3] ⟨hx, hb, hml, hown, hts⟩ (c_X4_cell_v4 l dC dI (fun i => x (9 + i)) cI H.size Ma j 1 (pma : inB (Rus Ma) 24) (by omega) (by omega)) (cwV 2 hts gX5_fitsMarks_X4_cell rfl rfl rfl (by decide +kernel) ⟨Nat.le_of_ble_eq_true rfl, Nat.le_of_ble_eq_true rfl⟩) (hK.sub [0] rfl) hK hP hD hS hA hN rfl rfl (by decide) (by decide) (by decide) (by decide) (fun _ => rfl) rfl rfl rfl rfl hl.1 rfl (Nat.le_of_ble_eq_true rfl) dX5_fitsMarks_25 ⟨Nat.zero_le _, Nat.zero_le _⟩ (fun r_25 u_25 H locs hw_25 hP hD hS => ?_)
        have hP : va_P (dC, dI) vwCl ((xO x X) ++ (fO ((fun i => x (1 + i)))) ++ (rW ((fun i => x (9 + i))) cI 4 24 Ma)) H := hP
        have hD : va_D A ((xO x X) ++ (fO ((fun i => x (1 + i)))) ++ (rW ((fun i => x (9 + i))) cI 4 24 Ma)) := hD
        rw [hw_25, let1_mk r_25] at hF
        refine lv_istore (lv' := [(4, .int r_25), (3, .int (nI j)), (0, .ref (x 0)), (1, .int i), (2, .int k)]) hx hb dX5_fitsMarks_28 hl (by decide) rfl (fun ls hl => ?_)
        refine lv_aload_n hx hb dX5_fitsMarks_30 rfl (lv_at hl 2 rfl) ?_
        refine va_get (D := (dC, dI)) (ci := 5) (v := .ref (x 1)) (C := RX5) (T := TX5) (N := 14) hx hb hts hin5 hown hK hP 0 rfl rfl 0 (by decide) lk12 (fun _ h9 => h9) rfl dX5_fitsMarks_31 ?_
        refine va_get (D := (dC, dI)) (ci := 1) (v := .ref (x 9)) (C := RX1) (T := TX1) (N := 5) hx hb hts hin1 hown hK hP 1 rfl rfl 3 (by decide) lk204 (fun _ h9 => h9) rfl dX5_fitsMarks_34 ?_
        refine lv_iload_n hx hb dX5_fitsMarks_37 rfl (lv_at hl 1 rfl) ?_
        refine lv_iconst (v := nI 2) hx hb dX5_fitsMarks_38 (by decide) ?_
        refine qx_Vi (C := RX4) (As := [.int (nI j), .int (nI 2)]) (rest := []) (ci := 4) (k0 := 2) (wr := (xO x X) ++ (fO ((fun i => x (1 + i))))) (ws2 := fun u => (xO x X) ++ (fO ((fun i => x (1 + i)))) ++ (rW ((fun i => x (9 + i))) cI 4 24 Ma)) [2, 3] [0, 1] [0, 1, 2, 3] ⟨hx, hb, hml, hown, hts⟩ (c_X4_cell_v4 l dC dI (fun i => x (9 + i)) cI H.size Ma j 2 (pma : inB (Rus Ma) 24) (by omega) (by omega)) (cwV 2 hts gX5_fitsMarks_X4_cell rfl rfl rfl (by decide +kernel) ⟨Nat.le_of_ble_eq_true rfl, Nat.le_of_ble_eq_true rfl⟩) (hK.sub [0] rfl) hK hP hD hS hA hN rfl rfl (by decide) (by decide) (by decide) (by decide) (fun _ => rfl) rfl rfl rfl rfl hl.1 rfl (Nat.le_of_ble_eq_true rfl) dX5_fitsMarks_39 ⟨Nat.zero_le _, Nat.zero_le _⟩ (fun r_39 u_39 H locs hw_39 hP hD hS => ?_)
        have hP : va_P (dC, dI) vwCl ((xO x X) ++ (fO ((fun i => x (1 + i)))) ++ (rW ((fun i => x (9 + i))) cI 4 24 Ma)) H := hP
        have hD : va_D A ((xO x X) ++ (fO ((fun i => x (1 + i)))) ++ (rW ((fun i => x (9 + i))) cI 4 24 Ma)) := hD
        rw [hw_39, let1_mk r_39] at hF
        refine lv_istore (lv' := [(5, .int r_39), (4, .int r_25), (3, .int (nI j)), (0, .ref (x 0)), (1, .int i), (2, .int k)]) hx hb dX5_fitsMarks_42 hl (by decide) rfl (fun ls hl => ?_)
        refine lv_aload_n hx hb dX5_fitsMarks_44 rfl (lv_at hl 3 rfl) ?_
        refine va_get (D := (dC, dI)) (ci := 5) (v := .ref (x 1)) (C := RX5) (T := TX5) (N := 14) hx hb hts hin5 hown hK hP 0 rfl rfl 0 (by decide) lk12 (fun _ h9 => h9) rfl dX5_fitsMarks_45 ?_
        refine va_get (D := (dC, dI)) (ci := 1) (v := .ref (x 9)) (C := RX1) (T := TX1) (N := 5) hx hb hts hin1 hown hK hP 1 rfl rfl 3 (by decide) lk204 (fun _ h9 => h9) rfl dX5_fitsMarks_48 ?_
        refine lv_iload_n hx hb dX5_fitsMarks_51 rfl (lv_at hl 2 rfl) ?_
        refine lv_iconst (v := nI 0) hx hb dX5_fitsMarks_52 (by decide) ?_
        refine qx_Vi (C := RX4) (As := [.int (nI j), .int (nI 0)]) (rest := []) (ci := 4) (k0 := 2) (wr := (xO x X) ++ (fO ((fun i => x (1 + i))))) (ws2 := fun u => (xO x X) ++ (fO ((fun i => x (1 + i)))) ++ (rW ((fun i => x (9 + i))) cI 4 24 Ma)) [2, 3] [0, 1] [0, 1, 2, 3] ⟨hx, hb, hml, hown, hts⟩ (c_X4_cell_v4 l dC dI (fun i => x (9 + i)) cI H.size Ma j 0 (pma : inB (Rus Ma) 24) (by omega) (by omega)) (cwV 2 hts gX5_fitsMarks_X4_cell rfl rfl rfl (by decide +kernel) ⟨Nat.le_of_ble_eq_true rfl, Nat.le_of_ble_eq_true rfl⟩) (hK.sub [0] rfl) hK hP hD hS hA hN rfl rfl (by decide) (by decide) (by decide) (by decide) (fun _ => rfl) rfl rfl rfl rfl hl.1 rfl (Nat.le_of_ble_eq_true rfl) dX5_fitsMarks_53 ⟨Nat.zero_le _, Nat.zero_le _⟩ (fun r_53 u_53 H locs hw_53 hP hD hS => ?_)
        have hP : va_P (dC, dI) vwCl ((xO x X) ++ (fO ((fun i => x (1 + i)))) ++ (rW ((fun i => x (9 + i))) cI 4 24 Ma)) H := hP
        have hD : va_D A ((xO x X) ++ (fO ((fun i => x (1 + i)))) ++ (rW ((fun i => x (9 + i))) cI 4 24 Ma)) := hD
        rw [hw_53, let1_mk r_53] at hF
        refine lv_iload_n hx hb dX5_fitsMarks_56 rfl (lv_at hl 4 rfl) ?_
        refine lv_icmp_ne (tgt := 85) hx hb dX5_fitsMarks_57 (by decide) (fun c_57 => ?_) (fun c_57 => ?_)
        · rw [if_neg c_57] at hF
          refine lv_iinc (v := nI (j + 1)) (lv' := [(3, .int (nI (j + 1))), (5, .int r_39), (4, .int r_25), (0, .ref (x 0)), (1, .int i), (2, .int k)]) hx hb dX5_fitsMarks_85 hl (k := 2) rfl (qn_inc (c := 1) rfl (by omega)) (by decide) rfl (fun ls hl => ?_)
          refine lv_goto (tgt := 2) hx hb dX5_fitsMarks_88 (by decide) ?_
          exact ih_2 (j + 1) H locs (by omega) (by omega) hP hD hS ls (lv_sub hl [0, 3, 4, 5] rfl) hF
        · rw [if_pos c_57] at hF
          refine lv_iload_n hx hb dX5_fitsMarks_60 rfl (lv_at hl 5 rfl) ?_
          refine lv_iload hx hb dX5_fitsMarks_61 (lv_at hl 1 rfl) ?_
          refine lv_iload hx hb dX5_fitsMarks_63 (lv_at hl 0 rfl) ?_
          refine qc_Si (As := [.int k, .int r_25, .int r_39]) (rest := []) ⟨hx, hb, hml, hown, hts⟩ (c_X5_postsRun l k r_25 r_39) (va_cwS 3 hts gX5_fitsMarks_X5_postsRun rfl rfl rfl (by decide +kernel) ⟨Nat.le_of_ble_eq_true rfl, Nat.le_of_ble_eq_true rfl⟩) rfl hl.1 rfl (Nat.le_of_ble_eq_true rfl) dX5_fitsMarks_65 ⟨Nat.zero_le _, Nat.zero_le _⟩ (fun r_65 hw_65 => ?_)
          subst hw_65
          refine lv_aload_n hx hb dX5_fitsMarks_68 rfl (lv_at hl 3 rfl) ?_
          refine va_get (D := (dC, dI)) (ci := 5) (v := .ref (x 1)) (C := RX5) (T := TX5) (N := 14) hx hb hts hin5 hown hK hP 0 rfl rfl 0 (by decide) lk12 (fun _ h9 => h9) rfl dX5_fitsMarks_69 ?_
          refine va_get (D := (dC, dI)) (ci := 1) (v := .ref (x 9)) (C := RX1) (T := TX1) (N := 5) hx hb hts hin1 hown hK hP 1 rfl rfl 3 (by decide) lk204 (fun _ h9 => h9) rfl dX5_fitsMarks_72 ?_
          refine lv_iload_n hx hb dX5_fitsMarks_75 rfl (lv_at hl 2 rfl) ?_
          refine lv_iconst (v := nI 3) hx hb dX5_fitsMarks_76 (by decide) ?_
          refine qx_Vi (C := RX4) (As := [.int (nI j), .int (nI 3)]) (rest := [.int (F_X5_postsRun k r_25 r_39)]) (ci := 4) (k0 := 2) (wr := (xO x X) ++ (fO ((fun i => x (1 + i))))) (ws2 := fun u => (xO x X) ++ (fO ((fun i => x (1 + i)))) ++ (rW ((fun i => x (9 + i))) cI 4 24 Ma)) [2, 3] [0, 1] [0, 1, 2, 3] ⟨hx, hb, hml, hown, hts⟩ (c_X4_cell_v4 l dC dI (fun i => x (9 + i)) cI H.size Ma j 3 (pma : inB (Rus Ma) 24) (by omega) (by omega)) (cwV 2 hts gX5_fitsMarks_X4_cell rfl rfl rfl (by decide +kernel) ⟨Nat.le_of_ble_eq_true rfl, Nat.le_of_ble_eq_true rfl⟩) (hK.sub [0] rfl) hK hP hD hS hA hN rfl rfl (by decide) (by decide) (by decide) (by decide) (fun _ => rfl) rfl rfl rfl rfl hl.1 rfl (Nat.le_of_ble_eq_true rfl) dX5_fitsMarks_77 ⟨Nat.zero_le _, Nat.zero_le _⟩ (fun r_77 u_77 H locs hw_77 hP hD hS => ?_)
          have hP : va_P (dC, dI) vwCl ((xO x X) ++ (fO ((fun i => x (1 + i)))) ++ (rW ((fun i => x (9 + i))) cI 4 24 Ma)) H := hP
          have hD : va_D A ((xO x X) ++ (fO ((fun i => x (1 + i)))) ++ (rW ((fun i => x (9 + i))) cI 4 24 Ma)) := hD
          rw [hw_77, let1_mk r_77] at hF
          refine lv_icmp_eq (tgt := 85) hx hb dX5_fitsMarks_80 (by decide) (fun c_80 => ?_) (fun c_80 => ?_)
          · rw [if_pos c_80] at hF
            refine lv_iinc (v := nI (j + 1)) (lv' := [(3, .int (nI (j + 1))), (5, .int r_39), (4, .int r_25), (0, .ref (x 0)), (1, .int i), (2, .int k)]) hx hb dX5_fitsMarks_85 hl (k := 2) rfl (qn_inc (c := 1) rfl (by omega)) (by decide) rfl (fun ls hl => ?_)
            refine lv_goto (tgt := 2) hx hb dX5_fitsMarks_88 (by decide) ?_
            exact ih_2 (j + 1) H locs (by omega) (by omega) hP hD hS ls (lv_sub hl [0, 3, 4, 5] rfl) hF
          · rw [if_neg c_80] at hF
            refine lv_iconst (v := nI 0) hx hb dX5_fitsMarks_83 (by decide) ?_
            rw [sel1_inr] at hF
            have hP9 : va_P (dC, dI) vwCl ((xO x X) ++ (fO ((fun i => x (1 + i)))) ++ (rW ((fun i => x (9 + i))) cI 4 24 Ma)) H := hP
            exact W.zret (v := nI 0) hx hb hr (by rfl) (fun t ht hW => ⟨⟨_, (()), rfl, ⟨false, hO.symm.trans hF, rfl⟩, by rw [ht]; exact hP9, va_K.moved hW.alike hK, hD⟩, hS.F ht⟩) hS.2.2 dX5_fitsMarks_84
  exact L_2 7 0 s.heap [] (by omega) (by omega) hP hD hS ls (lv_sub hl [0, 1, 2, 3] rfl) hF
def F_X5_battersThatFit_L4 : Nat → (Int32) → (rS) → (Nat) → (Int32) → (Nat) × (Int32)
  | 0, _, _, kd, bi => (kd, bi)
  | n_4 + 1, i, Ma, kd, bi => if 6 ≤ kd then (kd, bi) else let1 (F_X5_fitsMarks Ma i (nI kd)) (fun z_13 => if z_13 = true then F_X5_battersThatFit_L4 n_4 i Ma (kd + 1) (bi ||| ((nI 1) <<< ((nI kd) &&& 31))) else F_X5_battersThatFit_L4 n_4 i Ma (kd + 1) bi)
def F_X5_battersThatFit (Ma : rS) (i : Int32) : Int32 := let2 (F_X5_battersThatFit_L4 7 i Ma 0 (nI 0)) (fun kd bi => bi)
set_option maxHeartbeats 4000000 in
set_option maxRecDepth 100000 in
theorem c_X5_battersThatFit (l : Launch) (dC : Nat → ClassId) (dI : Nat → Nat → Nat) (x : Nat → Nat) (cI : ClassId) (sz : Nat) (X : xS) (Ma : rS) (i : Int32) (pma : inB (Rus Ma) 24) : Met l yX5_battersThatFit wsX5_battersThatFit { frames := 3, cells := 0, slots := 0, locals := 63 } (xPc (dC, dI) vwCl (xT cI) ((xO x X) ++ (fO ((fun i => x (1 + i)))) ++ (rW ((fun i => x (9 + i))) cI 4 24 Ma)) sz [.ref (x 0), .int i]) (va_Qi (fun (r : Int32) (u : Unit) => F_X5_battersThatFit Ma i = r) (mB (dC, dI) vwCl (xT cI) (va_A ((xO x X) ++ (fO ((fun i => x (1 + i)))) ++ (rW ((fun i => x (9 + i))) cI 4 24 Ma)) sz) (fun u => (xO x X) ++ (fO ((fun i => x (1 + i)))) ++ (rW ((fun i => x (9 + i))) cI 4 24 Ma))) (va_A ((xO x X) ++ (fO ((fun i => x (1 + i)))) ++ (rW ((fun i => x (9 + i))) cI 4 24 Ma)) sz)) 0 0 (va_A ((xO x X) ++ (fO ((fun i => x (1 + i)))) ++ (rW ((fun i => x (9 + i))) cI 4 24 Ma)) sz) := by
  refine Met.ofW (cc := cX5_battersThatFit) (maxL := 4) (ret := (some .int)) (by decide) rfl ?_
  intro p e s m args below meth c s₁ B hml hv
  obtain ⟨rfl, hsz, hP, hK, hD0, hN⟩ := hv
  have hx := B.exec
  have hb := B.bytes
  have hr := B.returns
  have hts := atoms_spec (ws := wsX5_battersThatFit) B.pre
  have hown : s.vm.findClass RX5 = some m.cls := findClass_of_methodNamed B.named
  have hlocks := B.notSynchronized
  subst hsz
  have hD := hD0.self (sz := s.heap.size)
  generalize hAe : va_A ((xO x X) ++ (fO ((fun i => x (1 + i)))) ++ (rW ((fun i => x (9 + i))) cI 4 24 Ma)) s.heap.size = A at hD ⊢
  have hA : ∀ q : Nat, s.heap.size ≤ q → A q := fun q h => by rw [← hAe]; exact Or.inr h
  have hS : va_S A s.heap s.heap [] := va_S.rf
  have hl := lv_entry ([.ref (x 0), .int i]) (n := 4) (Nat.le_of_ble_eq_true rfl)
  rw [lg_entry_eq]
  generalize (lg_sl ([.ref (x 0), .int i]) ++ List.replicate (4 - (lg_sl ([.ref (x 0), .int i])).length) Slot.unset).toArray = ls at hl ⊢
  have hl : lv_has ls 4 [(0, .ref (x 0)), (1, .int i)] := hl
  obtain ⟨OUT, hO⟩ : ∃ z, z = F_X5_battersThatFit Ma i := ⟨_, rfl⟩
  have hF := hO
  unfold F_X5_battersThatFit at hF
  have e_pma := tN_eq pma.1
  have b_pma := pma.2
  refine lv_iconst (v := nI 0) hx hb dX5_battersThatFit_0 (by decide) ?_
  refine lv_istore_n (lv' := [(2, .int (nI 0)), (0, .ref (x 0)), (1, .int i)]) hx hb dX5_battersThatFit_1 rfl hl (by decide) rfl (fun ls hl => ?_)
  refine lv_iconst (v := nI 0) hx hb dX5_battersThatFit_2 (by decide) ?_
  refine lv_istore_n (lv' := [(3, .int (nI 0)), (2, .int (nI 0)), (0, .ref (x 0)), (1, .int i)]) hx hb dX5_battersThatFit_3 rfl hl (by decide) rfl (fun ls hl => ?_)
  have L_4 : ∀ (n_4 : Nat) (kd : Nat) (bi : Int32) (H : Heap) (locs : List Loc), kd ≤ 6 → 6 - kd < n_4 → va_P (dC, dI) vwCl ((xO x X) ++ (fO ((fun i => x (1 + i)))) ++ (rW ((fun i => x (9 + i))) cI 4 24 Ma)) H → va_D A ((xO x X) ++ (fO ((fun i => x (1 + i)))) ++ (rW ((fun i => x (9 + i))) cI 4 24 Ma)) → va_S A s.heap H locs → ∀ (ls : Array Slot), lv_has ls 4 [(3, .int (nI kd)), (2, .int bi), (0, .ref (x 0)), (1, .int i)] → OUT = let2 (F_X5_battersThatFit_L4 n_4 i Ma kd bi) (fun kd bi => bi) → W p l e (headSpec wsX5_battersThatFit { frames := 3, cells := 0, slots := 0, locals := 63 }).room s m ([.ref (x 0), .int i] : List Value).toArray below meth c H locs 0 0 (MQ below (va_Qi (fun (r : Int32) (u : Unit) => F_X5_battersThatFit Ma i = r) (mB (dC, dI) vwCl (xT cI) A (fun u => (xO x X) ++ (fO ((fun i => x (1 + i)))) ++ (rW ((fun i => x (9 + i))) cI 4 24 Ma))) A) ([.ref (x 0), .int i] : List Value).toArray s 0 0 A) (F0 m 4 ls []) := by
    intro n_4
    induction n_4 with
    | zero => intro kd bi H locs i0 hmu; exact absurd hmu (Nat.not_lt_zero _)
    | succ n_4 ih_4 =>
      intro kd bi H locs i0 hmu_4 hP hD hS ls hl hF
      rw [F_X5_battersThatFit_L4] at hF
      refine lv_iload_n hx hb dX5_battersThatFit_4 rfl (lv_at hl 0 rfl) ?_
      refine lv_bipush (v := nI 6) hx hb dX5_battersThatFit_5 (by decide) ?_
      refine qv_icmp_ge (tgt := 31) hx hb dX5_battersThatFit_7 (by decide) (by omega) (by omega) (fun c_7 => ?_) (fun c_7 => ?_)
      · rw [if_pos c_7] at hF
        rw [let2_mk (kd : Nat) (bi : Int32)] at hF
        refine lv_iload_n hx hb dX5_battersThatFit_31 rfl (lv_at hl 1 rfl) ?_
        have hP9 : va_P (dC, dI) vwCl ((xO x X) ++ (fO ((fun i => x (1 + i)))) ++ (rW ((fun i => x (9 + i))) cI 4 24 Ma)) H := hP
        exact W.iret (v := bi) hx hb hr (fun t ht hW => ⟨⟨_, (()), rfl, hO.symm.trans hF, by rw [ht]; exact hP9, va_K.moved hW.alike hK, hD⟩, hS.F ht⟩) hS.2.2 dX5_battersThatFit_32
      · rw [if_neg c_7] at hF
        refine lv_aload_n hx hb dX5_battersThatFit_10 rfl (lv_at hl 2 rfl) ?_
        refine lv_iload_n hx hb dX5_battersThatFit_11 rfl (lv_at hl 3 rfl) ?_
        refine lv_iload_n hx hb dX5_battersThatFit_12 rfl (lv_at hl 0 rfl) ?_
        refine qx_Vi (C := RX5) (As := [.int i, .int (nI kd)]) (rest := []) (ci := 5) (k0 := 0) (wr := []) (ws2 := fun u => (xO x X) ++ (fO ((fun i => x (1 + i)))) ++ (rW ((fun i => x (9 + i))) cI 4 24 Ma)) [0, 1, 2, 3] [] [0, 1, 2, 3] ⟨hx, hb, hml, hown, hts⟩ (c_X5_fitsMarks l dC dI x cI H.size X Ma i (nI kd) (pma : inB (Rus Ma) 24)) (cwV 2 hts gX5_battersThatFit_X5_fitsMarks rfl rfl rfl (by decide +kernel) ⟨Nat.le_of_ble_eq_true rfl, Nat.le_of_ble_eq_true rfl⟩) (hK.sub [0] rfl) hK hP hD hS hA hN rfl rfl (by decide) (by decide) (by decide) (by decide) (fun _ => rfl) rfl rfl rfl rfl hl.1 rfl (Nat.le_of_ble_eq_true rfl) dX5_battersThatFit_13 ⟨Nat.zero_le _, Nat.zero_le _⟩ (fun r_13 u_13 H locs hw_13 hP hD hS => ?_)
        have hP : va_P (dC, dI) vwCl ((xO x X) ++ (fO ((fun i => x (1 + i)))) ++ (rW ((fun i => x (9 + i))) cI 4 24 Ma)) H := hP
        have hD : va_D A ((xO x X) ++ (fO ((fun i => x (1 + i)))) ++ (rW ((fun i => x (9 + i))) cI 4 24 Ma)) := hD
        obtain ⟨z_13, hw_13, rfl⟩ := hw_13
        rw [hw_13, let1_mk z_13] at hF
        refine qv_zif_eq (tgt := 25) hx hb dX5_battersThatFit_16 (by decide) (fun c_16 => ?_) (fun c_16 => ?_)
        · rw [if_neg c_16] at hF
          refine lv_iinc (v := nI (kd + 1)) (lv' := [(3, .int (nI (kd + 1))), (2, .int bi), (0, .ref (x 0)), (1, .int i)]) hx hb dX5_battersThatFit_25 hl (k := 0) rfl (qn_inc (c := 1) rfl (by omega)) (by decide) rfl (fun ls hl => ?_)
          refine lv_goto (tgt := 4) hx hb dX5_battersThatFit_28 (by decide) ?_
          exact ih_4 (kd + 1) bi H locs (by omega) (by omega) hP hD hS ls (lv_sub hl [0, 1, 2, 3] rfl) hF
        · rw [if_pos c_16] at hF
          refine lv_iload_n hx hb dX5_battersThatFit_19 rfl (lv_at hl 1 rfl) ?_
          refine lv_iconst (v := nI 1) hx hb dX5_battersThatFit_20 (by decide) ?_
          refine lv_iload_n hx hb dX5_battersThatFit_21 rfl (lv_at hl 0 rfl) ?_
          refine lv_ishl hx hb dX5_battersThatFit_22 ?_
          refine lv_ior hx hb dX5_battersThatFit_23 ?_
          refine lv_istore_n (lv' := [(2, .int (bi ||| ((nI 1) <<< ((nI kd) &&& 31)))), (3, .int (nI kd)), (0, .ref (x 0)), (1, .int i)]) hx hb dX5_battersThatFit_24 rfl hl (by decide) rfl (fun ls hl => ?_)
          refine lv_iinc (v := nI (kd + 1)) (lv' := [(3, .int (nI (kd + 1))), (2, .int (bi ||| ((nI 1) <<< ((nI kd) &&& 31)))), (0, .ref (x 0)), (1, .int i)]) hx hb dX5_battersThatFit_25 hl (k := 1) rfl (qn_inc (c := 1) rfl (by omega)) (by decide) rfl (fun ls hl => ?_)
          refine lv_goto (tgt := 4) hx hb dX5_battersThatFit_28 (by decide) ?_
          exact ih_4 (kd + 1) (bi ||| ((nI 1) <<< ((nI kd) &&& 31))) H locs (by omega) (by omega) hP hD hS ls (lv_sub hl [0, 1, 2, 3] rfl) hF
  exact L_4 7 0 (nI 0) s.heap [] (by omega) (by omega) hP hD hS ls (lv_sub hl [0, 1, 2, 3] rfl) hF
def F_X5_kinds (P : pS) (Ma : rS) (Rf : Nat → Int32) (i : Int32) : Int32 × (Nat → Int32) := let1 (F_X5_isBatter P i) (fun z_2 => if z_2 = true then let1 (F_X5_battersThatFit Ma (nI (tN i))) (fun r_17 => (r_17, Rf)) else let2 (F_X5_refuse Rf ((-2))) (fun r_11 Rf_11 => (r_11, Rf_11)))
set_option maxHeartbeats 4000000 in
set_option maxRecDepth 100000 in
theorem c_X5_kinds (l : Launch) (dC : Nat → ClassId) (dI : Nat → Nat → Nat) (x : Nat → Nat) (cI : ClassId) (sz : Nat) (X : xS) (P : pS) (Ma : rS) (Rf : Nat → Int32) (i : Int32) (pz : inB (Psz P) 6) (pma : inB (Rus Ma) 24) : Met l yX5_kinds wsX5_kinds { frames := 4, cells := 0, slots := 0, locals := 86 } (xPc (dC, dI) vwCl (xT cI) ((xO x X) ++ (fO ((fun i => x (1 + i)))) ++ (pW ((fun i => x (2 + i))) cI P) ++ (rW ((fun i => x (9 + i))) cI 4 24 Ma) ++ ([(x 15, .inl (cI, 3, .inl Rf))])) sz [.ref (x 0), .int i]) (va_Qi (fun (r : Int32) (u : (Nat → Int32)) => F_X5_kinds P Ma Rf i = (r, u)) (mB (dC, dI) vwCl (xT cI) (va_A ((xO x X) ++ (fO ((fun i => x (1 + i)))) ++ (pW ((fun i => x (2 + i))) cI P) ++ (rW ((fun i => x (9 + i))) cI 4 24 Ma) ++ ([(x 15, .inl (cI, 3, .inl Rf))])) sz) (fun u => (xO x X) ++ (fO ((fun i => x (1 + i)))) ++ (pW ((fun i => x (2 + i))) cI P) ++ (rW ((fun i => x (9 + i))) cI 4 24 Ma) ++ ([(x 15, .inl (cI, 3, .inl u))]))) (va_A ((xO x X) ++ (fO ((fun i => x (1 + i)))) ++ (pW ((fun i => x (2 + i))) cI P) ++ (rW ((fun i => x (9 + i))) cI 4 24 Ma) ++ ([(x 15, .inl (cI, 3, .inl Rf))])) sz)) 0 0 (va_A ((xO x X) ++ (fO ((fun i => x (1 + i)))) ++ (pW ((fun i => x (2 + i))) cI P) ++ (rW ((fun i => x (9 + i))) cI 4 24 Ma) ++ ([(x 15, .inl (cI, 3, .inl Rf))])) sz) := by
  refine Met.ofW (cc := cX5_kinds) (maxL := 2) (ret := (some .int)) (by decide) rfl ?_
  intro p e s m args below meth c s₁ B hml hv
  obtain ⟨rfl, hsz, hP, hK, hD0, hN⟩ := hv
  have hx := B.exec
  have hb := B.bytes
  have hr := B.returns
  have hts := atoms_spec (ws := wsX5_kinds) B.pre
  have hown : s.vm.findClass RX5 = some m.cls := findClass_of_methodNamed B.named
  have hlocks := B.notSynchronized
  subst hsz
  have hD := hD0.self (sz := s.heap.size)
  generalize hAe : va_A ((xO x X) ++ (fO ((fun i => x (1 + i)))) ++ (pW ((fun i => x (2 + i))) cI P) ++ (rW ((fun i => x (9 + i))) cI 4 24 Ma) ++ ([(x 15, .inl (cI, 3, .inl Rf))])) s.heap.size = A at hD ⊢
  have hA : ∀ q : Nat, s.heap.size ≤ q → A q := fun q h => by rw [← hAe]; exact Or.inr h
  have hS : va_S A s.heap s.heap [] := va_S.rf
  have hl := lv_entry ([.ref (x 0), .int i]) (n := 2) (Nat.le_of_ble_eq_true rfl)
  rw [lg_entry_eq]
  generalize (lg_sl ([.ref (x 0), .int i]) ++ List.replicate (2 - (lg_sl ([.ref (x 0), .int i])).length) Slot.unset).toArray = ls at hl ⊢
  have hl : lv_has ls 2 [(0, .ref (x 0)), (1, .int i)] := hl
  obtain ⟨OUT, hO⟩ : ∃ z, z = F_X5_kinds P Ma Rf i := ⟨_, rfl⟩
  have hF := hO
  unfold F_X5_kinds at hF
  have e_pz := tN_eq pz.1
  have b_pz := pz.2
  have e_pma := tN_eq pma.1
  have b_pma := pma.2
  refine lv_aload_n hx hb dX5_kinds_0 rfl (lv_at hl 0 rfl) ?_
  refine lv_iload_n hx hb dX5_kinds_1 rfl (lv_at hl 1 rfl) ?_
  refine qx_Vi (C := RX5) (As := [.int i]) (rest := []) (ci := 5) (k0 := 0) (wr := (rW ((fun i => x (9 + i))) cI 4 24 Ma) ++ ([(x 15, .inl (cI, 3, .inl Rf))])) (ws2 := fun u => (xO x X) ++ (fO ((fun i => x (1 + i)))) ++ (pW ((fun i => x (2 + i))) cI P) ++ (rW ((fun i => x (9 + i))) cI 4 24 Ma) ++ ([(x 15, .inl (cI, 3, .inl Rf))])) [0, 1, 2, 3, 4, 5] [6, 7, 8] [3, 4, 5, 6, 7, 8, 0, 1, 2] ⟨hx, hb, hml, hown, hts⟩ (c_X5_isBatter l dC dI x cI s.heap.size X P i (pz : inB (Psz P) 6)) (cwV 1 hts gX5_kinds_X5_isBatter rfl rfl rfl (by decide +kernel) ⟨Nat.le_of_ble_eq_true rfl, Nat.le_of_ble_eq_true rfl⟩) (hK.sub [0] rfl) hK hP hD hS hA hN rfl rfl (by decide) (by decide) (by decide) (by decide) (fun _ => rfl) rfl rfl rfl rfl hl.1 rfl (Nat.le_of_ble_eq_true rfl) dX5_kinds_2 ⟨Nat.zero_le _, Nat.zero_le _⟩ (fun r_2 u_2 H locs hw_2 hP hD hS => ?_)
  have hP : va_P (dC, dI) vwCl ((xO x X) ++ (fO ((fun i => x (1 + i)))) ++ (pW ((fun i => x (2 + i))) cI P) ++ (rW ((fun i => x (9 + i))) cI 4 24 Ma) ++ ([(x 15, .inl (cI, 3, .inl Rf))])) H := hP
  have hD : va_D A ((xO x X) ++ (fO ((fun i => x (1 + i)))) ++ (pW ((fun i => x (2 + i))) cI P) ++ (rW ((fun i => x (9 + i))) cI 4 24 Ma) ++ ([(x 15, .inl (cI, 3, .inl Rf))])) := hD
  obtain ⟨z_2, hw_2, rfl⟩ := hw_2
  rw [hw_2, let1_mk z_2] at hF
  refine qv_zif_ne (tgt := 15) hx hb dX5_kinds_5 (by decide) (fun c_5 => ?_) (fun c_5 => ?_)
  · rw [if_pos c_5] at hF
    obtain ⟨f_i, fb_i⟩ := isBatter2 hw_2 c_5 pz
    have e_i := tN_eq f_i
    refine lv_aload_n hx hb dX5_kinds_15 rfl (lv_at hl 0 rfl) ?_
    refine lv_iload_n hx hb dX5_kinds_16 rfl (lv_at hl 1 rfl) ?_
    refine qv_top (e_i) ?_
    refine qx_Vi (C := RX5) (As := [.int (nI (tN i))]) (rest := []) (ci := 5) (k0 := 0) (wr := (pW ((fun i => x (2 + i))) cI P) ++ ([(x 15, .inl (cI, 3, .inl Rf))])) (ws2 := fun u => (xO x X) ++ (fO ((fun i => x (1 + i)))) ++ (pW ((fun i => x (2 + i))) cI P) ++ (rW ((fun i => x (9 + i))) cI 4 24 Ma) ++ ([(x 15, .inl (cI, 3, .inl Rf))])) [0, 1, 6, 7] [2, 3, 4, 5, 8] [5, 6, 0, 1, 2, 3, 7, 8, 4] ⟨hx, hb, hml, hown, hts⟩ (c_X5_battersThatFit l dC dI x cI H.size X Ma (nI (tN i)) (pma : inB (Rus Ma) 24)) (cwV 1 hts gX5_kinds_X5_battersThatFit rfl rfl rfl (by decide +kernel) ⟨Nat.le_of_ble_eq_true rfl, Nat.le_of_ble_eq_true rfl⟩) (hK.sub [0] rfl) hK hP hD hS hA hN rfl rfl (by decide) (by decide) (by decide) (by decide) (fun _ => rfl) rfl rfl rfl rfl hl.1 rfl (Nat.le_of_ble_eq_true rfl) dX5_kinds_17 ⟨Nat.zero_le _, Nat.zero_le _⟩ (fun r_17 u_17 H locs hw_17 hP hD hS => ?_)
    have hP : va_P (dC, dI) vwCl ((xO x X) ++ (fO ((fun i => x (1 + i)))) ++ (pW ((fun i => x (2 + i))) cI P) ++ (rW ((fun i => x (9 + i))) cI 4 24 Ma) ++ ([(x 15, .inl (cI, 3, .inl Rf))])) H := hP
    have hD : va_D A ((xO x X) ++ (fO ((fun i => x (1 + i)))) ++ (pW ((fun i => x (2 + i))) cI P) ++ (rW ((fun i => x (9 + i))) cI 4 24 Ma) ++ ([(x 15, .inl (cI, 3, .inl Rf))])) := hD
    rw [hw_17, let1_mk r_17] at hF
    have hP9 : va_P (dC, dI) vwCl ((xO x X) ++ (fO ((fun i => x (1 + i)))) ++ (pW ((fun i => x (2 + i))) cI P) ++ (rW ((fun i => x (9 + i))) cI 4 24 Ma) ++ ([(x 15, .inl (cI, 3, .inl Rf))])) H := hP
    exact W.iret (v := r_17) hx hb hr (fun t ht hW => ⟨⟨_, (Rf), rfl, hO.symm.trans hF, by rw [ht]; exact hP9, va_K.moved hW.alike hK, hD⟩, hS.F ht⟩) hS.2.2 dX5_kinds_20
  · rw [if_neg c_5] at hF
    refine lv_aload_n hx hb dX5_kinds_8 rfl (lv_at hl 0 rfl) ?_
    refine lv_bipush (v := (-2)) hx hb dX5_kinds_9 (by decide) ?_
    refine qx_Vi (C := RX5) (As := [.int ((-2))]) (rest := []) (ci := 5) (k0 := 0) (wr := (fO ((fun i => x (1 + i)))) ++ (pW ((fun i => x (2 + i))) cI P) ++ (rW ((fun i => x (9 + i))) cI 4 24 Ma)) (ws2 := fun u => (xO x X) ++ (fO ((fun i => x (1 + i)))) ++ (pW ((fun i => x (2 + i))) cI P) ++ (rW ((fun i => x (9 + i))) cI 4 24 Ma) ++ ([(x 15, .inl (cI, 3, .inl u))])) [0, 8] [1, 2, 3, 4, 5, 6, 7] [7, 0, 1, 2, 3, 4, 5, 6, 8] ⟨hx, hb, hml, hown, hts⟩ (c_X5_refuse l dC dI x cI H.size X Rf ((-2)) ) (cwV 1 hts gX5_kinds_X5_refuse rfl rfl rfl (by decide +kernel) ⟨Nat.le_of_ble_eq_true rfl, Nat.le_of_ble_eq_true rfl⟩) (hK.sub [0] rfl) hK hP hD hS hA hN rfl rfl (by decide) (by decide) (by decide) (by decide) (fun _ => rfl) rfl rfl rfl rfl hl.1 rfl (Nat.le_of_ble_eq_true rfl) dX5_kinds_11 ⟨Nat.zero_le _, Nat.zero_le _⟩ (fun r_11 u_11 H locs hw_11 hP hD hS => ?_)
    obtain ⟨Rf_11, rfl⟩ : ∃ z, z = u_11 := ⟨_, rfl⟩
    have hP : va_P (dC, dI) vwCl ((xO x X) ++ (fO ((fun i => x (1 + i)))) ++ (pW ((fun i => x (2 + i))) cI P) ++ (rW ((fun i => x (9 + i))) cI 4 24 Ma) ++ ([(x 15, .inl (cI, 3, .inl Rf_11))])) H := hP
    have hD : va_D A ((xO x X) ++ (fO ((fun i => x (1 + i)))) ++ (pW ((fun i => x (2 + i))) cI P) ++ (rW ((fun i => x (9 + i))) cI 4 24 Ma) ++ ([(x 15, .inl (cI, 3, .inl Rf_11))])) := hD
    rw [hw_11, let2_mk r_11 Rf_11] at hF
    have hP9 : va_P (dC, dI) vwCl ((xO x X) ++ (fO ((fun i => x (1 + i)))) ++ (pW ((fun i => x (2 + i))) cI P) ++ (rW ((fun i => x (9 + i))) cI 4 24 Ma) ++ ([(x 15, .inl (cI, 3, .inl Rf_11))])) H := hP
    exact W.iret (v := r_11) hx hb hr (fun t ht hW => ⟨⟨_, (Rf_11), rfl, hO.symm.trans hF, by rw [ht]; exact hP9, va_K.moved hW.alike hK, hD⟩, hS.F ht⟩) hS.2.2 dX5_kinds_14
def F_X5_ask_L44 : Nat → (Int32) → (pS) → (Nat) → (Nat) → (Nat → Int32) → (Nat) × (Nat → Int32)
  | 0, _, _, _, kd, s2 => (kd, s2)
  | n_44 + 1, i, P, g, kd, s2 => if 6 ≤ kd then (kd, s2) else F_X5_ask_L44 n_44 i P g (kd + 1) (upd s2 kd (F_X5_postsRun (nI kd) ((Plg P) (tN i)) (nI g)))
def F_X5_ask_L30 : Nat → (Int32) → (pS) → (Int32) → (Nat) → (Int32) → (Int32) → (Nat → Int32) → (Nat) × (Int32) × (Int32) × (Nat → Int32)
  | 0, _, _, _, g, bs, fw, s1 => (g, bs, fw, s1)
  | n_30 + 1, i, P, r_17, g, bs, fw, s1 => if 20 < g then (g, bs, fw, s1) else (if r_17 = 0 then (g, bs, fw, s1) else let2 (F_X5_ask_L44 7 i P g 0 s1) (fun kd s2 => let1 (F_X5_mostAlike s2 r_17) (fun r_85 => if fw ≤ r_85 then F_X5_ask_L30 n_30 i P r_17 (g + 1) bs fw s2 else F_X5_ask_L30 n_30 i P r_17 (g + 1) (nI g) r_85 s2)))
def F_X5_ask (P : pS) (Ma : rS) (Rf : Nat → Int32) (Se : Nat → Int32) (i : Int32) : Int32 × (Nat → Int32) × (Nat → Int32) := let1 (F_X5_isBatter P i) (fun z_2 => if z_2 = true then let1 (F_X5_battersThatFit Ma (nI (tN i))) (fun r_17 => let4 (F_X5_ask_L30 21 i P r_17 1 ((-1)) (nI 7) Se) (fun g bs fw s1 => (bs, s1, Rf))) else let2 (F_X5_refuse Rf ((-2))) (fun r_11 Rf_11 => (r_11, Se, Rf_11)))
set_option maxHeartbeats 4000000 in
set_option maxRecDepth 100000 in
theorem c_X5_ask (l : Launch) (dC : Nat → ClassId) (dI : Nat → Nat → Nat) (x : Nat → Nat) (cI : ClassId) (sz : Nat) (X : xS) (P : pS) (Ma : rS) (Rf : Nat → Int32) (Se : Nat → Int32) (i : Int32) (pz : inB (Psz P) 6) (pma : inB (Rus Ma) 24) : Met l yX5_ask wsX5_ask { frames := 4, cells := 0, slots := 0, locals := 86 } (xPc (dC, dI) vwCl (xT cI) ((xO x X) ++ (fO ((fun i => x (1 + i)))) ++ (pW ((fun i => x (2 + i))) cI P) ++ (rW ((fun i => x (9 + i))) cI 4 24 Ma) ++ ([(x 15, .inl (cI, 3, .inl Rf))]) ++ ([(x 57, .inl (cI, 6, .inl Se))])) sz [.ref (x 0), .int i]) (va_Qi (fun (r : Int32) (u : (Nat → Int32) × (Nat → Int32)) => F_X5_ask P Ma Rf Se i = (r, u)) (mB (dC, dI) vwCl (xT cI) (va_A ((xO x X) ++ (fO ((fun i => x (1 + i)))) ++ (pW ((fun i => x (2 + i))) cI P) ++ (rW ((fun i => x (9 + i))) cI 4 24 Ma) ++ ([(x 15, .inl (cI, 3, .inl Rf))]) ++ ([(x 57, .inl (cI, 6, .inl Se))])) sz) (fun u => (xO x X) ++ (fO ((fun i => x (1 + i)))) ++ (pW ((fun i => x (2 + i))) cI P) ++ (rW ((fun i => x (9 + i))) cI 4 24 Ma) ++ ([(x 15, .inl (cI, 3, .inl (u.2)))]) ++ ([(x 57, .inl (cI, 6, .inl (u.1)))]))) (va_A ((xO x X) ++ (fO ((fun i => x (1 + i)))) ++ (pW ((fun i => x (2 + i))) cI P) ++ (rW ((fun i => x (9 + i))) cI 4 24 Ma) ++ ([(x 15, .inl (cI, 3, .inl Rf))]) ++ ([(x 57, .inl (cI, 6, .inl Se))])) sz)) 0 0 (va_A ((xO x X) ++ (fO ((fun i => x (1 + i)))) ++ (pW ((fun i => x (2 + i))) cI P) ++ (rW ((fun i => x (9 + i))) cI 4 24 Ma) ++ ([(x 15, .inl (cI, 3, .inl Rf))]) ++ ([(x 57, .inl (cI, 6, .inl Se))])) sz) := by
  refine Met.ofW (cc := cX5_ask) (maxL := 7) (ret := (some .int)) (by decide) rfl ?_
  intro p e s m args below meth c s₁ B hml hv
  obtain ⟨rfl, hsz, hP, hK, hD0, hN⟩ := hv
  have hx := B.exec
  have hb := B.bytes
  have hr := B.returns
  have hts := atoms_spec (ws := wsX5_ask) B.pre
  have hown : s.vm.findClass RX5 = some m.cls := findClass_of_methodNamed B.named
  have hlocks := B.notSynchronized
  subst hsz
  have hD := hD0.self (sz := s.heap.size)
  generalize hAe : va_A ((xO x X) ++ (fO ((fun i => x (1 + i)))) ++ (pW ((fun i => x (2 + i))) cI P) ++ (rW ((fun i => x (9 + i))) cI 4 24 Ma) ++ ([(x 15, .inl (cI, 3, .inl Rf))]) ++ ([(x 57, .inl (cI, 6, .inl Se))])) s.heap.size = A at hD ⊢
  have hA : ∀ q : Nat, s.heap.size ≤ q → A q := fun q h => by rw [← hAe]; exact Or.inr h
  have hS : va_S A s.heap s.heap [] := va_S.rf
  have hin1 : ∀ w ∈ wsX10, w ∈ wsX5_ask := by decide +kernel
  have hin2 : ∀ w ∈ wsX20, w ∈ wsX5_ask := by decide +kernel
  have hin5 : ∀ w ∈ wsX50, w ∈ wsX5_ask := by decide +kernel
  have lk12 := hts (.fieldLink RX5 12 "PostRounders" "now" "LPostRounders$Field;") (by decide +kernel)
  have lk58 := hts (.fieldLink RX5 58 "PostRounders" "seen" "[I") (by decide +kernel)
  have lk74 := hts (.fieldLink RX5 74 "PostRounders$Field" "play" "LPostRounders$Play;") (by decide +kernel)
  have lk222 := hts (.fieldLink RX5 222 "PostRounders$Play" "legs" "[I") (by decide +kernel)
  have hl := lv_entry ([.ref (x 0), .int i]) (n := 7) (Nat.le_of_ble_eq_true rfl)
  rw [lg_entry_eq]
  generalize (lg_sl ([.ref (x 0), .int i]) ++ List.replicate (7 - (lg_sl ([.ref (x 0), .int i])).length) Slot.unset).toArray = ls at hl ⊢
  have hl : lv_has ls 7 [(0, .ref (x 0)), (1, .int i)] := hl
  obtain ⟨OUT, hO⟩ : ∃ z, z = F_X5_ask P Ma Rf Se i := ⟨_, rfl⟩
  have hF := hO
  unfold F_X5_ask at hF
  have e_pz := tN_eq pz.1
  have b_pz := pz.2
  have e_pma := tN_eq pma.1
  have b_pma := pma.2
  refine lv_aload_n hx hb dX5_ask_0 rfl (lv_at hl 0 rfl) ?_
  refine lv_iload_n hx hb dX5_ask_1 rfl (lv_at hl 1 rfl) ?_
  refine qx_Vi (C := RX5) (As := [.int i]) (rest := []) (ci := 5) (k0 := 0) (wr := (rW ((fun i => x (9 + i))) cI 4 24 Ma) ++ ([(x 15, .inl (cI, 3, .inl Rf))]) ++ ([(x 57, .inl (cI, 6, .inl Se))])) (ws2 := fun u => (xO x X) ++ (fO ((fun i => x (1 + i)))) ++ (pW ((fun i => x (2 + i))) cI P) ++ (rW ((fun i => x (9 + i))) cI 4 24 Ma) ++ ([(x 15, .inl (cI, 3, .inl Rf))]) ++ ([(x 57, .inl (cI, 6, .inl Se))])) [0, 1, 2, 3, 4, 5] [6, 7, 8, 9] [4, 5, 6, 7, 8, 9, 0, 1, 2, 3] ⟨hx, hb, hml, hown, hts⟩ (c_X5_isBatter l dC dI x cI s.heap.size X P i (pz : inB (Psz P) 6)) (cwV 1 hts gX5_ask_X5_isBatter rfl rfl rfl (by decide +kernel) ⟨Nat.le_of_ble_eq_true rfl, Nat.le_of_ble_eq_true rfl⟩) (hK.sub [0] rfl) hK hP hD hS hA hN rfl rfl (by decide) (by decide) (by decide) (by decide) (fun _ => rfl) rfl rfl rfl rfl hl.1 rfl (Nat.le_of_ble_eq_true rfl) dX5_ask_2 ⟨Nat.zero_le _, Nat.zero_le _⟩ (fun r_2 u_2 H locs hw_2 hP hD hS => ?_)
  have hP : va_P (dC, dI) vwCl ((xO x X) ++ (fO ((fun i => x (1 + i)))) ++ (pW ((fun i => x (2 + i))) cI P) ++ (rW ((fun i => x (9 + i))) cI 4 24 Ma) ++ ([(x 15, .inl (cI, 3, .inl Rf))]) ++ ([(x 57, .inl (cI, 6, .inl Se))])) H := hP
  have hD : va_D A ((xO x X) ++ (fO ((fun i => x (1 + i)))) ++ (pW ((fun i => x (2 + i))) cI P) ++ (rW ((fun i => x (9 + i))) cI 4 24 Ma) ++ ([(x 15, .inl (cI, 3, .inl Rf))]) ++ ([(x 57, .inl (cI, 6, .inl Se))])) := hD
  obtain ⟨z_2, hw_2, rfl⟩ := hw_2
  rw [hw_2, let1_mk z_2] at hF
  refine qv_zif_ne (tgt := 15) hx hb dX5_ask_5 (by decide) (fun c_5 => ?_) (fun c_5 => ?_)
  · rw [if_pos c_5] at hF
    obtain ⟨f_i, fb_i⟩ := isBatter2 hw_2 c_5 pz
    have e_i := tN_eq f_i
    refine lv_aload_n hx hb dX5_ask_15 rfl (lv_at hl 0 rfl) ?_
    refine lv_iload_n hx hb dX5_ask_16 rfl (lv_at hl 1 rfl) ?_
    refine qv_top (e_i) ?_
    refine qx_Vi (C := RX5) (As := [.int (nI (tN i))]) (rest := []) (ci := 5) (k0 := 0) (wr := (pW ((fun i => x (2 + i))) cI P) ++ ([(x 15, .inl (cI, 3, .inl Rf))]) ++ ([(x 57, .inl (cI, 6, .inl Se))])) (ws2 := fun u => (xO x X) ++ (fO ((fun i => x (1 + i)))) ++ (pW ((fun i => x (2 + i))) cI P) ++ (rW ((fun i => x (9 + i))) cI 4 24 Ma) ++ ([(x 15, .inl (cI, 3, .inl Rf))]) ++ ([(x 57, .inl (cI, 6, .inl Se))])) [0, 1, 6, 7] [2, 3, 4, 5, 8, 9] [6, 7, 0, 1, 2, 3, 8, 9, 4, 5] ⟨hx, hb, hml, hown, hts⟩ (c_X5_battersThatFit l dC dI x cI H.size X Ma (nI (tN i)) (pma : inB (Rus Ma) 24)) (cwV 1 hts gX5_ask_X5_battersThatFit rfl rfl rfl (by decide +kernel) ⟨Nat.le_of_ble_eq_true rfl, Nat.le_of_ble_eq_true rfl⟩) (hK.sub [0] rfl) hK hP hD hS hA hN rfl rfl (by decide) (by decide) (by decide) (by decide) (fun _ => rfl) rfl rfl rfl rfl hl.1 rfl (Nat.le_of_ble_eq_true rfl) dX5_ask_17 ⟨Nat.zero_le _, Nat.zero_le _⟩ (fun r_17 u_17 H locs hw_17 hP hD hS => ?_)
    have hP : va_P (dC, dI) vwCl ((xO x X) ++ (fO ((fun i => x (1 + i)))) ++ (pW ((fun i => x (2 + i))) cI P) ++ (rW ((fun i => x (9 + i))) cI 4 24 Ma) ++ ([(x 15, .inl (cI, 3, .inl Rf))]) ++ ([(x 57, .inl (cI, 6, .inl Se))])) H := hP
    have hD : va_D A ((xO x X) ++ (fO ((fun i => x (1 + i)))) ++ (pW ((fun i => x (2 + i))) cI P) ++ (rW ((fun i => x (9 + i))) cI 4 24 Ma) ++ ([(x 15, .inl (cI, 3, .inl Rf))]) ++ ([(x 57, .inl (cI, 6, .inl Se))])) := hD
    rw [hw_17, let1_mk r_17] at hF
    refine lv_istore_n (lv' := [(2, .int r_17), (0, .ref (x 0)), (1, .int i)]) hx hb dX5_ask_20 rfl hl (by decide) rfl (fun ls hl => ?_)
    refine lv_iconst (v := (-1)) hx hb dX5_ask_21 (by decide) ?_
    refine lv_istore_n (lv' := [(3, .int ((-1))), (2, .int r_17), (0, .ref (x 0)), (1, .int i)]) hx hb dX5_ask_22 rfl hl (by decide) rfl (fun ls hl => ?_)
    refine lv_bipush (v := nI 7) hx hb dX5_ask_23 (by decide) ?_
    refine lv_istore (lv' := [(4, .int (nI 7)), (3, .int ((-1))), (2, .int r_17), (0, .ref (x 0)), (1, .int i)]) hx hb dX5_ask_25 hl (by decide) rfl (fun ls hl => ?_)
    refine lv_iconst (v := nI 1) hx hb dX5_ask_27 (by decide) ?_
    refine lv_istore (lv' := [(5, .int (nI 1)), (4, .int (nI 7)), (3, .int ((-1))), (2, .int r_17), (0, .ref (x 0)), (1, .int i)]) hx hb dX5_ask_28 hl (by decide) rfl (fun ls hl => ?_)
    have L_30 : ∀ (n_30 : Nat) (g : Nat) (bs : Int32) (fw : Int32) (s1 : Nat → Int32) (H : Heap) (locs : List Loc), g ≤ 21 → 21 - g < n_30 → va_P (dC, dI) vwCl ((xO x X) ++ (fO ((fun i => x (1 + i)))) ++ (pW ((fun i => x (2 + i))) cI P) ++ (rW ((fun i => x (9 + i))) cI 4 24 Ma) ++ ([(x 15, .inl (cI, 3, .inl Rf))]) ++ ([(x 57, .inl (cI, 6, .inl s1))])) H → va_D A ((xO x X) ++ (fO ((fun i => x (1 + i)))) ++ (pW ((fun i => x (2 + i))) cI P) ++ (rW ((fun i => x (9 + i))) cI 4 24 Ma) ++ ([(x 15, .inl (cI, 3, .inl Rf))]) ++ ([(x 57, .inl (cI, 6, .inl s1))])) → va_S A s.heap H locs → ∀ (ls : Array Slot), lv_has ls 7 [(5, .int (nI g)), (4, .int fw), (3, .int bs), (2, .int r_17), (0, .ref (x 0)), (1, .int i)] → OUT = let4 (F_X5_ask_L30 n_30 i P r_17 g bs fw s1) (fun g bs fw s1 => (bs, s1, Rf)) → W p l e (headSpec wsX5_ask { frames := 4, cells := 0, slots := 0, locals := 86 }).room s m ([.ref (x 0), .int i] : List Value).toArray below meth c H locs 0 0 (MQ below (va_Qi (fun (r : Int32) (u : (Nat → Int32) × (Nat → Int32)) => F_X5_ask P Ma Rf Se i = (r, u)) (mB (dC, dI) vwCl (xT cI) A (fun u => (xO x X) ++ (fO ((fun i => x (1 + i)))) ++ (pW ((fun i => x (2 + i))) cI P) ++ (rW ((fun i => x (9 + i))) cI 4 24 Ma) ++ ([(x 15, .inl (cI, 3, .inl (u.2)))]) ++ ([(x 57, .inl (cI, 6, .inl (u.1)))]))) A) ([.ref (x 0), .int i] : List Value).toArray s 0 0 A) (F0 m 30 ls []) := by
      intro n_30
      induction n_30 with
      | zero => intro g bs fw s1 H locs i0 hmu; exact absurd hmu (Nat.not_lt_zero _)
      | succ n_30 ih_30 =>
        intro g bs fw s1 H locs i0 hmu_30 hP hD hS ls hl hF
        rw [F_X5_ask_L30] at hF
        refine lv_iload hx hb dX5_ask_30 (lv_at hl 0 rfl) ?_
        refine lv_bipush (v := nI 20) hx hb dX5_ask_32 (by decide) ?_
        refine qv_icmp_gt (tgt := 110) hx hb dX5_ask_34 (by decide) (by omega) (by omega) (fun c_34 => ?_) (fun c_34 => ?_)
        · rw [if_pos c_34] at hF
          rw [let4_mk (g : Nat) (bs : Int32) (fw : Int32) (s1 : Nat → Int32)] at hF
          refine lv_iload_n hx hb dX5_ask_110 rfl (lv_at hl 2 rfl) ?_
          have hP9 : va_P (dC, dI) vwCl ((xO x X) ++ (fO ((fun i => x (1 + i)))) ++ (pW ((fun i => x (2 + i))) cI P) ++ (rW ((fun i => x (9 + i))) cI 4 24 Ma) ++ ([(x 15, .inl (cI, 3, .inl Rf))]) ++ ([(x 57, .inl (cI, 6, .inl s1))])) H := hP
          exact W.iret (v := bs) hx hb hr (fun t ht hW => ⟨⟨_, ((s1, Rf)), rfl, hO.symm.trans hF, by rw [ht]; exact hP9, va_K.moved hW.alike hK, hD⟩, hS.F ht⟩) hS.2.2 dX5_ask_111
        · rw [if_neg c_34] at hF
          refine lv_iload_n hx hb dX5_ask_37 rfl (lv_at hl 3 rfl) ?_
          refine lv_if_eq (tgt := 110) hx hb dX5_ask_38 (by decide) (fun c_38 => ?_) (fun c_38 => ?_)
          · rw [if_pos c_38] at hF
            rw [let4_mk (g : Nat) (bs : Int32) (fw : Int32) (s1 : Nat → Int32)] at hF
            refine lv_iload_n hx hb dX5_ask_110 rfl (lv_at hl 2 rfl) ?_
            have hP9 : va_P (dC, dI) vwCl ((xO x X) ++ (fO ((fun i => x (1 + i)))) ++ (pW ((fun i => x (2 + i))) cI P) ++ (rW ((fun i => x (9 + i))) cI 4 24 Ma) ++ ([(x 15, .inl (cI, 3, .inl Rf))]) ++ ([(x 57, .inl (cI, 6, .inl s1))])) H := hP
            exact W.iret (v := bs) hx hb hr (fun t ht hW => ⟨⟨_, ((s1, Rf)), rfl, hO.symm.trans hF, by rw [ht]; exact hP9, va_K.moved hW.alike hK, hD⟩, hS.F ht⟩) hS.2.2 dX5_ask_111
          · rw [if_neg c_38] at hF
            refine lv_iconst (v := nI 0) hx hb dX5_ask_41 (by decide) ?_
            refine lv_istore (lv' := [(6, .int (nI 0)), (5, .int (nI g)), (4, .int fw), (3, .int bs), (2, .int r_17), (0, .ref (x 0)), (1, .int i)]) hx hb dX5_ask_42 hl (by decide) rfl (fun ls hl => ?_)
            have L_44 : ∀ (n_44 : Nat) (kd : Nat) (s2 : Nat → Int32) (H : Heap) (locs : List Loc), kd ≤ 6 → 6 - kd < n_44 → va_P (dC, dI) vwCl ((xO x X) ++ (fO ((fun i => x (1 + i)))) ++ (pW ((fun i => x (2 + i))) cI P) ++ (rW ((fun i => x (9 + i))) cI 4 24 Ma) ++ ([(x 15, .inl (cI, 3, .inl Rf))]) ++ ([(x 57, .inl (cI, 6, .inl s2))])) H → va_D A ((xO x X) ++ (fO ((fun i => x (1 + i)))) ++ (pW ((fun i => x (2 + i))) cI P) ++ (rW ((fun i => x (9 + i))) cI 4 24 Ma) ++ ([(x 15, .inl (cI, 3, .inl Rf))]) ++ ([(x 57, .inl (cI, 6, .inl s2))])) → va_S A s.heap H locs → ∀ (ls : Array Slot), lv_has ls 7 [(6, .int (nI kd)), (5, .int (nI g)), (4, .int fw), (3, .int bs), (2, .int r_17), (0, .ref (x 0)), (1, .int i)] → OUT = let4 (let2 (F_X5_ask_L44 n_44 i P g kd s2) (fun kd s2 => let1 (F_X5_mostAlike s2 r_17) (fun r_85 => if fw ≤ r_85 then F_X5_ask_L30 n_30 i P r_17 (g + 1) bs fw s2 else F_X5_ask_L30 n_30 i P r_17 (g + 1) (nI g) r_85 s2))) (fun g bs fw s1 => (bs, s1, Rf)) → W p l e (headSpec wsX5_ask { frames := 4, cells := 0, slots := 0, locals := 86 }).room s m ([.ref (x 0), .int i] : List Value).toArray below meth c H locs 0 0 (MQ below (va_Qi (fun (r : Int32) (u : (Nat → Int32) × (Nat → Int32)) => F_X5_ask P Ma Rf Se i = (r, u)) (mB (dC, dI) vwCl (xT cI) A (fun u => (xO x X) ++ (fO ((fun i => x (1 + i)))) ++ (pW ((fun i => x (2 + i))) cI P) ++ (rW ((fun i => x (9 + i))) cI 4 24 Ma) ++ ([(x 15, .inl (cI, 3, .inl (u.2)))]) ++ ([(x 57, .inl (cI, 6, .inl (u.1)))]))) A) ([.ref (x 0), .int i] : List Value).toArray s 0 0 A) (F0 m 44 ls []) := by
              intro n_44
              induction n_44 with
              | zero => intro kd s2 H locs j0 hmu; exact absurd hmu (Nat.not_lt_zero _)
              | succ n_44 ih_44 =>
                intro kd s2 H locs j0 hmu_44 hP hD hS ls hl hF
                rw [F_X5_ask_L44] at hF
                refine lv_iload hx hb dX5_ask_44 (lv_at hl 0 rfl) ?_
                refine lv_bipush (v := nI 6) hx hb dX5_ask_46 (by decide) ?_
                refine qv_icmp_ge (tgt := 83) hx hb dX5_ask_48 (by decide) (by omega) (by omega) (fun c_48 => ?_) (fun c_48 => ?_)
                · rw [if_pos c_48] at hF
                  rw [let2_mk (kd : Nat) (s2 : Nat → Int32)] at hF
                  refine lv_aload_n hx hb dX5_ask_83 rfl (lv_at hl 5 rfl) ?_
                  refine lv_iload_n hx hb dX5_ask_84 rfl (lv_at hl 4 rfl) ?_
                  refine qx_Vi (C := RX5) (As := [.int r_17]) (rest := []) (ci := 5) (k0 := 0) (wr := (fO ((fun i => x (1 + i)))) ++ (pW ((fun i => x (2 + i))) cI P) ++ (rW ((fun i => x (9 + i))) cI 4 24 Ma) ++ ([(x 15, .inl (cI, 3, .inl Rf))])) (ws2 := fun u => (xO x X) ++ (fO ((fun i => x (1 + i)))) ++ (pW ((fun i => x (2 + i))) cI P) ++ (rW ((fun i => x (9 + i))) cI 4 24 Ma) ++ ([(x 15, .inl (cI, 3, .inl Rf))]) ++ ([(x 57, .inl (cI, 6, .inl s2))])) [0, 9] [1, 2, 3, 4, 5, 6, 7, 8] [8, 0, 1, 2, 3, 4, 5, 6, 7, 9] ⟨hx, hb, hml, hown, hts⟩ (c_X5_mostAlike l dC dI x cI H.size X s2 r_17 ) (cwV 1 hts gX5_ask_X5_mostAlike rfl rfl rfl (by decide +kernel) ⟨Nat.le_of_ble_eq_true rfl, Nat.le_of_ble_eq_true rfl⟩) (hK.sub [0] rfl) hK hP hD hS hA hN rfl rfl (by decide) (by decide) (by decide) (by decide) (fun _ => rfl) rfl rfl rfl rfl hl.1 rfl (Nat.le_of_ble_eq_true rfl) dX5_ask_85 ⟨Nat.zero_le _, Nat.zero_le _⟩ (fun r_85 u_85 H locs hw_85 hP hD hS => ?_)
                  have hP : va_P (dC, dI) vwCl ((xO x X) ++ (fO ((fun i => x (1 + i)))) ++ (pW ((fun i => x (2 + i))) cI P) ++ (rW ((fun i => x (9 + i))) cI 4 24 Ma) ++ ([(x 15, .inl (cI, 3, .inl Rf))]) ++ ([(x 57, .inl (cI, 6, .inl s2))])) H := hP
                  have hD : va_D A ((xO x X) ++ (fO ((fun i => x (1 + i)))) ++ (pW ((fun i => x (2 + i))) cI P) ++ (rW ((fun i => x (9 + i))) cI 4 24 Ma) ++ ([(x 15, .inl (cI, 3, .inl Rf))]) ++ ([(x 57, .inl (cI, 6, .inl s2))])) := hD
                  rw [hw_85, let1_mk r_85] at hF
                  refine lv_istore (lv' := [(6, .int r_85), (5, .int (nI g)), (4, .int fw), (3, .int bs), (2, .int r_17), (0, .ref (x 0)), (1, .int i)]) hx hb dX5_ask_88 hl (by decide) rfl (fun ls hl => ?_)
                  refine lv_iload hx hb dX5_ask_90 (lv_at hl 0 rfl) ?_
                  refine lv_iload hx hb dX5_ask_92 (lv_at hl 2 rfl) ?_
                  refine lv_icmp_ge (tgt := 104) hx hb dX5_ask_94 (by decide) (fun c_94 => ?_) (fun c_94 => ?_)
                  · rw [if_pos c_94] at hF
                    refine lv_iinc (v := nI (g + 1)) (lv' := [(5, .int (nI (g + 1))), (6, .int r_85), (4, .int fw), (3, .int bs), (2, .int r_17), (0, .ref (x 0)), (1, .int i)]) hx hb dX5_ask_104 hl (k := 1) rfl (qn_inc (c := 1) rfl (by omega)) (by decide) rfl (fun ls hl => ?_)
                    refine lv_goto (tgt := 30) hx hb dX5_ask_107 (by decide) ?_
                    exact ih_30 (g + 1) bs fw s2 H locs (by omega) (by omega) hP hD hS ls (lv_sub hl [0, 2, 3, 4, 5, 6] rfl) hF
                  · rw [if_neg c_94] at hF
                    refine lv_iload hx hb dX5_ask_97 (lv_at hl 0 rfl) ?_
                    refine lv_istore (lv' := [(4, .int r_85), (6, .int r_85), (5, .int (nI g)), (3, .int bs), (2, .int r_17), (0, .ref (x 0)), (1, .int i)]) hx hb dX5_ask_99 hl (by decide) rfl (fun ls hl => ?_)
                    refine lv_iload hx hb dX5_ask_101 (lv_at hl 2 rfl) ?_
                    refine lv_istore_n (lv' := [(3, .int (nI g)), (4, .int r_85), (6, .int r_85), (5, .int (nI g)), (2, .int r_17), (0, .ref (x 0)), (1, .int i)]) hx hb dX5_ask_103 rfl hl (by decide) rfl (fun ls hl => ?_)
                    refine lv_iinc (v := nI (g + 1)) (lv' := [(5, .int (nI (g + 1))), (3, .int (nI g)), (4, .int r_85), (6, .int r_85), (2, .int r_17), (0, .ref (x 0)), (1, .int i)]) hx hb dX5_ask_104 hl (k := 3) rfl (qn_inc (c := 1) rfl (by omega)) (by decide) rfl (fun ls hl => ?_)
                    refine lv_goto (tgt := 30) hx hb dX5_ask_107 (by decide) ?_
                    exact ih_30 (g + 1) (nI g) r_85 s2 H locs (by omega) (by omega) hP hD hS ls (lv_sub hl [0, 2, 1, 4, 5, 6] rfl) hF
                · rw [if_neg c_48] at hF
                  refine lv_aload_n hx hb dX5_ask_51 rfl (lv_at hl 5 rfl) ?_
                  refine va_get (D := (dC, dI)) (ci := 5) (v := .ref (x 57)) (C := RX5) (T := TX5) (N := 14) hx hb hts hin5 hown hK hP 0 rfl rfl 12 (by decide) lk58 (fun _ h9 => h9) rfl dX5_ask_52 ?_
                  refine lv_iload hx hb dX5_ask_55 (lv_at hl 0 rfl) ?_
                  refine lv_iload hx hb dX5_ask_57 (lv_at hl 0 rfl) ?_
                  refine lv_aload_n hx hb dX5_ask_59 rfl (lv_at hl 5 rfl) ?_
                  refine va_get (D := (dC, dI)) (ci := 5) (v := .ref (x 1)) (C := RX5) (T := TX5) (N := 14) hx hb hts hin5 hown hK hP 0 rfl rfl 0 (by decide) lk12 (fun _ h9 => h9) rfl dX5_ask_60 ?_
                  refine va_get (D := (dC, dI)) (ci := 1) (v := .ref (x 2)) (C := RX1) (T := TX1) (N := 5) hx hb hts hin1 hown hK hP 1 rfl rfl 0 (by decide) lk74 (fun _ h9 => h9) rfl dX5_ask_63 ?_
                  refine va_get (D := (dC, dI)) (ci := 2) (v := .ref (x 4)) (C := RX2) (T := TX2) (N := 8) hx hb hts hin2 hown hK hP 2 rfl rfl 3 (by decide) lk222 (fun _ h9 => h9) rfl dX5_ask_66 ?_
                  refine lv_iload_n hx hb dX5_ask_69 rfl (lv_at hl 6 rfl) ?_
                  refine qv_top (e_i) ?_
                  refine qv_ald (v := (Plg P) (tN i)) hx hb hK hP 4 0 rfl rfl (by omega) (by decide) (rfl) dX5_ask_70 ?_
                  refine lv_iload hx hb dX5_ask_71 (lv_at hl 1 rfl) ?_
                  refine qc_Si (As := [.int (nI kd), .int ((Plg P) (tN i)), .int (nI g)]) (rest := [.int (nI kd), .ref (x 57)]) ⟨hx, hb, hml, hown, hts⟩ (c_X5_postsRun l (nI kd) ((Plg P) (tN i)) (nI g)) (va_cwS 3 hts gX5_ask_X5_postsRun rfl rfl rfl (by decide +kernel) ⟨Nat.le_of_ble_eq_true rfl, Nat.le_of_ble_eq_true rfl⟩) rfl hl.1 rfl (Nat.le_of_ble_eq_true rfl) dX5_ask_73 ⟨Nat.zero_le _, Nat.zero_le _⟩ (fun r_73 hw_73 => ?_)
                  subst hw_73
                  refine qv_ast (ws' := (xO x X) ++ (fO ((fun i => x (1 + i)))) ++ (pW ((fun i => x (2 + i))) cI P) ++ (rW ((fun i => x (9 + i))) cI 4 24 Ma) ++ ([(x 15, .inl (cI, 3, .inl Rf))]) ++ ([(x 57, .inl (cI, 6, .inl (upd s2 kd (F_X5_postsRun (nI kd) ((Plg P) (tN i)) (nI g)))))])) hx hb hK hP hD hS 9 0 rfl rfl (by omega) (by decide) dX5_ask_76 rfl (fun H locs hP hD hS => ?_)
                  refine lv_iinc (v := nI (kd + 1)) (lv' := [(6, .int (nI (kd + 1))), (5, .int (nI g)), (4, .int fw), (3, .int bs), (2, .int r_17), (0, .ref (x 0)), (1, .int i)]) hx hb dX5_ask_77 hl (k := 0) rfl (qn_inc (c := 1) rfl (by omega)) (by decide) rfl (fun ls hl => ?_)
                  refine lv_goto (tgt := 44) hx hb dX5_ask_80 (by decide) ?_
                  exact ih_44 (kd + 1) (upd s2 kd (F_X5_postsRun (nI kd) ((Plg P) (tN i)) (nI g))) H locs (by omega) (by omega) hP hD hS ls (lv_sub hl [0, 1, 2, 3, 4, 5, 6] rfl) hF
            exact L_44 7 0 s1 H locs (by omega) (by omega) hP hD hS ls (lv_sub hl [0, 1, 2, 3, 4, 5, 6] rfl) hF
    exact L_30 21 1 ((-1)) (nI 7) Se H locs (by omega) (by omega) hP hD hS ls (lv_sub hl [0, 1, 2, 3, 4, 5] rfl) hF
  · rw [if_neg c_5] at hF
    refine lv_aload_n hx hb dX5_ask_8 rfl (lv_at hl 0 rfl) ?_
    refine lv_bipush (v := (-2)) hx hb dX5_ask_9 (by decide) ?_
    refine qx_Vi (C := RX5) (As := [.int ((-2))]) (rest := []) (ci := 5) (k0 := 0) (wr := (fO ((fun i => x (1 + i)))) ++ (pW ((fun i => x (2 + i))) cI P) ++ (rW ((fun i => x (9 + i))) cI 4 24 Ma) ++ ([(x 57, .inl (cI, 6, .inl Se))])) (ws2 := fun u => (xO x X) ++ (fO ((fun i => x (1 + i)))) ++ (pW ((fun i => x (2 + i))) cI P) ++ (rW ((fun i => x (9 + i))) cI 4 24 Ma) ++ ([(x 15, .inl (cI, 3, .inl u))]) ++ ([(x 57, .inl (cI, 6, .inl Se))])) [0, 8] [1, 2, 3, 4, 5, 6, 7, 9] [8, 0, 1, 2, 3, 4, 5, 6, 9, 7] ⟨hx, hb, hml, hown, hts⟩ (c_X5_refuse l dC dI x cI H.size X Rf ((-2)) ) (cwV 1 hts gX5_ask_X5_refuse rfl rfl rfl (by decide +kernel) ⟨Nat.le_of_ble_eq_true rfl, Nat.le_of_ble_eq_true rfl⟩) (hK.sub [0] rfl) hK hP hD hS hA hN rfl rfl (by decide) (by decide) (by decide) (by decide) (fun _ => rfl) rfl rfl rfl rfl hl.1 rfl (Nat.le_of_ble_eq_true rfl) dX5_ask_11 ⟨Nat.zero_le _, Nat.zero_le _⟩ (fun r_11 u_11 H locs hw_11 hP hD hS => ?_)
    obtain ⟨Rf_11, rfl⟩ : ∃ z, z = u_11 := ⟨_, rfl⟩
    have hP : va_P (dC, dI) vwCl ((xO x X) ++ (fO ((fun i => x (1 + i)))) ++ (pW ((fun i => x (2 + i))) cI P) ++ (rW ((fun i => x (9 + i))) cI 4 24 Ma) ++ ([(x 15, .inl (cI, 3, .inl Rf_11))]) ++ ([(x 57, .inl (cI, 6, .inl Se))])) H := hP
    have hD : va_D A ((xO x X) ++ (fO ((fun i => x (1 + i)))) ++ (pW ((fun i => x (2 + i))) cI P) ++ (rW ((fun i => x (9 + i))) cI 4 24 Ma) ++ ([(x 15, .inl (cI, 3, .inl Rf_11))]) ++ ([(x 57, .inl (cI, 6, .inl Se))])) := hD
    rw [hw_11, let2_mk r_11 Rf_11] at hF
    have hP9 : va_P (dC, dI) vwCl ((xO x X) ++ (fO ((fun i => x (1 + i)))) ++ (pW ((fun i => x (2 + i))) cI P) ++ (rW ((fun i => x (9 + i))) cI 4 24 Ma) ++ ([(x 15, .inl (cI, 3, .inl Rf_11))]) ++ ([(x 57, .inl (cI, 6, .inl Se))])) H := hP
    exact W.iret (v := r_11) hx hb hr (fun t ht hW => ⟨⟨_, ((Se, Rf_11)), rfl, hO.symm.trans hF, by rw [ht]; exact hP9, va_K.moved hW.alike hK, hD⟩, hS.F ht⟩) hS.2.2 dX5_ask_14
