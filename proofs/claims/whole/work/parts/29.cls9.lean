abbrev dS : Type := Nat × Nat × Nat × Int32 × Int32
abbrev Dln (D : dS) : Nat := D.1
abbrev Dbh (D : dS) : Nat := D.2.1
abbrev Dsa (D : dS) : Nat := D.2.2.1
abbrev Dtk (D : dS) : Int32 := D.2.2.2.1
abbrev Dvl (D : dS) : Int32 := D.2.2.2.2
def F_X3_isLetter (c0 : Int32) : Bool := if c0 < (nI 97) then false else (if (nI 122) < c0 then false else true)
set_option maxHeartbeats 4000000 in
set_option maxRecDepth 100000 in
theorem c_X3_isLetter (l : Launch) (c0 : Int32) : Met l yX3_isLetter wsX3_isLetter { frames := 0, cells := 0, slots := 0, locals := 0 } (va_Pc [.int c0] (fun _ => True)) (vp_Si (fun r => r = if F_X3_isLetter c0 = true then 1 else 0)) 0 0 (fun _ => False) := by
  refine Met.ofW (cc := cX3_isLetter) (maxL := 1) (ret := (some .boolean)) (by decide) rfl ?_
  intro p e s m args below meth c s₁ B hml hv
  obtain ⟨rfl, -⟩ := hv
  have hx := B.exec
  have hb := B.bytes
  have hr := B.returns
  have hts := atoms_spec (ws := wsX3_isLetter) B.pre
  have hown : s.vm.findClass RX3 = some m.cls := findClass_of_methodNamed B.named
  have hlocks := B.notSynchronized
  have hl := lv_entry ([.int c0]) (n := 1) (Nat.le_of_ble_eq_true rfl)
  rw [lg_entry_eq]
  generalize (lg_sl ([.int c0]) ++ List.replicate (1 - (lg_sl ([.int c0])).length) Slot.unset).toArray = ls at hl ⊢
  have hl : lv_has ls 1 [(0, .int c0)] := hl
  obtain ⟨OUT, hO⟩ : ∃ z, z = F_X3_isLetter c0 := ⟨_, rfl⟩
  have hF := hO
  unfold F_X3_isLetter at hF
  refine lv_iload_n hx hb dX3_isLetter_0 rfl (lv_at hl 0 rfl) ?_
  refine lv_bipush (v := nI 97) hx hb dX3_isLetter_1 (by decide) ?_
  refine lv_icmp_lt (tgt := 16) hx hb dX3_isLetter_3 (by decide) (fun c_3 => ?_) (fun c_3 => ?_)
  · rw [if_pos c_3] at hF
    refine lv_iconst (v := nI 0) hx hb dX3_isLetter_16 (by decide) ?_
    have hq : (nI 0 : Int32) = if F_X3_isLetter c0 = true then 1 else 0 := by rw [← hO, hF] <;> rfl
    exact W.zret (v := nI 0) hx hb hr (by rfl) (fun t ht hW => ⟨_, rfl, hq, ht⟩) (fun _ h => by cases h) dX3_isLetter_17
  · rw [if_neg c_3] at hF
    refine lv_iload_n hx hb dX3_isLetter_6 rfl (lv_at hl 0 rfl) ?_
    refine lv_bipush (v := nI 122) hx hb dX3_isLetter_7 (by decide) ?_
    refine lv_icmp_gt (tgt := 16) hx hb dX3_isLetter_9 (by decide) (fun c_9 => ?_) (fun c_9 => ?_)
    · rw [if_pos c_9] at hF
      refine lv_iconst (v := nI 0) hx hb dX3_isLetter_16 (by decide) ?_
      have hq : (nI 0 : Int32) = if F_X3_isLetter c0 = true then 1 else 0 := by rw [← hO, hF] <;> rfl
      exact W.zret (v := nI 0) hx hb hr (by rfl) (fun t ht hW => ⟨_, rfl, hq, ht⟩) (fun _ h => by cases h) dX3_isLetter_17
    · rw [if_neg c_9] at hF
      refine lv_iconst (v := nI 1) hx hb dX3_isLetter_12 (by decide) ?_
      refine lv_goto (tgt := 17) hx hb dX3_isLetter_13 (by decide) ?_
      have hq : (nI 1 : Int32) = if F_X3_isLetter c0 = true then 1 else 0 := by rw [← hO, hF] <;> rfl
      exact W.zret (v := nI 1) hx hb hr (by rfl) (fun t ht hW => ⟨_, rfl, hq, ht⟩) (fun _ h => by cases h) dX3_isLetter_17
def F_X3_isFigure (c0 : Int32) : Bool := if c0 < (nI 48) then false else (if (nI 57) < c0 then false else true)
set_option maxHeartbeats 4000000 in
set_option maxRecDepth 100000 in
theorem c_X3_isFigure (l : Launch) (c0 : Int32) : Met l yX3_isFigure wsX3_isFigure { frames := 0, cells := 0, slots := 0, locals := 0 } (va_Pc [.int c0] (fun _ => True)) (vp_Si (fun r => r = if F_X3_isFigure c0 = true then 1 else 0)) 0 0 (fun _ => False) := by
  refine Met.ofW (cc := cX3_isFigure) (maxL := 1) (ret := (some .boolean)) (by decide) rfl ?_
  intro p e s m args below meth c s₁ B hml hv
  obtain ⟨rfl, -⟩ := hv
  have hx := B.exec
  have hb := B.bytes
  have hr := B.returns
  have hts := atoms_spec (ws := wsX3_isFigure) B.pre
  have hown : s.vm.findClass RX3 = some m.cls := findClass_of_methodNamed B.named
  have hlocks := B.notSynchronized
  have hl := lv_entry ([.int c0]) (n := 1) (Nat.le_of_ble_eq_true rfl)
  rw [lg_entry_eq]
  generalize (lg_sl ([.int c0]) ++ List.replicate (1 - (lg_sl ([.int c0])).length) Slot.unset).toArray = ls at hl ⊢
  have hl : lv_has ls 1 [(0, .int c0)] := hl
  obtain ⟨OUT, hO⟩ : ∃ z, z = F_X3_isFigure c0 := ⟨_, rfl⟩
  have hF := hO
  unfold F_X3_isFigure at hF
  refine lv_iload_n hx hb dX3_isFigure_0 rfl (lv_at hl 0 rfl) ?_
  refine lv_bipush (v := nI 48) hx hb dX3_isFigure_1 (by decide) ?_
  refine lv_icmp_lt (tgt := 16) hx hb dX3_isFigure_3 (by decide) (fun c_3 => ?_) (fun c_3 => ?_)
  · rw [if_pos c_3] at hF
    refine lv_iconst (v := nI 0) hx hb dX3_isFigure_16 (by decide) ?_
    have hq : (nI 0 : Int32) = if F_X3_isFigure c0 = true then 1 else 0 := by rw [← hO, hF] <;> rfl
    exact W.zret (v := nI 0) hx hb hr (by rfl) (fun t ht hW => ⟨_, rfl, hq, ht⟩) (fun _ h => by cases h) dX3_isFigure_17
  · rw [if_neg c_3] at hF
    refine lv_iload_n hx hb dX3_isFigure_6 rfl (lv_at hl 0 rfl) ?_
    refine lv_bipush (v := nI 57) hx hb dX3_isFigure_7 (by decide) ?_
    refine lv_icmp_gt (tgt := 16) hx hb dX3_isFigure_9 (by decide) (fun c_9 => ?_) (fun c_9 => ?_)
    · rw [if_pos c_9] at hF
      refine lv_iconst (v := nI 0) hx hb dX3_isFigure_16 (by decide) ?_
      have hq : (nI 0 : Int32) = if F_X3_isFigure c0 = true then 1 else 0 := by rw [← hO, hF] <;> rfl
      exact W.zret (v := nI 0) hx hb hr (by rfl) (fun t ht hW => ⟨_, rfl, hq, ht⟩) (fun _ h => by cases h) dX3_isFigure_17
    · rw [if_neg c_9] at hF
      refine lv_iconst (v := nI 1) hx hb dX3_isFigure_12 (by decide) ?_
      refine lv_goto (tgt := 17) hx hb dX3_isFigure_13 (by decide) ?_
      have hq : (nI 1 : Int32) = if F_X3_isFigure c0 = true then 1 else 0 := by rw [← hO, hF] <;> rfl
      exact W.zret (v := nI 1) hx hb hr (by rfl) (fun t ht hW => ⟨_, rfl, hq, ht⟩) (fun _ h => by cases h) dX3_isFigure_17
def F_X3_byteAt (Rd : dS) (Tx : Nat → Int32) (pl : Nat) : Int32 := if (Dln Rd) ≤ pl then (-1) else Tx pl
set_option maxHeartbeats 4000000 in
set_option maxRecDepth 100000 in
theorem c_X3_byteAt (l : Launch) (dC : Nat → ClassId) (dI : Nat → Nat → Nat) (x : Nat → Nat) (cI : ClassId) (sz : Nat) (Rd : dS) (Tx : Nat → Int32) (pl : Nat) (hL : Dln Rd ≤ 150) (h1 : pl < 2 ^ 31) : Met l yX3_byteAt wsX3_byteAt { frames := 0, cells := 0, slots := 0, locals := 0 } (xPc (dC, dI) vwCl (xT cI) ([(x 16, .inr (3, [.ref (x 17), .ref (x 14), .int (nI ((Dln Rd))), .int (nI ((Dbh Rd))), .int (nI ((Dsa Rd))), .int (Dtk Rd), .int (Dvl Rd)])), (x 14, .inl (cI, 150, .inl Tx))]) sz [.ref (x 16), .int (nI pl)]) (va_Qi (fun (r : Int32) (u : Unit) => F_X3_byteAt Rd Tx pl = r) (mB (dC, dI) vwCl (xT cI) (va_A ([(x 16, .inr (3, [.ref (x 17), .ref (x 14), .int (nI ((Dln Rd))), .int (nI ((Dbh Rd))), .int (nI ((Dsa Rd))), .int (Dtk Rd), .int (Dvl Rd)])), (x 14, .inl (cI, 150, .inl Tx))]) sz) (fun u => [(x 16, .inr (3, [.ref (x 17), .ref (x 14), .int (nI ((Dln Rd))), .int (nI ((Dbh Rd))), .int (nI ((Dsa Rd))), .int (Dtk Rd), .int (Dvl Rd)])), (x 14, .inl (cI, 150, .inl Tx))])) (va_A ([(x 16, .inr (3, [.ref (x 17), .ref (x 14), .int (nI ((Dln Rd))), .int (nI ((Dbh Rd))), .int (nI ((Dsa Rd))), .int (Dtk Rd), .int (Dvl Rd)])), (x 14, .inl (cI, 150, .inl Tx))]) sz)) 0 0 (va_A ([(x 16, .inr (3, [.ref (x 17), .ref (x 14), .int (nI ((Dln Rd))), .int (nI ((Dbh Rd))), .int (nI ((Dsa Rd))), .int (Dtk Rd), .int (Dvl Rd)])), (x 14, .inl (cI, 150, .inl Tx))]) sz) := by
  refine Met.ofW (cc := cX3_byteAt) (maxL := 2) (ret := (some .int)) (by decide) rfl ?_
  intro p e s m args below meth c s₁ B hml hv
  obtain ⟨rfl, hsz, hP, hK, hD0, hN⟩ := hv
  have hx := B.exec
  have hb := B.bytes
  have hr := B.returns
  have hts := atoms_spec (ws := wsX3_byteAt) B.pre
  have hown : s.vm.findClass RX3 = some m.cls := findClass_of_methodNamed B.named
  have hlocks := B.notSynchronized
  subst hsz
  have hD := hD0.self (sz := s.heap.size)
  generalize hAe : va_A ([(x 16, .inr (3, [.ref (x 17), .ref (x 14), .int (nI ((Dln Rd))), .int (nI ((Dbh Rd))), .int (nI ((Dsa Rd))), .int (Dtk Rd), .int (Dvl Rd)])), (x 14, .inl (cI, 150, .inl Tx))]) s.heap.size = A at hD ⊢
  have hA : ∀ q : Nat, s.heap.size ≤ q → A q := fun q h => by rw [← hAe]; exact Or.inr h
  have hS : va_S A s.heap s.heap [] := va_S.rf
  have hin3 : ∀ w ∈ wsX30, w ∈ wsX3_byteAt := by decide +kernel
  have lk18 := hts (.fieldLink RX3 18 "PostRounders$Reader" "bytes" "[I") (by decide +kernel)
  have lk28 := hts (.fieldLink RX3 28 "PostRounders$Reader" "length" "I") (by decide +kernel)
  have hl := lv_entry ([.ref (x 16), .int (nI pl)]) (n := 2) (Nat.le_of_ble_eq_true rfl)
  rw [lg_entry_eq]
  generalize (lg_sl ([.ref (x 16), .int (nI pl)]) ++ List.replicate (2 - (lg_sl ([.ref (x 16), .int (nI pl)])).length) Slot.unset).toArray = ls at hl ⊢
  have hl : lv_has ls 2 [(0, .ref (x 16)), (1, .int (nI pl))] := hl
  obtain ⟨OUT, hO⟩ : ∃ z, z = F_X3_byteAt Rd Tx pl := ⟨_, rfl⟩
  have hF := hO
  unfold F_X3_byteAt at hF
  refine lv_iload_n hx hb dX3_byteAt_0 rfl (lv_at hl 1 rfl) ?_
  refine lv_if_lt (tgt := 21) hx hb dX3_byteAt_1 (by decide) (fun c_1 => absurd c_1 (nI_pos (by omega))) (fun _ => ?_)
  refine lv_iload_n hx hb dX3_byteAt_4 rfl (lv_at hl 1 rfl) ?_
  refine lv_aload_n hx hb dX3_byteAt_5 rfl (lv_at hl 0 rfl) ?_
  refine va_get (D := (dC, dI)) (ci := 3) (v := .int (nI ((Dln Rd)))) (C := RX3) (T := TX3) (N := 7) hx hb hts hin3 hown hK hP 0 rfl rfl 2 (by decide) lk28 (fun _ h9 => h9) rfl dX3_byteAt_6 ?_
  refine qv_icmp_ge (tgt := 21) hx hb dX3_byteAt_9 (by decide) (by omega) (by omega) (fun c_9 => ?_) (fun c_9 => ?_)
  · rw [if_pos c_9] at hF
    refine lv_iconst (v := (-1)) hx hb dX3_byteAt_21 (by decide) ?_
    have hP9 : va_P (dC, dI) vwCl ([(x 16, .inr (3, [.ref (x 17), .ref (x 14), .int (nI ((Dln Rd))), .int (nI ((Dbh Rd))), .int (nI ((Dsa Rd))), .int (Dtk Rd), .int (Dvl Rd)])), (x 14, .inl (cI, 150, .inl Tx))]) s.heap := hP
    exact W.iret (v := (-1)) hx hb hr (fun t ht hW => ⟨⟨_, (()), rfl, hO.symm.trans hF, by rw [ht]; exact hP9, va_K.moved hW.alike hK, hD⟩, hS.F ht⟩) hS.2.2 dX3_byteAt_22
  · rw [if_neg c_9] at hF
    refine lv_aload_n hx hb dX3_byteAt_12 rfl (lv_at hl 0 rfl) ?_
    refine va_get (D := (dC, dI)) (ci := 3) (v := .ref (x 14)) (C := RX3) (T := TX3) (N := 7) hx hb hts hin3 hown hK hP 0 rfl rfl 1 (by decide) lk18 (fun _ h9 => h9) rfl dX3_byteAt_13 ?_
    refine lv_iload_n hx hb dX3_byteAt_16 rfl (lv_at hl 1 rfl) ?_
    refine qv_ald (v := Tx pl) hx hb hK hP 1 0 rfl rfl (by omega) (by decide) (rfl) dX3_byteAt_17 ?_
    refine lv_goto (tgt := 22) hx hb dX3_byteAt_18 (by decide) ?_
    have hP9 : va_P (dC, dI) vwCl ([(x 16, .inr (3, [.ref (x 17), .ref (x 14), .int (nI ((Dln Rd))), .int (nI ((Dbh Rd))), .int (nI ((Dsa Rd))), .int (Dtk Rd), .int (Dvl Rd)])), (x 14, .inl (cI, 150, .inl Tx))]) s.heap := hP
    exact W.iret (v := Tx pl) hx hb hr (fun t ht hW => ⟨⟨_, (()), rfl, hO.symm.trans hF, by rw [ht]; exact hP9, va_K.moved hW.alike hK, hD⟩, hS.F ht⟩) hS.2.2 dX3_byteAt_22
def F_X3_passLetters_L0 : Nat → (dS) → (Nat → Int32) → (Nat) → (Nat)
  | 0, _, _, b => b
  | n_0 + 1, Rd, Tx, b => if (Dln Rd) ≤ b then b else let1 (F_X3_byteAt (((Dln Rd), b, (Dsa Rd), Dtk Rd, Dvl Rd)) Tx b) (fun r_16 => if (F_X3_isLetter r_16) = true then F_X3_passLetters_L0 n_0 Rd Tx (b + 1) else b)
def F_X3_passLetters (Rd : dS) (Tx : Nat → Int32) : (dS) := let1 (F_X3_passLetters_L0 151 Rd Tx ((Dbh Rd))) (fun b => (((Dln Rd), b, (Dsa Rd), Dtk Rd, Dvl Rd)))
set_option maxHeartbeats 4000000 in
set_option maxRecDepth 100000 in
theorem c_X3_passLetters (l : Launch) (dC : Nat → ClassId) (dI : Nat → Nat → Nat) (x : Nat → Nat) (cI : ClassId) (sz : Nat) (Rd : dS) (Tx : Nat → Int32) (hL : Dln Rd ≤ 150) (hB : Dbh Rd ≤ Dln Rd) : Met l yX3_passLetters wsX3_passLetters { frames := 1, cells := 0, slots := 0, locals := 21 } (xPc (dC, dI) vwCl (xT cI) ([(x 16, .inr (3, [.ref (x 17), .ref (x 14), .int (nI ((Dln Rd))), .int (nI ((Dbh Rd))), .int (nI ((Dsa Rd))), .int (Dtk Rd), .int (Dvl Rd)])), (x 14, .inl (cI, 150, .inl Tx))]) sz [.ref (x 16)]) (va_Qv (fun (u : (dS)) => F_X3_passLetters Rd Tx = u) (mB (dC, dI) vwCl (xT cI) (va_A ([(x 16, .inr (3, [.ref (x 17), .ref (x 14), .int (nI ((Dln Rd))), .int (nI ((Dbh Rd))), .int (nI ((Dsa Rd))), .int (Dtk Rd), .int (Dvl Rd)])), (x 14, .inl (cI, 150, .inl Tx))]) sz) (fun u => [(x 16, .inr (3, [.ref (x 17), .ref (x 14), .int (nI ((Dln u))), .int (nI ((Dbh u))), .int (nI ((Dsa u))), .int (Dtk u), .int (Dvl u)])), (x 14, .inl (cI, 150, .inl Tx))])) (va_A ([(x 16, .inr (3, [.ref (x 17), .ref (x 14), .int (nI ((Dln Rd))), .int (nI ((Dbh Rd))), .int (nI ((Dsa Rd))), .int (Dtk Rd), .int (Dvl Rd)])), (x 14, .inl (cI, 150, .inl Tx))]) sz)) 0 0 (va_A ([(x 16, .inr (3, [.ref (x 17), .ref (x 14), .int (nI ((Dln Rd))), .int (nI ((Dbh Rd))), .int (nI ((Dsa Rd))), .int (Dtk Rd), .int (Dvl Rd)])), (x 14, .inl (cI, 150, .inl Tx))]) sz) := by
  refine Met.ofW (cc := cX3_passLetters) (maxL := 1) (ret := none) (by decide) rfl ?_
  intro p e s m args below meth c s₁ B hml hv
  obtain ⟨rfl, hsz, hP, hK, hD0, hN⟩ := hv
  have hx := B.exec
  have hb := B.bytes
  have hr := B.returns
  have hts := atoms_spec (ws := wsX3_passLetters) B.pre
  have hown : s.vm.findClass RX3 = some m.cls := findClass_of_methodNamed B.named
  have hlocks := B.notSynchronized
  subst hsz
  have hD := hD0.self (sz := s.heap.size)
  generalize hAe : va_A ([(x 16, .inr (3, [.ref (x 17), .ref (x 14), .int (nI ((Dln Rd))), .int (nI ((Dbh Rd))), .int (nI ((Dsa Rd))), .int (Dtk Rd), .int (Dvl Rd)])), (x 14, .inl (cI, 150, .inl Tx))]) s.heap.size = A at hD ⊢
  have hA : ∀ q : Nat, s.heap.size ≤ q → A q := fun q h => by rw [← hAe]; exact Or.inr h
  have hS : va_S A s.heap s.heap [] := va_S.rf
  have hin3 : ∀ w ∈ wsX30, w ∈ wsX3_passLetters := by decide +kernel
  have lk28 := hts (.fieldLink RX3 28 "PostRounders$Reader" "length" "I") (by decide +kernel)
  have lk32 := hts (.fieldLink RX3 32 "PostRounders$Reader" "behind" "I") (by decide +kernel)
  have hl := lv_entry ([.ref (x 16)]) (n := 1) (Nat.le_of_ble_eq_true rfl)
  rw [lg_entry_eq]
  generalize (lg_sl ([.ref (x 16)]) ++ List.replicate (1 - (lg_sl ([.ref (x 16)])).length) Slot.unset).toArray = ls at hl ⊢
  have hl : lv_has ls 1 [(0, .ref (x 16))] := hl
  obtain ⟨OUT, hO⟩ : ∃ z, z = F_X3_passLetters Rd Tx := ⟨_, rfl⟩
  have hF := hO
  unfold F_X3_passLetters at hF
  have L_0 : ∀ (n_0 : Nat) (b : Nat) (H : Heap) (locs : List Loc), b ≤ Dln Rd → Dln Rd - b < n_0 → va_P (dC, dI) vwCl ([(x 16, .inr (3, [.ref (x 17), .ref (x 14), .int (nI ((Dln Rd))), .int (nI b), .int (nI ((Dsa Rd))), .int (Dtk Rd), .int (Dvl Rd)])), (x 14, .inl (cI, 150, .inl Tx))]) H → va_D A ([(x 16, .inr (3, [.ref (x 17), .ref (x 14), .int (nI ((Dln Rd))), .int (nI b), .int (nI ((Dsa Rd))), .int (Dtk Rd), .int (Dvl Rd)])), (x 14, .inl (cI, 150, .inl Tx))]) → va_S A s.heap H locs → ∀ (ls : Array Slot), lv_has ls 1 [(0, .ref (x 16))] → OUT = let1 (F_X3_passLetters_L0 n_0 Rd Tx b) (fun b => (((Dln Rd), b, (Dsa Rd), Dtk Rd, Dvl Rd))) → W p l e (headSpec wsX3_passLetters { frames := 1, cells := 0, slots := 0, locals := 21 }).room s m ([.ref (x 16)] : List Value).toArray below meth c H locs 0 0 (MQ below (va_Qv (fun (u : (dS)) => F_X3_passLetters Rd Tx = u) (mB (dC, dI) vwCl (xT cI) A (fun u => [(x 16, .inr (3, [.ref (x 17), .ref (x 14), .int (nI ((Dln u))), .int (nI ((Dbh u))), .int (nI ((Dsa u))), .int (Dtk u), .int (Dvl u)])), (x 14, .inl (cI, 150, .inl Tx))])) A) ([.ref (x 16)] : List Value).toArray s 0 0 A) (F0 m 0 ls []) := by
    intro n_0
    induction n_0 with
    | zero => intro b H locs i0 hmu; exact absurd hmu (Nat.not_lt_zero _)
    | succ n_0 ih_0 =>
      intro b H locs i0 hmu_0 hP hD hS ls hl hF
      rw [F_X3_passLetters_L0] at hF
      refine lv_aload_n hx hb dX3_passLetters_0 rfl (lv_at hl 0 rfl) ?_
      refine va_get (D := (dC, dI)) (ci := 3) (v := .int (nI b)) (C := RX3) (T := TX3) (N := 7) hx hb hts hin3 hown hK hP 0 rfl rfl 3 (by decide) lk32 (fun _ h9 => h9) rfl dX3_passLetters_1 ?_
      refine lv_aload_n hx hb dX3_passLetters_4 rfl (lv_at hl 0 rfl) ?_
      refine va_get (D := (dC, dI)) (ci := 3) (v := .int (nI ((Dln Rd)))) (C := RX3) (T := TX3) (N := 7) hx hb hts hin3 hown hK hP 0 rfl rfl 2 (by decide) lk28 (fun _ h9 => h9) rfl dX3_passLetters_5 ?_
      refine qv_icmp_ge (tgt := 38) hx hb dX3_passLetters_8 (by decide) (by omega) (by omega) (fun c_8 => ?_) (fun c_8 => ?_)
      · rw [if_pos c_8] at hF
        rw [let1_mk (b : Nat)] at hF
        have hP9 : va_P (dC, dI) vwCl ([(x 16, .inr (3, [.ref (x 17), .ref (x 14), .int (nI ((Dln Rd))), .int (nI b), .int (nI ((Dsa Rd))), .int (Dtk Rd), .int (Dvl Rd)])), (x 14, .inl (cI, 150, .inl Tx))]) H := hP
        exact W.vret hx hb hr (fun t ht hW => ⟨⟨(((Dln Rd), b, (Dsa Rd), Dtk Rd, Dvl Rd)), rfl, hO.symm.trans hF, by rw [ht]; exact hP9, va_K.moved hW.alike hK, hD⟩, hS.F ht⟩) hS.2.2 dX3_passLetters_38
      · rw [if_neg c_8] at hF
        refine lv_aload_n hx hb dX3_passLetters_11 rfl (lv_at hl 0 rfl) ?_
        refine lv_aload_n hx hb dX3_passLetters_12 rfl (lv_at hl 0 rfl) ?_
        refine va_get (D := (dC, dI)) (ci := 3) (v := .int (nI b)) (C := RX3) (T := TX3) (N := 7) hx hb hts hin3 hown hK hP 0 rfl rfl 3 (by decide) lk32 (fun _ h9 => h9) rfl dX3_passLetters_13 ?_
        refine qx_Vi (C := RX3) (As := [.int (nI b)]) (rest := []) (ci := 3) (k0 := 0) (wr := []) (ws2 := fun u => [(x 16, .inr (3, [.ref (x 17), .ref (x 14), .int (nI ((Dln Rd))), .int (nI b), .int (nI ((Dsa Rd))), .int (Dtk Rd), .int (Dvl Rd)])), (x 14, .inl (cI, 150, .inl Tx))]) [0, 1] [] [0, 1] ⟨hx, hb, hml, hown, hts⟩ (c_X3_byteAt l dC dI x cI H.size (((Dln Rd), b, (Dsa Rd), Dtk Rd, Dvl Rd)) Tx b (by omega) (by omega)) (cwV 1 hts gX3_passLetters_X3_byteAt rfl rfl rfl (by decide +kernel) ⟨Nat.le_of_ble_eq_true rfl, Nat.le_of_ble_eq_true rfl⟩) (hK.sub [0] rfl) hK hP hD hS hA hN rfl rfl (by decide) (by decide) (by decide) (by decide) (fun _ => rfl) rfl rfl rfl rfl hl.1 rfl (Nat.le_of_ble_eq_true rfl) dX3_passLetters_16 ⟨Nat.zero_le _, Nat.zero_le _⟩ (fun r_16 u_16 H locs hw_16 hP hD hS => ?_)
        have hP : va_P (dC, dI) vwCl ([(x 16, .inr (3, [.ref (x 17), .ref (x 14), .int (nI ((Dln Rd))), .int (nI b), .int (nI ((Dsa Rd))), .int (Dtk Rd), .int (Dvl Rd)])), (x 14, .inl (cI, 150, .inl Tx))]) H := hP
        have hD : va_D A ([(x 16, .inr (3, [.ref (x 17), .ref (x 14), .int (nI ((Dln Rd))), .int (nI b), .int (nI ((Dsa Rd))), .int (Dtk Rd), .int (Dvl Rd)])), (x 14, .inl (cI, 150, .inl Tx))]) := hD
        rw [hw_16, let1_mk r_16] at hF
        refine qc_Si (As := [.int r_16]) (rest := []) ⟨hx, hb, hml, hown, hts⟩ (c_X3_isLetter l r_16) (va_cwS 1 hts gX3_passLetters_X3_isLetter rfl rfl rfl (by decide +kernel) ⟨Nat.le_of_ble_eq_true rfl, Nat.le_of_ble_eq_true rfl⟩) rfl hl.1 rfl (Nat.le_of_ble_eq_true rfl) dX3_passLetters_19 ⟨Nat.zero_le _, Nat.zero_le _⟩ (fun r_19 hw_19 => ?_)
        subst hw_19
        refine qv_zif_eq (tgt := 38) hx hb dX3_passLetters_22 (by decide) (fun c_22 => ?_) (fun c_22 => ?_)
        · rw [if_neg c_22] at hF
          rw [let1_mk (b : Nat)] at hF
          have hP9 : va_P (dC, dI) vwCl ([(x 16, .inr (3, [.ref (x 17), .ref (x 14), .int (nI ((Dln Rd))), .int (nI b), .int (nI ((Dsa Rd))), .int (Dtk Rd), .int (Dvl Rd)])), (x 14, .inl (cI, 150, .inl Tx))]) H := hP
          exact W.vret hx hb hr (fun t ht hW => ⟨⟨(((Dln Rd), b, (Dsa Rd), Dtk Rd, Dvl Rd)), rfl, hO.symm.trans hF, by rw [ht]; exact hP9, va_K.moved hW.alike hK, hD⟩, hS.F ht⟩) hS.2.2 dX3_passLetters_38
        · rw [if_pos c_22] at hF
          refine lv_aload_n hx hb dX3_passLetters_25 rfl (lv_at hl 0 rfl) ?_
          refine lv_dup hx hb dX3_passLetters_26 rfl ?_
          refine va_get (D := (dC, dI)) (ci := 3) (v := .int (nI b)) (C := RX3) (T := TX3) (N := 7) hx hb hts hin3 hown hK hP 0 rfl rfl 3 (by decide) lk32 (fun _ h9 => h9) rfl dX3_passLetters_27 ?_
          refine lv_iconst (v := nI 1) hx hb dX3_passLetters_30 (by decide) ?_
          refine qv_iadd hx hb (b + 1) dX3_passLetters_31 (by omega) ?_
          refine va_put (D := (dC, dI)) (ci := 3) (v := .int (nI (b + 1))) (ty := .int) (C := RX3) (T := TX3) (N := 7) hx hb hts hin3 tyX3 tyX3_ok nmX3 hown hK hP hD hS 0 rfl rfl 3 (by decide) lk32 (fun _ h9 => h9) rfl (by decide +kernel) rfl rfl (Nat.le_of_ble_eq_true rfl) dX3_passLetters_32 (fun H locs hP hD hS => ?_)
          have hP : va_P (dC, dI) vwCl ([(x 16, .inr (3, [.ref (x 17), .ref (x 14), .int (nI ((Dln Rd))), .int (nI (b + 1)), .int (nI ((Dsa Rd))), .int (Dtk Rd), .int (Dvl Rd)])), (x 14, .inl (cI, 150, .inl Tx))]) H := hP
          have hD : va_D A ([(x 16, .inr (3, [.ref (x 17), .ref (x 14), .int (nI ((Dln Rd))), .int (nI (b + 1)), .int (nI ((Dsa Rd))), .int (Dtk Rd), .int (Dvl Rd)])), (x 14, .inl (cI, 150, .inl Tx))]) := hD
          refine lv_goto (tgt := 0) hx hb dX3_passLetters_35 (by decide) ?_
          exact ih_0 (b + 1) H locs (by omega) (by omega) hP hD hS ls (lv_sub hl [0] rfl) hF
  exact L_0 151 ((Dbh Rd)) s.heap [] (by omega) (by omega) hP hD hS ls (lv_sub hl [0] rfl) hF
def F_X3_passFigures_L5 : Nat → (dS) → (Nat → Int32) → (Nat) → (Int32) → (Nat) × (Int32)
  | 0, _, _, b, v => (b, v)
  | n_5 + 1, Rd, Tx, b, v => if (Dln Rd) ≤ b then (b, v) else let1 (F_X3_byteAt (((Dln Rd), b, (Dsa Rd), Dtk Rd, v)) Tx b) (fun r_21 => if (F_X3_isFigure r_21) = true then let1 (F_X3_byteAt (((Dln Rd), b, (Dsa Rd), Dtk Rd, v)) Tx b) (fun r_43 => F_X3_passFigures_L5 n_5 Rd Tx (b + 1) ((((nI 10) * v) + r_21) - (nI 48))) else (b, v))
def F_X3_passFigures (Rd : dS) (Tx : Nat → Int32) : (dS) := let2 (F_X3_passFigures_L5 151 Rd Tx ((Dbh Rd)) (nI 0)) (fun b v => (((Dln Rd), b, (Dsa Rd), Dtk Rd, v)))
set_option maxHeartbeats 4000000 in
set_option maxRecDepth 100000 in
theorem c_X3_passFigures (l : Launch) (dC : Nat → ClassId) (dI : Nat → Nat → Nat) (x : Nat → Nat) (cI : ClassId) (sz : Nat) (Rd : dS) (Tx : Nat → Int32) (hL : Dln Rd ≤ 150) (hB : Dbh Rd ≤ Dln Rd) : Met l yX3_passFigures wsX3_passFigures { frames := 1, cells := 0, slots := 0, locals := 21 } (xPc (dC, dI) vwCl (xT cI) ([(x 16, .inr (3, [.ref (x 17), .ref (x 14), .int (nI ((Dln Rd))), .int (nI ((Dbh Rd))), .int (nI ((Dsa Rd))), .int (Dtk Rd), .int (Dvl Rd)])), (x 14, .inl (cI, 150, .inl Tx))]) sz [.ref (x 16)]) (va_Qv (fun (u : (dS)) => F_X3_passFigures Rd Tx = u) (mB (dC, dI) vwCl (xT cI) (va_A ([(x 16, .inr (3, [.ref (x 17), .ref (x 14), .int (nI ((Dln Rd))), .int (nI ((Dbh Rd))), .int (nI ((Dsa Rd))), .int (Dtk Rd), .int (Dvl Rd)])), (x 14, .inl (cI, 150, .inl Tx))]) sz) (fun u => [(x 16, .inr (3, [.ref (x 17), .ref (x 14), .int (nI ((Dln u))), .int (nI ((Dbh u))), .int (nI ((Dsa u))), .int (Dtk u), .int (Dvl u)])), (x 14, .inl (cI, 150, .inl Tx))])) (va_A ([(x 16, .inr (3, [.ref (x 17), .ref (x 14), .int (nI ((Dln Rd))), .int (nI ((Dbh Rd))), .int (nI ((Dsa Rd))), .int (Dtk Rd), .int (Dvl Rd)])), (x 14, .inl (cI, 150, .inl Tx))]) sz)) 0 0 (va_A ([(x 16, .inr (3, [.ref (x 17), .ref (x 14), .int (nI ((Dln Rd))), .int (nI ((Dbh Rd))), .int (nI ((Dsa Rd))), .int (Dtk Rd), .int (Dvl Rd)])), (x 14, .inl (cI, 150, .inl Tx))]) sz) := by
  refine Met.ofW (cc := cX3_passFigures) (maxL := 1) (ret := none) (by decide) rfl ?_
  intro p e s m args below meth c s₁ B hml hv
  obtain ⟨rfl, hsz, hP, hK, hD0, hN⟩ := hv
  have hx := B.exec
  have hb := B.bytes
  have hr := B.returns
  have hts := atoms_spec (ws := wsX3_passFigures) B.pre
  have hown : s.vm.findClass RX3 = some m.cls := findClass_of_methodNamed B.named
  have hlocks := B.notSynchronized
  subst hsz
  have hD := hD0.self (sz := s.heap.size)
  generalize hAe : va_A ([(x 16, .inr (3, [.ref (x 17), .ref (x 14), .int (nI ((Dln Rd))), .int (nI ((Dbh Rd))), .int (nI ((Dsa Rd))), .int (Dtk Rd), .int (Dvl Rd)])), (x 14, .inl (cI, 150, .inl Tx))]) s.heap.size = A at hD ⊢
  have hA : ∀ q : Nat, s.heap.size ≤ q → A q := fun q h => by rw [← hAe]; exact Or.inr h
  have hS : va_S A s.heap s.heap [] := va_S.rf
  have hin3 : ∀ w ∈ wsX30, w ∈ wsX3_passFigures := by decide +kernel
  have lk28 := hts (.fieldLink RX3 28 "PostRounders$Reader" "length" "I") (by decide +kernel)
  have lk32 := hts (.fieldLink RX3 32 "PostRounders$Reader" "behind" "I") (by decide +kernel)
  have lk68 := hts (.fieldLink RX3 68 "PostRounders$Reader" "value" "I") (by decide +kernel)
  have hl := lv_entry ([.ref (x 16)]) (n := 1) (Nat.le_of_ble_eq_true rfl)
  rw [lg_entry_eq]
  generalize (lg_sl ([.ref (x 16)]) ++ List.replicate (1 - (lg_sl ([.ref (x 16)])).length) Slot.unset).toArray = ls at hl ⊢
  have hl : lv_has ls 1 [(0, .ref (x 16))] := hl
  obtain ⟨OUT, hO⟩ : ∃ z, z = F_X3_passFigures Rd Tx := ⟨_, rfl⟩
  have hF := hO
  unfold F_X3_passFigures at hF
  refine lv_aload_n hx hb dX3_passFigures_0 rfl (lv_at hl 0 rfl) ?_
  refine lv_iconst (v := nI 0) hx hb dX3_passFigures_1 (by decide) ?_
  refine va_put (D := (dC, dI)) (ci := 3) (v := .int (nI 0)) (ty := .int) (C := RX3) (T := TX3) (N := 7) hx hb hts hin3 tyX3 tyX3_ok nmX3 hown hK hP hD hS 0 rfl rfl 6 (by decide) lk68 (fun _ h9 => h9) rfl (by decide +kernel) rfl rfl (Nat.le_of_ble_eq_true rfl) dX3_passFigures_2 (fun H locs hP hD hS => ?_)
  have hP : va_P (dC, dI) vwCl ([(x 16, .inr (3, [.ref (x 17), .ref (x 14), .int (nI ((Dln Rd))), .int (nI ((Dbh Rd))), .int (nI ((Dsa Rd))), .int (Dtk Rd), .int (nI 0)])), (x 14, .inl (cI, 150, .inl Tx))]) H := hP
  have hD : va_D A ([(x 16, .inr (3, [.ref (x 17), .ref (x 14), .int (nI ((Dln Rd))), .int (nI ((Dbh Rd))), .int (nI ((Dsa Rd))), .int (Dtk Rd), .int (nI 0)])), (x 14, .inl (cI, 150, .inl Tx))]) := hD
  have L_5 : ∀ (n_5 : Nat) (b : Nat) (v : Int32) (H : Heap) (locs : List Loc), b ≤ Dln Rd → Dln Rd - b < n_5 → va_P (dC, dI) vwCl ([(x 16, .inr (3, [.ref (x 17), .ref (x 14), .int (nI ((Dln Rd))), .int (nI b), .int (nI ((Dsa Rd))), .int (Dtk Rd), .int v])), (x 14, .inl (cI, 150, .inl Tx))]) H → va_D A ([(x 16, .inr (3, [.ref (x 17), .ref (x 14), .int (nI ((Dln Rd))), .int (nI b), .int (nI ((Dsa Rd))), .int (Dtk Rd), .int v])), (x 14, .inl (cI, 150, .inl Tx))]) → va_S A s.heap H locs → ∀ (ls : Array Slot), lv_has ls 1 [(0, .ref (x 16))] → OUT = let2 (F_X3_passFigures_L5 n_5 Rd Tx b v) (fun b v => (((Dln Rd), b, (Dsa Rd), Dtk Rd, v))) → W p l e (headSpec wsX3_passFigures { frames := 1, cells := 0, slots := 0, locals := 21 }).room s m ([.ref (x 16)] : List Value).toArray below meth c H locs 0 0 (MQ below (va_Qv (fun (u : (dS)) => F_X3_passFigures Rd Tx = u) (mB (dC, dI) vwCl (xT cI) A (fun u => [(x 16, .inr (3, [.ref (x 17), .ref (x 14), .int (nI ((Dln u))), .int (nI ((Dbh u))), .int (nI ((Dsa u))), .int (Dtk u), .int (Dvl u)])), (x 14, .inl (cI, 150, .inl Tx))])) A) ([.ref (x 16)] : List Value).toArray s 0 0 A) (F0 m 5 ls []) := by
    intro n_5
    induction n_5 with
    | zero => intro b v H locs i0 hmu; exact absurd hmu (Nat.not_lt_zero _)
    | succ n_5 ih_5 =>
      intro b v H locs i0 hmu_5 hP hD hS ls hl hF
      rw [F_X3_passFigures_L5] at hF
      refine lv_aload_n hx hb dX3_passFigures_5 rfl (lv_at hl 0 rfl) ?_
      refine va_get (D := (dC, dI)) (ci := 3) (v := .int (nI b)) (C := RX3) (T := TX3) (N := 7) hx hb hts hin3 hown hK hP 0 rfl rfl 3 (by decide) lk32 (fun _ h9 => h9) rfl dX3_passFigures_6 ?_
      refine lv_aload_n hx hb dX3_passFigures_9 rfl (lv_at hl 0 rfl) ?_
      refine va_get (D := (dC, dI)) (ci := 3) (v := .int (nI ((Dln Rd)))) (C := RX3) (T := TX3) (N := 7) hx hb hts hin3 hown hK hP 0 rfl rfl 2 (by decide) lk28 (fun _ h9 => h9) rfl dX3_passFigures_10 ?_
      refine qv_icmp_ge (tgt := 66) hx hb dX3_passFigures_13 (by decide) (by omega) (by omega) (fun c_13 => ?_) (fun c_13 => ?_)
      · rw [if_pos c_13] at hF
        rw [let2_mk (b : Nat) (v : Int32)] at hF
        have hP9 : va_P (dC, dI) vwCl ([(x 16, .inr (3, [.ref (x 17), .ref (x 14), .int (nI ((Dln Rd))), .int (nI b), .int (nI ((Dsa Rd))), .int (Dtk Rd), .int v])), (x 14, .inl (cI, 150, .inl Tx))]) H := hP
        exact W.vret hx hb hr (fun t ht hW => ⟨⟨(((Dln Rd), b, (Dsa Rd), Dtk Rd, v)), rfl, hO.symm.trans hF, by rw [ht]; exact hP9, va_K.moved hW.alike hK, hD⟩, hS.F ht⟩) hS.2.2 dX3_passFigures_66
      · rw [if_neg c_13] at hF
        refine lv_aload_n hx hb dX3_passFigures_16 rfl (lv_at hl 0 rfl) ?_
        refine lv_aload_n hx hb dX3_passFigures_17 rfl (lv_at hl 0 rfl) ?_
        refine va_get (D := (dC, dI)) (ci := 3) (v := .int (nI b)) (C := RX3) (T := TX3) (N := 7) hx hb hts hin3 hown hK hP 0 rfl rfl 3 (by decide) lk32 (fun _ h9 => h9) rfl dX3_passFigures_18 ?_
        refine qx_Vi (C := RX3) (As := [.int (nI b)]) (rest := []) (ci := 3) (k0 := 0) (wr := []) (ws2 := fun u => [(x 16, .inr (3, [.ref (x 17), .ref (x 14), .int (nI ((Dln Rd))), .int (nI b), .int (nI ((Dsa Rd))), .int (Dtk Rd), .int v])), (x 14, .inl (cI, 150, .inl Tx))]) [0, 1] [] [0, 1] ⟨hx, hb, hml, hown, hts⟩ (c_X3_byteAt l dC dI x cI H.size (((Dln Rd), b, (Dsa Rd), Dtk Rd, v)) Tx b (by omega) (by omega)) (cwV 1 hts gX3_passFigures_X3_byteAt rfl rfl rfl (by decide +kernel) ⟨Nat.le_of_ble_eq_true rfl, Nat.le_of_ble_eq_true rfl⟩) (hK.sub [0] rfl) hK hP hD hS hA hN rfl rfl (by decide) (by decide) (by decide) (by decide) (fun _ => rfl) rfl rfl rfl rfl hl.1 rfl (Nat.le_of_ble_eq_true rfl) dX3_passFigures_21 ⟨Nat.zero_le _, Nat.zero_le _⟩ (fun r_21 u_21 H locs hw_21 hP hD hS => ?_)
        have hP : va_P (dC, dI) vwCl ([(x 16, .inr (3, [.ref (x 17), .ref (x 14), .int (nI ((Dln Rd))), .int (nI b), .int (nI ((Dsa Rd))), .int (Dtk Rd), .int v])), (x 14, .inl (cI, 150, .inl Tx))]) H := hP
        have hD : va_D A ([(x 16, .inr (3, [.ref (x 17), .ref (x 14), .int (nI ((Dln Rd))), .int (nI b), .int (nI ((Dsa Rd))), .int (Dtk Rd), .int v])), (x 14, .inl (cI, 150, .inl Tx))]) := hD
        rw [hw_21, let1_mk r_21] at hF
        refine qc_Si (As := [.int r_21]) (rest := []) ⟨hx, hb, hml, hown, hts⟩ (c_X3_isFigure l r_21) (va_cwS 1 hts gX3_passFigures_X3_isFigure rfl rfl rfl (by decide +kernel) ⟨Nat.le_of_ble_eq_true rfl, Nat.le_of_ble_eq_true rfl⟩) rfl hl.1 rfl (Nat.le_of_ble_eq_true rfl) dX3_passFigures_24 ⟨Nat.zero_le _, Nat.zero_le _⟩ (fun r_24 hw_24 => ?_)
        subst hw_24
        refine qv_zif_eq (tgt := 66) hx hb dX3_passFigures_27 (by decide) (fun c_27 => ?_) (fun c_27 => ?_)
        · rw [if_neg c_27] at hF
          rw [let2_mk (b : Nat) (v : Int32)] at hF
          have hP9 : va_P (dC, dI) vwCl ([(x 16, .inr (3, [.ref (x 17), .ref (x 14), .int (nI ((Dln Rd))), .int (nI b), .int (nI ((Dsa Rd))), .int (Dtk Rd), .int v])), (x 14, .inl (cI, 150, .inl Tx))]) H := hP
          exact W.vret hx hb hr (fun t ht hW => ⟨⟨(((Dln Rd), b, (Dsa Rd), Dtk Rd, v)), rfl, hO.symm.trans hF, by rw [ht]; exact hP9, va_K.moved hW.alike hK, hD⟩, hS.F ht⟩) hS.2.2 dX3_passFigures_66
        · rw [if_pos c_27] at hF
          refine lv_aload_n hx hb dX3_passFigures_30 rfl (lv_at hl 0 rfl) ?_
          refine lv_bipush (v := nI 10) hx hb dX3_passFigures_31 (by decide) ?_
          refine lv_aload_n hx hb dX3_passFigures_33 rfl (lv_at hl 0 rfl) ?_
          refine va_get (D := (dC, dI)) (ci := 3) (v := .int v) (C := RX3) (T := TX3) (N := 7) hx hb hts hin3 hown hK hP 0 rfl rfl 6 (by decide) lk68 (fun _ h9 => h9) rfl dX3_passFigures_34 ?_
          refine lv_imul hx hb dX3_passFigures_37 ?_
          refine lv_aload_n hx hb dX3_passFigures_38 rfl (lv_at hl 0 rfl) ?_
          refine lv_aload_n hx hb dX3_passFigures_39 rfl (lv_at hl 0 rfl) ?_
          refine va_get (D := (dC, dI)) (ci := 3) (v := .int (nI b)) (C := RX3) (T := TX3) (N := 7) hx hb hts hin3 hown hK hP 0 rfl rfl 3 (by decide) lk32 (fun _ h9 => h9) rfl dX3_passFigures_40 ?_
          refine qx_Vi (C := RX3) (As := [.int (nI b)]) (rest := [.int ((nI 10) * v), .ref (x 16)]) (ci := 3) (k0 := 0) (wr := []) (ws2 := fun u => [(x 16, .inr (3, [.ref (x 17), .ref (x 14), .int (nI ((Dln Rd))), .int (nI b), .int (nI ((Dsa Rd))), .int (Dtk Rd), .int v])), (x 14, .inl (cI, 150, .inl Tx))]) [0, 1] [] [0, 1] ⟨hx, hb, hml, hown, hts⟩ (c_X3_byteAt l dC dI x cI H.size (((Dln Rd), b, (Dsa Rd), Dtk Rd, v)) Tx b (by omega) (by omega)) (cwV 1 hts gX3_passFigures_X3_byteAt rfl rfl rfl (by decide +kernel) ⟨Nat.le_of_ble_eq_true rfl, Nat.le_of_ble_eq_true rfl⟩) (hK.sub [0] rfl) hK hP hD hS hA hN rfl rfl (by decide) (by decide) (by decide) (by decide) (fun _ => rfl) rfl rfl rfl rfl hl.1 rfl (Nat.le_of_ble_eq_true rfl) dX3_passFigures_43 ⟨Nat.zero_le _, Nat.zero_le _⟩ (fun r_43 u_43 H locs hw_43 hP hD hS => ?_)
          have hP : va_P (dC, dI) vwCl ([(x 16, .inr (3, [.ref (x 17), .ref (x 14), .int (nI ((Dln Rd))), .int (nI b), .int (nI ((Dsa Rd))), .int (Dtk Rd), .int v])), (x 14, .inl (cI, 150, .inl Tx))]) H := hP
          have hD : va_D A ([(x 16, .inr (3, [.ref (x 17), .ref (x 14), .int (nI ((Dln Rd))), .int (nI b), .int (nI ((Dsa Rd))), .int (Dtk Rd), .int v])), (x 14, .inl (cI, 150, .inl Tx))]) := hD
          have q_43 : r_43 = r_21 := hw_43.symm.trans hw_21
          refine qv_top q_43 ?_
          rw [let1_mk r_21] at hF
          refine lv_iadd hx hb dX3_passFigures_46 ?_
          refine lv_bipush (v := nI 48) hx hb dX3_passFigures_47 (by decide) ?_
          refine lv_isub hx hb dX3_passFigures_49 ?_
          refine va_put (D := (dC, dI)) (ci := 3) (v := .int ((((nI 10) * v) + r_21) - (nI 48))) (ty := .int) (C := RX3) (T := TX3) (N := 7) hx hb hts hin3 tyX3 tyX3_ok nmX3 hown hK hP hD hS 0 rfl rfl 6 (by decide) lk68 (fun _ h9 => h9) rfl (by decide +kernel) rfl rfl (Nat.le_of_ble_eq_true rfl) dX3_passFigures_50 (fun H locs hP hD hS => ?_)
          have hP : va_P (dC, dI) vwCl ([(x 16, .inr (3, [.ref (x 17), .ref (x 14), .int (nI ((Dln Rd))), .int (nI b), .int (nI ((Dsa Rd))), .int (Dtk Rd), .int ((((nI 10) * v) + r_21) - (nI 48))])), (x 14, .inl (cI, 150, .inl Tx))]) H := hP
          have hD : va_D A ([(x 16, .inr (3, [.ref (x 17), .ref (x 14), .int (nI ((Dln Rd))), .int (nI b), .int (nI ((Dsa Rd))), .int (Dtk Rd), .int ((((nI 10) * v) + r_21) - (nI 48))])), (x 14, .inl (cI, 150, .inl Tx))]) := hD
          refine lv_aload_n hx hb dX3_passFigures_53 rfl (lv_at hl 0 rfl) ?_
          refine lv_dup hx hb dX3_passFigures_54 rfl ?_
          refine va_get (D := (dC, dI)) (ci := 3) (v := .int (nI b)) (C := RX3) (T := TX3) (N := 7) hx hb hts hin3 hown hK hP 0 rfl rfl 3 (by decide) lk32 (fun _ h9 => h9) rfl dX3_passFigures_55 ?_
          refine lv_iconst (v := nI 1) hx hb dX3_passFigures_58 (by decide) ?_
          refine qv_iadd hx hb (b + 1) dX3_passFigures_59 (by omega) ?_
          refine va_put (D := (dC, dI)) (ci := 3) (v := .int (nI (b + 1))) (ty := .int) (C := RX3) (T := TX3) (N := 7) hx hb hts hin3 tyX3 tyX3_ok nmX3 hown hK hP hD hS 0 rfl rfl 3 (by decide) lk32 (fun _ h9 => h9) rfl (by decide +kernel) rfl rfl (Nat.le_of_ble_eq_true rfl) dX3_passFigures_60 (fun H locs hP hD hS => ?_)
          have hP : va_P (dC, dI) vwCl ([(x 16, .inr (3, [.ref (x 17), .ref (x 14), .int (nI ((Dln Rd))), .int (nI (b + 1)), .int (nI ((Dsa Rd))), .int (Dtk Rd), .int ((((nI 10) * v) + r_21) - (nI 48))])), (x 14, .inl (cI, 150, .inl Tx))]) H := hP
          have hD : va_D A ([(x 16, .inr (3, [.ref (x 17), .ref (x 14), .int (nI ((Dln Rd))), .int (nI (b + 1)), .int (nI ((Dsa Rd))), .int (Dtk Rd), .int ((((nI 10) * v) + r_21) - (nI 48))])), (x 14, .inl (cI, 150, .inl Tx))]) := hD
          refine lv_goto (tgt := 5) hx hb dX3_passFigures_63 (by decide) ?_
          exact ih_5 (b + 1) ((((nI 10) * v) + r_21) - (nI 48)) H locs (by omega) (by omega) hP hD hS ls (lv_sub hl [0] rfl) hF
  exact L_5 151 ((Dbh Rd)) (nI 0) H locs (by omega) (by omega) hP hD hS ls (lv_sub hl [0] rfl) hF
theorem L_passLetters (D : dS) (Tx : Nat → Int32) : ∀ (f b : Nat), b ≤ Dln D → b ≤ F_X3_passLetters_L0 f D Tx b ∧ F_X3_passLetters_L0 f D Tx b ≤ Dln D
  | 0, b, h => ⟨Nat.le_refl _, h⟩
  | f + 1, b, h => by
    rw [F_X3_passLetters_L0]
    split
    · exact ⟨Nat.le_refl _, h⟩
    · simp only [let1]
      split
      · have := L_passLetters D Tx f (b + 1) (by omega); omega
      · exact ⟨Nat.le_refl _, h⟩
theorem passLetters_at {D D' : dS} {Tx : Nat → Int32} (e : F_X3_passLetters D Tx = D') (h : Dbh D ≤ Dln D) : Dln D' = Dln D ∧ Dsa D' = Dsa D ∧ Dbh D ≤ Dbh D' ∧ Dbh D' ≤ Dln D := by
  have g := L_passLetters D Tx 151 (Dbh D) h
  rw [← e]
  exact ⟨rfl, rfl, g.1, g.2⟩
theorem L_passFigures (D : dS) (Tx : Nat → Int32) : ∀ (f b : Nat) (v : Int32), b ≤ Dln D → b ≤ (F_X3_passFigures_L5 f D Tx b v).1 ∧ (F_X3_passFigures_L5 f D Tx b v).1 ≤ Dln D
  | 0, b, _, h => ⟨Nat.le_refl _, h⟩
  | f + 1, b, v, h => by
    rw [F_X3_passFigures_L5]
    split
    · exact ⟨Nat.le_refl _, h⟩
    · simp only [let1]
      split
      · exact ⟨Nat.le_trans (Nat.le_succ b) (L_passFigures D Tx f (b + 1) _ (by omega)).1, (L_passFigures D Tx f (b + 1) _ (by omega)).2⟩
      · exact ⟨Nat.le_refl _, h⟩
theorem passFigures_at {D D' : dS} {Tx : Nat → Int32} (e : F_X3_passFigures D Tx = D') (h : Dbh D ≤ Dln D) : Dln D' = Dln D ∧ Dsa D' = Dsa D ∧ Dbh D ≤ Dbh D' ∧ Dbh D' ≤ Dln D := by
  have g := L_passFigures D Tx 151 (Dbh D) (nI 0) h
  rw [← e]
  exact ⟨rfl, rfl, g.1, g.2⟩
def F_X3_step_L0 : Nat → (dS) → (Nat → Int32) → (Nat) → (Nat)
  | 0, _, _, b => b
  | n_0 + 1, Rd, Tx, b => if (Dln Rd) ≤ b then b else let1 (F_X3_byteAt (((Dln Rd), b, (Dsa Rd), Dtk Rd, Dvl Rd)) Tx b) (fun r_16 => if r_16 = (nI 32) then F_X3_step_L0 n_0 Rd Tx (b + 1) else b)
def F_X3_step (Rd : dS) (Tx : Nat → Int32) : (dS) := let1 (F_X3_step_L0 151 Rd Tx ((Dbh Rd))) (fun b => let1 (F_X3_byteAt (((Dln Rd), b, b, Dtk Rd, Dvl Rd)) Tx b) (fun r_50 => if r_50 = ((-1)) then (((Dln Rd), b, b, nI 0, Dvl Rd)) else (if (F_X3_isLetter r_50) = true then let1 (F_X3_passLetters (((Dln Rd), b, b, nI 1, Dvl Rd)) Tx) (fun Rd_80 => Rd_80) else (if (F_X3_isFigure r_50) = true then let1 (F_X3_passFigures (((Dln Rd), b, b, Dtk Rd, Dvl Rd)) Tx) (fun Rd_94 => if 2 < ((Dbh Rd_94) - ((Dsa Rd_94))) then (((Dln Rd_94), (Dbh Rd_94), (Dsa Rd_94), nI 4, Dvl Rd_94)) else (((Dln Rd_94), (Dbh Rd_94), (Dsa Rd_94), nI 2, Dvl Rd_94))) else (if r_50 = (nI 59) then (((Dln Rd), b + 1, b, nI 3, Dvl Rd)) else (((Dln Rd), b + 1, b, nI 4, Dvl Rd)))))))
set_option maxHeartbeats 4000000 in
set_option maxRecDepth 100000 in
theorem c_X3_step (l : Launch) (dC : Nat → ClassId) (dI : Nat → Nat → Nat) (x : Nat → Nat) (cI : ClassId) (sz : Nat) (Rd : dS) (Tx : Nat → Int32) (hL : Dln Rd ≤ 150) (hB : Dbh Rd ≤ Dln Rd) : Met l yX3_step wsX3_step { frames := 2, cells := 0, slots := 0, locals := 41 } (xPc (dC, dI) vwCl (xT cI) ([(x 16, .inr (3, [.ref (x 17), .ref (x 14), .int (nI ((Dln Rd))), .int (nI ((Dbh Rd))), .int (nI ((Dsa Rd))), .int (Dtk Rd), .int (Dvl Rd)])), (x 14, .inl (cI, 150, .inl Tx))]) sz [.ref (x 16)]) (va_Qv (fun (u : (dS)) => F_X3_step Rd Tx = u) (mB (dC, dI) vwCl (xT cI) (va_A ([(x 16, .inr (3, [.ref (x 17), .ref (x 14), .int (nI ((Dln Rd))), .int (nI ((Dbh Rd))), .int (nI ((Dsa Rd))), .int (Dtk Rd), .int (Dvl Rd)])), (x 14, .inl (cI, 150, .inl Tx))]) sz) (fun u => [(x 16, .inr (3, [.ref (x 17), .ref (x 14), .int (nI ((Dln u))), .int (nI ((Dbh u))), .int (nI ((Dsa u))), .int (Dtk u), .int (Dvl u)])), (x 14, .inl (cI, 150, .inl Tx))])) (va_A ([(x 16, .inr (3, [.ref (x 17), .ref (x 14), .int (nI ((Dln Rd))), .int (nI ((Dbh Rd))), .int (nI ((Dsa Rd))), .int (Dtk Rd), .int (Dvl Rd)])), (x 14, .inl (cI, 150, .inl Tx))]) sz)) 0 0 (va_A ([(x 16, .inr (3, [.ref (x 17), .ref (x 14), .int (nI ((Dln Rd))), .int (nI ((Dbh Rd))), .int (nI ((Dsa Rd))), .int (Dtk Rd), .int (Dvl Rd)])), (x 14, .inl (cI, 150, .inl Tx))]) sz) := by
  refine Met.ofW (cc := cX3_step) (maxL := 2) (ret := none) (by decide) rfl ?_
  intro p e s m args below meth c s₁ B hml hv
  obtain ⟨rfl, hsz, hP, hK, hD0, hN⟩ := hv
  have hx := B.exec
  have hb := B.bytes
  have hr := B.returns
  have hts := atoms_spec (ws := wsX3_step) B.pre
  have hown : s.vm.findClass RX3 = some m.cls := findClass_of_methodNamed B.named
  have hlocks := B.notSynchronized
  subst hsz
  have hD := hD0.self (sz := s.heap.size)
  generalize hAe : va_A ([(x 16, .inr (3, [.ref (x 17), .ref (x 14), .int (nI ((Dln Rd))), .int (nI ((Dbh Rd))), .int (nI ((Dsa Rd))), .int (Dtk Rd), .int (Dvl Rd)])), (x 14, .inl (cI, 150, .inl Tx))]) s.heap.size = A at hD ⊢
  have hA : ∀ q : Nat, s.heap.size ≤ q → A q := fun q h => by rw [← hAe]; exact Or.inr h
  have hS : va_S A s.heap s.heap [] := va_S.rf
  have hin3 : ∀ w ∈ wsX30, w ∈ wsX3_step := by decide +kernel
  have lk28 := hts (.fieldLink RX3 28 "PostRounders$Reader" "length" "I") (by decide +kernel)
  have lk32 := hts (.fieldLink RX3 32 "PostRounders$Reader" "behind" "I") (by decide +kernel)
  have lk49 := hts (.fieldLink RX3 49 "PostRounders$Reader" "start" "I") (by decide +kernel)
  have lk52 := hts (.fieldLink RX3 52 "PostRounders$Reader" "token" "I") (by decide +kernel)
  have hl := lv_entry ([.ref (x 16)]) (n := 2) (Nat.le_of_ble_eq_true rfl)
  rw [lg_entry_eq]
  generalize (lg_sl ([.ref (x 16)]) ++ List.replicate (2 - (lg_sl ([.ref (x 16)])).length) Slot.unset).toArray = ls at hl ⊢
  have hl : lv_has ls 2 [(0, .ref (x 16))] := hl
  obtain ⟨OUT, hO⟩ : ∃ z, z = F_X3_step Rd Tx := ⟨_, rfl⟩
  have hF := hO
  unfold F_X3_step at hF
  have L_0 : ∀ (n_0 : Nat) (b : Nat) (H : Heap) (locs : List Loc), b ≤ Dln Rd → Dln Rd - b < n_0 → va_P (dC, dI) vwCl ([(x 16, .inr (3, [.ref (x 17), .ref (x 14), .int (nI ((Dln Rd))), .int (nI b), .int (nI ((Dsa Rd))), .int (Dtk Rd), .int (Dvl Rd)])), (x 14, .inl (cI, 150, .inl Tx))]) H → va_D A ([(x 16, .inr (3, [.ref (x 17), .ref (x 14), .int (nI ((Dln Rd))), .int (nI b), .int (nI ((Dsa Rd))), .int (Dtk Rd), .int (Dvl Rd)])), (x 14, .inl (cI, 150, .inl Tx))]) → va_S A s.heap H locs → ∀ (ls : Array Slot), lv_has ls 2 [(0, .ref (x 16))] → OUT = let1 (F_X3_step_L0 n_0 Rd Tx b) (fun b => let1 (F_X3_byteAt (((Dln Rd), b, b, Dtk Rd, Dvl Rd)) Tx b) (fun r_50 => if r_50 = ((-1)) then (((Dln Rd), b, b, nI 0, Dvl Rd)) else (if (F_X3_isLetter r_50) = true then let1 (F_X3_passLetters (((Dln Rd), b, b, nI 1, Dvl Rd)) Tx) (fun Rd_80 => Rd_80) else (if (F_X3_isFigure r_50) = true then let1 (F_X3_passFigures (((Dln Rd), b, b, Dtk Rd, Dvl Rd)) Tx) (fun Rd_94 => if 2 < ((Dbh Rd_94) - ((Dsa Rd_94))) then (((Dln Rd_94), (Dbh Rd_94), (Dsa Rd_94), nI 4, Dvl Rd_94)) else (((Dln Rd_94), (Dbh Rd_94), (Dsa Rd_94), nI 2, Dvl Rd_94))) else (if r_50 = (nI 59) then (((Dln Rd), b + 1, b, nI 3, Dvl Rd)) else (((Dln Rd), b + 1, b, nI 4, Dvl Rd))))))) → W p l e (headSpec wsX3_step { frames := 2, cells := 0, slots := 0, locals := 41 }).room s m ([.ref (x 16)] : List Value).toArray below meth c H locs 0 0 (MQ below (va_Qv (fun (u : (dS)) => F_X3_step Rd Tx = u) (mB (dC, dI) vwCl (xT cI) A (fun u => [(x 16, .inr (3, [.ref (x 17), .ref (x 14), .int (nI ((Dln u))), .int (nI ((Dbh u))), .int (nI ((Dsa u))), .int (Dtk u), .int (Dvl u)])), (x 14, .inl (cI, 150, .inl Tx))])) A) ([.ref (x 16)] : List Value).toArray s 0 0 A) (F0 m 0 ls []) := by
    intro n_0
    induction n_0 with
    | zero => intro b H locs i0 hmu; exact absurd hmu (Nat.not_lt_zero _)
    | succ n_0 ih_0 =>
      intro b H locs i0 hmu_0 hP hD hS ls hl hF
      rw [F_X3_step_L0] at hF
      refine lv_aload_n hx hb dX3_step_0 rfl (lv_at hl 0 rfl) ?_
      refine va_get (D := (dC, dI)) (ci := 3) (v := .int (nI b)) (C := RX3) (T := TX3) (N := 7) hx hb hts hin3 hown hK hP 0 rfl rfl 3 (by decide) lk32 (fun _ h9 => h9) rfl dX3_step_1 ?_
      refine lv_aload_n hx hb dX3_step_4 rfl (lv_at hl 0 rfl) ?_
      refine va_get (D := (dC, dI)) (ci := 3) (v := .int (nI ((Dln Rd)))) (C := RX3) (T := TX3) (N := 7) hx hb hts hin3 hown hK hP 0 rfl rfl 2 (by decide) lk28 (fun _ h9 => h9) rfl dX3_step_5 ?_
      refine qv_icmp_ge (tgt := 37) hx hb dX3_step_8 (by decide) (by omega) (by omega) (fun c_8 => ?_) (fun c_8 => ?_)
      · rw [if_pos c_8] at hF
        rw [let1_mk (b : Nat)] at hF
        refine lv_aload_n hx hb dX3_step_37 rfl (lv_at hl 0 rfl) ?_
        refine lv_aload_n hx hb dX3_step_38 rfl (lv_at hl 0 rfl) ?_
        refine va_get (D := (dC, dI)) (ci := 3) (v := .int (nI b)) (C := RX3) (T := TX3) (N := 7) hx hb hts hin3 hown hK hP 0 rfl rfl 3 (by decide) lk32 (fun _ h9 => h9) rfl dX3_step_39 ?_
        refine va_put (D := (dC, dI)) (ci := 3) (v := .int (nI b)) (ty := .int) (C := RX3) (T := TX3) (N := 7) hx hb hts hin3 tyX3 tyX3_ok nmX3 hown hK hP hD hS 0 rfl rfl 4 (by decide) lk49 (fun _ h9 => h9) rfl (by decide +kernel) rfl rfl (Nat.le_of_ble_eq_true rfl) dX3_step_42 (fun H locs hP hD hS => ?_)
        have hP : va_P (dC, dI) vwCl ([(x 16, .inr (3, [.ref (x 17), .ref (x 14), .int (nI ((Dln Rd))), .int (nI b), .int (nI b), .int (Dtk Rd), .int (Dvl Rd)])), (x 14, .inl (cI, 150, .inl Tx))]) H := hP
        have hD : va_D A ([(x 16, .inr (3, [.ref (x 17), .ref (x 14), .int (nI ((Dln Rd))), .int (nI b), .int (nI b), .int (Dtk Rd), .int (Dvl Rd)])), (x 14, .inl (cI, 150, .inl Tx))]) := hD
        refine lv_aload_n hx hb dX3_step_45 rfl (lv_at hl 0 rfl) ?_
        refine lv_aload_n hx hb dX3_step_46 rfl (lv_at hl 0 rfl) ?_
        refine va_get (D := (dC, dI)) (ci := 3) (v := .int (nI b)) (C := RX3) (T := TX3) (N := 7) hx hb hts hin3 hown hK hP 0 rfl rfl 4 (by decide) lk49 (fun _ h9 => h9) rfl dX3_step_47 ?_
        refine qx_Vi (C := RX3) (As := [.int (nI b)]) (rest := []) (ci := 3) (k0 := 0) (wr := []) (ws2 := fun u => [(x 16, .inr (3, [.ref (x 17), .ref (x 14), .int (nI ((Dln Rd))), .int (nI b), .int (nI b), .int (Dtk Rd), .int (Dvl Rd)])), (x 14, .inl (cI, 150, .inl Tx))]) [0, 1] [] [0, 1] ⟨hx, hb, hml, hown, hts⟩ (c_X3_byteAt l dC dI x cI H.size (((Dln Rd), b, b, Dtk Rd, Dvl Rd)) Tx b (by omega) (by omega)) (cwV 1 hts gX3_step_X3_byteAt rfl rfl rfl (by decide +kernel) ⟨Nat.le_of_ble_eq_true rfl, Nat.le_of_ble_eq_true rfl⟩) (hK.sub [0] rfl) hK hP hD hS hA hN rfl rfl (by decide) (by decide) (by decide) (by decide) (fun _ => rfl) rfl rfl rfl rfl hl.1 rfl (Nat.le_of_ble_eq_true rfl) dX3_step_50 ⟨Nat.zero_le _, Nat.zero_le _⟩ (fun r_50 u_50 H locs hw_50 hP hD hS => ?_)
        have hP : va_P (dC, dI) vwCl ([(x 16, .inr (3, [.ref (x 17), .ref (x 14), .int (nI ((Dln Rd))), .int (nI b), .int (nI b), .int (Dtk Rd), .int (Dvl Rd)])), (x 14, .inl (cI, 150, .inl Tx))]) H := hP
        have hD : va_D A ([(x 16, .inr (3, [.ref (x 17), .ref (x 14), .int (nI ((Dln Rd))), .int (nI b), .int (nI b), .int (Dtk Rd), .int (Dvl Rd)])), (x 14, .inl (cI, 150, .inl Tx))]) := hD
        rw [hw_50, let1_mk r_50] at hF
        refine lv_istore_n (lv' := [(1, .int r_50), (0, .ref (x 16))]) hx hb dX3_step_53 rfl hl (by decide) rfl (fun ls hl => ?_)
        refine lv_iload_n hx hb dX3_step_54 rfl (lv_at hl 0 rfl) ?_
        refine lv_iconst (v := (-1)) hx hb dX3_step_55 (by decide) ?_
        refine lv_icmp_ne (tgt := 67) hx hb dX3_step_56 (by decide) (fun c_56 => ?_) (fun c_56 => ?_)
        · rw [if_neg c_56] at hF
          refine lv_iload_n hx hb dX3_step_67 rfl (lv_at hl 0 rfl) ?_
          refine qc_Si (As := [.int r_50]) (rest := []) ⟨hx, hb, hml, hown, hts⟩ (c_X3_isLetter l r_50) (va_cwS 1 hts gX3_step_X3_isLetter rfl rfl rfl (by decide +kernel) ⟨Nat.le_of_ble_eq_true rfl, Nat.le_of_ble_eq_true rfl⟩) rfl hl.1 rfl (Nat.le_of_ble_eq_true rfl) dX3_step_68 ⟨Nat.zero_le _, Nat.zero_le _⟩ (fun r_68 hw_68 => ?_)
          subst hw_68
          refine qv_zif_eq (tgt := 86) hx hb dX3_step_71 (by decide) (fun c_71 => ?_) (fun c_71 => ?_)
          · rw [if_neg c_71] at hF
            refine lv_iload_n hx hb dX3_step_86 rfl (lv_at hl 0 rfl) ?_
            refine qc_Si (As := [.int r_50]) (rest := []) ⟨hx, hb, hml, hown, hts⟩ (c_X3_isFigure l r_50) (va_cwS 1 hts gX3_step_X3_isFigure rfl rfl rfl (by decide +kernel) ⟨Nat.le_of_ble_eq_true rfl, Nat.le_of_ble_eq_true rfl⟩) rfl hl.1 rfl (Nat.le_of_ble_eq_true rfl) dX3_step_87 ⟨Nat.zero_le _, Nat.zero_le _⟩ (fun r_87 hw_87 => ?_)
            subst hw_87
            refine qv_zif_eq (tgt := 122) hx hb dX3_step_90 (by decide) (fun c_90 => ?_) (fun c_90 => ?_)
            · rw [if_neg c_90] at hF
              refine lv_aload_n hx hb dX3_step_122 rfl (lv_at hl 1 rfl) ?_
              refine lv_iload_n hx hb dX3_step_123 rfl (lv_at hl 0 rfl) ?_
              refine lv_bipush (v := nI 59) hx hb dX3_step_124 (by decide) ?_
              refine lv_icmp_ne (tgt := 133) hx hb dX3_step_126 (by decide) (fun c_126 => ?_) (fun c_126 => ?_)
              · rw [if_neg c_126] at hF
                refine lv_iconst (v := nI 4) hx hb dX3_step_133 (by decide) ?_
                refine va_put (D := (dC, dI)) (ci := 3) (v := .int (nI 4)) (ty := .int) (C := RX3) (T := TX3) (N := 7) hx hb hts hin3 tyX3 tyX3_ok nmX3 hown hK hP hD hS 0 rfl rfl 5 (by decide) lk52 (fun _ h9 => h9) rfl (by decide +kernel) rfl rfl (Nat.le_of_ble_eq_true rfl) dX3_step_134 (fun H locs hP hD hS => ?_)
                have hP : va_P (dC, dI) vwCl ([(x 16, .inr (3, [.ref (x 17), .ref (x 14), .int (nI ((Dln Rd))), .int (nI b), .int (nI b), .int (nI 4), .int (Dvl Rd)])), (x 14, .inl (cI, 150, .inl Tx))]) H := hP
                have hD : va_D A ([(x 16, .inr (3, [.ref (x 17), .ref (x 14), .int (nI ((Dln Rd))), .int (nI b), .int (nI b), .int (nI 4), .int (Dvl Rd)])), (x 14, .inl (cI, 150, .inl Tx))]) := hD
                refine lv_aload_n hx hb dX3_step_137 rfl (lv_at hl 1 rfl) ?_
                refine lv_dup hx hb dX3_step_138 rfl ?_
                refine va_get (D := (dC, dI)) (ci := 3) (v := .int (nI b)) (C := RX3) (T := TX3) (N := 7) hx hb hts hin3 hown hK hP 0 rfl rfl 3 (by decide) lk32 (fun _ h9 => h9) rfl dX3_step_139 ?_
                refine lv_iconst (v := nI 1) hx hb dX3_step_142 (by decide) ?_
                refine qv_iadd hx hb (b + 1) dX3_step_143 (by omega) ?_
                refine va_put (D := (dC, dI)) (ci := 3) (v := .int (nI (b + 1))) (ty := .int) (C := RX3) (T := TX3) (N := 7) hx hb hts hin3 tyX3 tyX3_ok nmX3 hown hK hP hD hS 0 rfl rfl 3 (by decide) lk32 (fun _ h9 => h9) rfl (by decide +kernel) rfl rfl (Nat.le_of_ble_eq_true rfl) dX3_step_144 (fun H locs hP hD hS => ?_)
                have hP : va_P (dC, dI) vwCl ([(x 16, .inr (3, [.ref (x 17), .ref (x 14), .int (nI ((Dln Rd))), .int (nI (b + 1)), .int (nI b), .int (nI 4), .int (Dvl Rd)])), (x 14, .inl (cI, 150, .inl Tx))]) H := hP
                have hD : va_D A ([(x 16, .inr (3, [.ref (x 17), .ref (x 14), .int (nI ((Dln Rd))), .int (nI (b + 1)), .int (nI b), .int (nI 4), .int (Dvl Rd)])), (x 14, .inl (cI, 150, .inl Tx))]) := hD
                have hP9 : va_P (dC, dI) vwCl ([(x 16, .inr (3, [.ref (x 17), .ref (x 14), .int (nI ((Dln Rd))), .int (nI (b + 1)), .int (nI b), .int (nI 4), .int (Dvl Rd)])), (x 14, .inl (cI, 150, .inl Tx))]) H := hP
                exact W.vret hx hb hr (fun t ht hW => ⟨⟨(((Dln Rd), b + 1, b, nI 4, Dvl Rd)), rfl, hO.symm.trans hF, by rw [ht]; exact hP9, va_K.moved hW.alike hK, hD⟩, hS.F ht⟩) hS.2.2 dX3_step_147
              · rw [if_pos c_126] at hF
                refine lv_iconst (v := nI 3) hx hb dX3_step_129 (by decide) ?_
                refine lv_goto (tgt := 134) hx hb dX3_step_130 (by decide) ?_
                refine va_put (D := (dC, dI)) (ci := 3) (v := .int (nI 3)) (ty := .int) (C := RX3) (T := TX3) (N := 7) hx hb hts hin3 tyX3 tyX3_ok nmX3 hown hK hP hD hS 0 rfl rfl 5 (by decide) lk52 (fun _ h9 => h9) rfl (by decide +kernel) rfl rfl (Nat.le_of_ble_eq_true rfl) dX3_step_134 (fun H locs hP hD hS => ?_)
                have hP : va_P (dC, dI) vwCl ([(x 16, .inr (3, [.ref (x 17), .ref (x 14), .int (nI ((Dln Rd))), .int (nI b), .int (nI b), .int (nI 3), .int (Dvl Rd)])), (x 14, .inl (cI, 150, .inl Tx))]) H := hP
                have hD : va_D A ([(x 16, .inr (3, [.ref (x 17), .ref (x 14), .int (nI ((Dln Rd))), .int (nI b), .int (nI b), .int (nI 3), .int (Dvl Rd)])), (x 14, .inl (cI, 150, .inl Tx))]) := hD
                refine lv_aload_n hx hb dX3_step_137 rfl (lv_at hl 1 rfl) ?_
                refine lv_dup hx hb dX3_step_138 rfl ?_
                refine va_get (D := (dC, dI)) (ci := 3) (v := .int (nI b)) (C := RX3) (T := TX3) (N := 7) hx hb hts hin3 hown hK hP 0 rfl rfl 3 (by decide) lk32 (fun _ h9 => h9) rfl dX3_step_139 ?_
                refine lv_iconst (v := nI 1) hx hb dX3_step_142 (by decide) ?_
                refine qv_iadd hx hb (b + 1) dX3_step_143 (by omega) ?_
                refine va_put (D := (dC, dI)) (ci := 3) (v := .int (nI (b + 1))) (ty := .int) (C := RX3) (T := TX3) (N := 7) hx hb hts hin3 tyX3 tyX3_ok nmX3 hown hK hP hD hS 0 rfl rfl 3 (by decide) lk32 (fun _ h9 => h9) rfl (by decide +kernel) rfl rfl (Nat.le_of_ble_eq_true rfl) dX3_step_144 (fun H locs hP hD hS => ?_)
                have hP : va_P (dC, dI) vwCl ([(x 16, .inr (3, [.ref (x 17), .ref (x 14), .int (nI ((Dln Rd))), .int (nI (b + 1)), .int (nI b), .int (nI 3), .int (Dvl Rd)])), (x 14, .inl (cI, 150, .inl Tx))]) H := hP
                have hD : va_D A ([(x 16, .inr (3, [.ref (x 17), .ref (x 14), .int (nI ((Dln Rd))), .int (nI (b + 1)), .int (nI b), .int (nI 3), .int (Dvl Rd)])), (x 14, .inl (cI, 150, .inl Tx))]) := hD
                have hP9 : va_P (dC, dI) vwCl ([(x 16, .inr (3, [.ref (x 17), .ref (x 14), .int (nI ((Dln Rd))), .int (nI (b + 1)), .int (nI b), .int (nI 3), .int (Dvl Rd)])), (x 14, .inl (cI, 150, .inl Tx))]) H := hP
                exact W.vret hx hb hr (fun t ht hW => ⟨⟨(((Dln Rd), b + 1, b, nI 3, Dvl Rd)), rfl, hO.symm.trans hF, by rw [ht]; exact hP9, va_K.moved hW.alike hK, hD⟩, hS.F ht⟩) hS.2.2 dX3_step_147
            · rw [if_pos c_90] at hF
              refine lv_aload_n hx hb dX3_step_93 rfl (lv_at hl 1 rfl) ?_
              refine qx_Vv (C := RX3) (As := []) (rest := []) (ci := 3) (k0 := 0) (wr := []) (ws2 := fun u => [(x 16, .inr (3, [.ref (x 17), .ref (x 14), .int (nI ((Dln u))), .int (nI ((Dbh u))), .int (nI ((Dsa u))), .int (Dtk u), .int (Dvl u)])), (x 14, .inl (cI, 150, .inl Tx))]) [0, 1] [] [0, 1] ⟨hx, hb, hml, hown, hts⟩ (c_X3_passFigures l dC dI x cI H.size (((Dln Rd), b, b, Dtk Rd, Dvl Rd)) Tx  (by omega) (by omega)) (cwV 0 hts gX3_step_X3_passFigures rfl rfl rfl (by decide +kernel) ⟨Nat.le_of_ble_eq_true rfl, Nat.le_of_ble_eq_true rfl⟩) (hK.sub [0] rfl) hK hP hD hS hA hN rfl rfl (by decide) (by decide) (by decide) (by decide) (fun _ => rfl) rfl rfl rfl rfl hl.1 rfl (Nat.le_of_ble_eq_true rfl) dX3_step_94 ⟨Nat.zero_le _, Nat.zero_le _⟩ (fun u_94 H locs hw_94 hP hD hS => ?_)
              obtain ⟨Rd_94, rfl⟩ : ∃ z, z = u_94 := ⟨_, rfl⟩
              have hP : va_P (dC, dI) vwCl ([(x 16, .inr (3, [.ref (x 17), .ref (x 14), .int (nI ((Dln Rd_94))), .int (nI ((Dbh Rd_94))), .int (nI ((Dsa Rd_94))), .int (Dtk Rd_94), .int (Dvl Rd_94)])), (x 14, .inl (cI, 150, .inl Tx))]) H := hP
              have hD : va_D A ([(x 16, .inr (3, [.ref (x 17), .ref (x 14), .int (nI ((Dln Rd_94))), .int (nI ((Dbh Rd_94))), .int (nI ((Dsa Rd_94))), .int (Dtk Rd_94), .int (Dvl Rd_94)])), (x 14, .inl (cI, 150, .inl Tx))]) := hD
              have a_94 : Dln Rd_94 = (Dln Rd) ∧ Dsa Rd_94 = b ∧ b ≤ Dbh Rd_94 ∧ Dbh Rd_94 ≤ (Dln Rd) := passFigures_at hw_94 (show b ≤ (Dln Rd) by omega)
              rw [hw_94, let1_mk Rd_94] at hF
              refine lv_aload_n hx hb dX3_step_97 rfl (lv_at hl 1 rfl) ?_
              refine lv_aload_n hx hb dX3_step_98 rfl (lv_at hl 1 rfl) ?_
              refine va_get (D := (dC, dI)) (ci := 3) (v := .int (nI ((Dbh Rd_94)))) (C := RX3) (T := TX3) (N := 7) hx hb hts hin3 hown hK hP 0 rfl rfl 3 (by decide) lk32 (fun _ h9 => h9) rfl dX3_step_99 ?_
              refine lv_aload_n hx hb dX3_step_102 rfl (lv_at hl 1 rfl) ?_
              refine va_get (D := (dC, dI)) (ci := 3) (v := .int (nI ((Dsa Rd_94)))) (C := RX3) (T := TX3) (N := 7) hx hb hts hin3 hown hK hP 0 rfl rfl 4 (by decide) lk49 (fun _ h9 => h9) rfl dX3_step_103 ?_
              refine qv_isub hx hb ((Dbh Rd_94) - ((Dsa Rd_94))) dX3_step_106 (by omega) ?_
              refine lv_iconst (v := nI 2) hx hb dX3_step_107 (by decide) ?_
              refine qv_icmp_gt (tgt := 115) hx hb dX3_step_108 (by decide) (by omega) (by omega) (fun c_108 => ?_) (fun c_108 => ?_)
              · rw [if_pos c_108] at hF
                refine lv_iconst (v := nI 4) hx hb dX3_step_115 (by decide) ?_
                refine va_put (D := (dC, dI)) (ci := 3) (v := .int (nI 4)) (ty := .int) (C := RX3) (T := TX3) (N := 7) hx hb hts hin3 tyX3 tyX3_ok nmX3 hown hK hP hD hS 0 rfl rfl 5 (by decide) lk52 (fun _ h9 => h9) rfl (by decide +kernel) rfl rfl (Nat.le_of_ble_eq_true rfl) dX3_step_116 (fun H locs hP hD hS => ?_)
                have hP : va_P (dC, dI) vwCl ([(x 16, .inr (3, [.ref (x 17), .ref (x 14), .int (nI ((Dln Rd_94))), .int (nI ((Dbh Rd_94))), .int (nI ((Dsa Rd_94))), .int (nI 4), .int (Dvl Rd_94)])), (x 14, .inl (cI, 150, .inl Tx))]) H := hP
                have hD : va_D A ([(x 16, .inr (3, [.ref (x 17), .ref (x 14), .int (nI ((Dln Rd_94))), .int (nI ((Dbh Rd_94))), .int (nI ((Dsa Rd_94))), .int (nI 4), .int (Dvl Rd_94)])), (x 14, .inl (cI, 150, .inl Tx))]) := hD
                refine lv_goto (tgt := 147) hx hb dX3_step_119 (by decide) ?_
                have hP9 : va_P (dC, dI) vwCl ([(x 16, .inr (3, [.ref (x 17), .ref (x 14), .int (nI ((Dln Rd_94))), .int (nI ((Dbh Rd_94))), .int (nI ((Dsa Rd_94))), .int (nI 4), .int (Dvl Rd_94)])), (x 14, .inl (cI, 150, .inl Tx))]) H := hP
                exact W.vret hx hb hr (fun t ht hW => ⟨⟨(((Dln Rd_94), (Dbh Rd_94), (Dsa Rd_94), nI 4, Dvl Rd_94)), rfl, hO.symm.trans hF, by rw [ht]; exact hP9, va_K.moved hW.alike hK, hD⟩, hS.F ht⟩) hS.2.2 dX3_step_147
              · rw [if_neg c_108] at hF
                refine lv_iconst (v := nI 2) hx hb dX3_step_111 (by decide) ?_
                refine lv_goto (tgt := 116) hx hb dX3_step_112 (by decide) ?_
                refine va_put (D := (dC, dI)) (ci := 3) (v := .int (nI 2)) (ty := .int) (C := RX3) (T := TX3) (N := 7) hx hb hts hin3 tyX3 tyX3_ok nmX3 hown hK hP hD hS 0 rfl rfl 5 (by decide) lk52 (fun _ h9 => h9) rfl (by decide +kernel) rfl rfl (Nat.le_of_ble_eq_true rfl) dX3_step_116 (fun H locs hP hD hS => ?_)
                have hP : va_P (dC, dI) vwCl ([(x 16, .inr (3, [.ref (x 17), .ref (x 14), .int (nI ((Dln Rd_94))), .int (nI ((Dbh Rd_94))), .int (nI ((Dsa Rd_94))), .int (nI 2), .int (Dvl Rd_94)])), (x 14, .inl (cI, 150, .inl Tx))]) H := hP
                have hD : va_D A ([(x 16, .inr (3, [.ref (x 17), .ref (x 14), .int (nI ((Dln Rd_94))), .int (nI ((Dbh Rd_94))), .int (nI ((Dsa Rd_94))), .int (nI 2), .int (Dvl Rd_94)])), (x 14, .inl (cI, 150, .inl Tx))]) := hD
                refine lv_goto (tgt := 147) hx hb dX3_step_119 (by decide) ?_
                have hP9 : va_P (dC, dI) vwCl ([(x 16, .inr (3, [.ref (x 17), .ref (x 14), .int (nI ((Dln Rd_94))), .int (nI ((Dbh Rd_94))), .int (nI ((Dsa Rd_94))), .int (nI 2), .int (Dvl Rd_94)])), (x 14, .inl (cI, 150, .inl Tx))]) H := hP
                exact W.vret hx hb hr (fun t ht hW => ⟨⟨(((Dln Rd_94), (Dbh Rd_94), (Dsa Rd_94), nI 2, Dvl Rd_94)), rfl, hO.symm.trans hF, by rw [ht]; exact hP9, va_K.moved hW.alike hK, hD⟩, hS.F ht⟩) hS.2.2 dX3_step_147
          · rw [if_pos c_71] at hF
            refine lv_aload_n hx hb dX3_step_74 rfl (lv_at hl 1 rfl) ?_
            refine lv_iconst (v := nI 1) hx hb dX3_step_75 (by decide) ?_
            refine va_put (D := (dC, dI)) (ci := 3) (v := .int (nI 1)) (ty := .int) (C := RX3) (T := TX3) (N := 7) hx hb hts hin3 tyX3 tyX3_ok nmX3 hown hK hP hD hS 0 rfl rfl 5 (by decide) lk52 (fun _ h9 => h9) rfl (by decide +kernel) rfl rfl (Nat.le_of_ble_eq_true rfl) dX3_step_76 (fun H locs hP hD hS => ?_)
            have hP : va_P (dC, dI) vwCl ([(x 16, .inr (3, [.ref (x 17), .ref (x 14), .int (nI ((Dln Rd))), .int (nI b), .int (nI b), .int (nI 1), .int (Dvl Rd)])), (x 14, .inl (cI, 150, .inl Tx))]) H := hP
            have hD : va_D A ([(x 16, .inr (3, [.ref (x 17), .ref (x 14), .int (nI ((Dln Rd))), .int (nI b), .int (nI b), .int (nI 1), .int (Dvl Rd)])), (x 14, .inl (cI, 150, .inl Tx))]) := hD
            refine lv_aload_n hx hb dX3_step_79 rfl (lv_at hl 1 rfl) ?_
            refine qx_Vv (C := RX3) (As := []) (rest := []) (ci := 3) (k0 := 0) (wr := []) (ws2 := fun u => [(x 16, .inr (3, [.ref (x 17), .ref (x 14), .int (nI ((Dln u))), .int (nI ((Dbh u))), .int (nI ((Dsa u))), .int (Dtk u), .int (Dvl u)])), (x 14, .inl (cI, 150, .inl Tx))]) [0, 1] [] [0, 1] ⟨hx, hb, hml, hown, hts⟩ (c_X3_passLetters l dC dI x cI H.size (((Dln Rd), b, b, nI 1, Dvl Rd)) Tx  (by omega) (by omega)) (cwV 0 hts gX3_step_X3_passLetters rfl rfl rfl (by decide +kernel) ⟨Nat.le_of_ble_eq_true rfl, Nat.le_of_ble_eq_true rfl⟩) (hK.sub [0] rfl) hK hP hD hS hA hN rfl rfl (by decide) (by decide) (by decide) (by decide) (fun _ => rfl) rfl rfl rfl rfl hl.1 rfl (Nat.le_of_ble_eq_true rfl) dX3_step_80 ⟨Nat.zero_le _, Nat.zero_le _⟩ (fun u_80 H locs hw_80 hP hD hS => ?_)
            obtain ⟨Rd_80, rfl⟩ : ∃ z, z = u_80 := ⟨_, rfl⟩
            have hP : va_P (dC, dI) vwCl ([(x 16, .inr (3, [.ref (x 17), .ref (x 14), .int (nI ((Dln Rd_80))), .int (nI ((Dbh Rd_80))), .int (nI ((Dsa Rd_80))), .int (Dtk Rd_80), .int (Dvl Rd_80)])), (x 14, .inl (cI, 150, .inl Tx))]) H := hP
            have hD : va_D A ([(x 16, .inr (3, [.ref (x 17), .ref (x 14), .int (nI ((Dln Rd_80))), .int (nI ((Dbh Rd_80))), .int (nI ((Dsa Rd_80))), .int (Dtk Rd_80), .int (Dvl Rd_80)])), (x 14, .inl (cI, 150, .inl Tx))]) := hD
            have a_80 : Dln Rd_80 = (Dln Rd) ∧ Dsa Rd_80 = b ∧ b ≤ Dbh Rd_80 ∧ Dbh Rd_80 ≤ (Dln Rd) := passLetters_at hw_80 (show b ≤ (Dln Rd) by omega)
            rw [hw_80, let1_mk Rd_80] at hF
            refine lv_goto (tgt := 147) hx hb dX3_step_83 (by decide) ?_
            have hP9 : va_P (dC, dI) vwCl ([(x 16, .inr (3, [.ref (x 17), .ref (x 14), .int (nI ((Dln Rd_80))), .int (nI ((Dbh Rd_80))), .int (nI ((Dsa Rd_80))), .int (Dtk Rd_80), .int (Dvl Rd_80)])), (x 14, .inl (cI, 150, .inl Tx))]) H := hP
            exact W.vret hx hb hr (fun t ht hW => ⟨⟨(Rd_80), rfl, hO.symm.trans hF, by rw [ht]; exact hP9, va_K.moved hW.alike hK, hD⟩, hS.F ht⟩) hS.2.2 dX3_step_147
        · rw [if_pos c_56] at hF
          refine lv_aload_n hx hb dX3_step_59 rfl (lv_at hl 1 rfl) ?_
          refine lv_iconst (v := nI 0) hx hb dX3_step_60 (by decide) ?_
          refine va_put (D := (dC, dI)) (ci := 3) (v := .int (nI 0)) (ty := .int) (C := RX3) (T := TX3) (N := 7) hx hb hts hin3 tyX3 tyX3_ok nmX3 hown hK hP hD hS 0 rfl rfl 5 (by decide) lk52 (fun _ h9 => h9) rfl (by decide +kernel) rfl rfl (Nat.le_of_ble_eq_true rfl) dX3_step_61 (fun H locs hP hD hS => ?_)
          have hP : va_P (dC, dI) vwCl ([(x 16, .inr (3, [.ref (x 17), .ref (x 14), .int (nI ((Dln Rd))), .int (nI b), .int (nI b), .int (nI 0), .int (Dvl Rd)])), (x 14, .inl (cI, 150, .inl Tx))]) H := hP
          have hD : va_D A ([(x 16, .inr (3, [.ref (x 17), .ref (x 14), .int (nI ((Dln Rd))), .int (nI b), .int (nI b), .int (nI 0), .int (Dvl Rd)])), (x 14, .inl (cI, 150, .inl Tx))]) := hD
          refine lv_goto (tgt := 147) hx hb dX3_step_64 (by decide) ?_
          have hP9 : va_P (dC, dI) vwCl ([(x 16, .inr (3, [.ref (x 17), .ref (x 14), .int (nI ((Dln Rd))), .int (nI b), .int (nI b), .int (nI 0), .int (Dvl Rd)])), (x 14, .inl (cI, 150, .inl Tx))]) H := hP
          exact W.vret hx hb hr (fun t ht hW => ⟨⟨(((Dln Rd), b, b, nI 0, Dvl Rd)), rfl, hO.symm.trans hF, by rw [ht]; exact hP9, va_K.moved hW.alike hK, hD⟩, hS.F ht⟩) hS.2.2 dX3_step_147
      · rw [if_neg c_8] at hF
        refine lv_aload_n hx hb dX3_step_11 rfl (lv_at hl 0 rfl) ?_
        refine lv_aload_n hx hb dX3_step_12 rfl (lv_at hl 0 rfl) ?_
        refine va_get (D := (dC, dI)) (ci := 3) (v := .int (nI b)) (C := RX3) (T := TX3) (N := 7) hx hb hts hin3 hown hK hP 0 rfl rfl 3 (by decide) lk32 (fun _ h9 => h9) rfl dX3_step_13 ?_
        refine qx_Vi (C := RX3) (As := [.int (nI b)]) (rest := []) (ci := 3) (k0 := 0) (wr := []) (ws2 := fun u => [(x 16, .inr (3, [.ref (x 17), .ref (x 14), .int (nI ((Dln Rd))), .int (nI b), .int (nI ((Dsa Rd))), .int (Dtk Rd), .int (Dvl Rd)])), (x 14, .inl (cI, 150, .inl Tx))]) [0, 1] [] [0, 1] ⟨hx, hb, hml, hown, hts⟩ (c_X3_byteAt l dC dI x cI H.size (((Dln Rd), b, (Dsa Rd), Dtk Rd, Dvl Rd)) Tx b (by omega) (by omega)) (cwV 1 hts gX3_step_X3_byteAt rfl rfl rfl (by decide +kernel) ⟨Nat.le_of_ble_eq_true rfl, Nat.le_of_ble_eq_true rfl⟩) (hK.sub [0] rfl) hK hP hD hS hA hN rfl rfl (by decide) (by decide) (by decide) (by decide) (fun _ => rfl) rfl rfl rfl rfl hl.1 rfl (Nat.le_of_ble_eq_true rfl) dX3_step_16 ⟨Nat.zero_le _, Nat.zero_le _⟩ (fun r_16 u_16 H locs hw_16 hP hD hS => ?_)
        have hP : va_P (dC, dI) vwCl ([(x 16, .inr (3, [.ref (x 17), .ref (x 14), .int (nI ((Dln Rd))), .int (nI b), .int (nI ((Dsa Rd))), .int (Dtk Rd), .int (Dvl Rd)])), (x 14, .inl (cI, 150, .inl Tx))]) H := hP
        have hD : va_D A ([(x 16, .inr (3, [.ref (x 17), .ref (x 14), .int (nI ((Dln Rd))), .int (nI b), .int (nI ((Dsa Rd))), .int (Dtk Rd), .int (Dvl Rd)])), (x 14, .inl (cI, 150, .inl Tx))]) := hD
        rw [hw_16, let1_mk r_16] at hF
        refine lv_bipush (v := nI 32) hx hb dX3_step_19 (by decide) ?_
        refine lv_icmp_ne (tgt := 37) hx hb dX3_step_21 (by decide) (fun c_21 => ?_) (fun c_21 => ?_)
        · rw [if_neg c_21] at hF
          rw [let1_mk (b : Nat)] at hF
          refine lv_aload_n hx hb dX3_step_37 rfl (lv_at hl 0 rfl) ?_
          refine lv_aload_n hx hb dX3_step_38 rfl (lv_at hl 0 rfl) ?_
          refine va_get (D := (dC, dI)) (ci := 3) (v := .int (nI b)) (C := RX3) (T := TX3) (N := 7) hx hb hts hin3 hown hK hP 0 rfl rfl 3 (by decide) lk32 (fun _ h9 => h9) rfl dX3_step_39 ?_
          refine va_put (D := (dC, dI)) (ci := 3) (v := .int (nI b)) (ty := .int) (C := RX3) (T := TX3) (N := 7) hx hb hts hin3 tyX3 tyX3_ok nmX3 hown hK hP hD hS 0 rfl rfl 4 (by decide) lk49 (fun _ h9 => h9) rfl (by decide +kernel) rfl rfl (Nat.le_of_ble_eq_true rfl) dX3_step_42 (fun H locs hP hD hS => ?_)
          have hP : va_P (dC, dI) vwCl ([(x 16, .inr (3, [.ref (x 17), .ref (x 14), .int (nI ((Dln Rd))), .int (nI b), .int (nI b), .int (Dtk Rd), .int (Dvl Rd)])), (x 14, .inl (cI, 150, .inl Tx))]) H := hP
          have hD : va_D A ([(x 16, .inr (3, [.ref (x 17), .ref (x 14), .int (nI ((Dln Rd))), .int (nI b), .int (nI b), .int (Dtk Rd), .int (Dvl Rd)])), (x 14, .inl (cI, 150, .inl Tx))]) := hD
          refine lv_aload_n hx hb dX3_step_45 rfl (lv_at hl 0 rfl) ?_
          refine lv_aload_n hx hb dX3_step_46 rfl (lv_at hl 0 rfl) ?_
          refine va_get (D := (dC, dI)) (ci := 3) (v := .int (nI b)) (C := RX3) (T := TX3) (N := 7) hx hb hts hin3 hown hK hP 0 rfl rfl 4 (by decide) lk49 (fun _ h9 => h9) rfl dX3_step_47 ?_
          refine qx_Vi (C := RX3) (As := [.int (nI b)]) (rest := []) (ci := 3) (k0 := 0) (wr := []) (ws2 := fun u => [(x 16, .inr (3, [.ref (x 17), .ref (x 14), .int (nI ((Dln Rd))), .int (nI b), .int (nI b), .int (Dtk Rd), .int (Dvl Rd)])), (x 14, .inl (cI, 150, .inl Tx))]) [0, 1] [] [0, 1] ⟨hx, hb, hml, hown, hts⟩ (c_X3_byteAt l dC dI x cI H.size (((Dln Rd), b, b, Dtk Rd, Dvl Rd)) Tx b (by omega) (by omega)) (cwV 1 hts gX3_step_X3_byteAt rfl rfl rfl (by decide +kernel) ⟨Nat.le_of_ble_eq_true rfl, Nat.le_of_ble_eq_true rfl⟩) (hK.sub [0] rfl) hK hP hD hS hA hN rfl rfl (by decide) (by decide) (by decide) (by decide) (fun _ => rfl) rfl rfl rfl rfl hl.1 rfl (Nat.le_of_ble_eq_true rfl) dX3_step_50 ⟨Nat.zero_le _, Nat.zero_le _⟩ (fun r_50 u_50 H locs hw_50 hP hD hS => ?_)
          have hP : va_P (dC, dI) vwCl ([(x 16, .inr (3, [.ref (x 17), .ref (x 14), .int (nI ((Dln Rd))), .int (nI b), .int (nI b), .int (Dtk Rd), .int (Dvl Rd)])), (x 14, .inl (cI, 150, .inl Tx))]) H := hP
          have hD : va_D A ([(x 16, .inr (3, [.ref (x 17), .ref (x 14), .int (nI ((Dln Rd))), .int (nI b), .int (nI b), .int (Dtk Rd), .int (Dvl Rd)])), (x 14, .inl (cI, 150, .inl Tx))]) := hD
          rw [hw_50, let1_mk r_50] at hF
          refine lv_istore_n (lv' := [(1, .int r_50), (0, .ref (x 16))]) hx hb dX3_step_53 rfl hl (by decide) rfl (fun ls hl => ?_)
          refine lv_iload_n hx hb dX3_step_54 rfl (lv_at hl 0 rfl) ?_
          refine lv_iconst (v := (-1)) hx hb dX3_step_55 (by decide) ?_
          refine lv_icmp_ne (tgt := 67) hx hb dX3_step_56 (by decide) (fun c_56 => ?_) (fun c_56 => ?_)
          · rw [if_neg c_56] at hF
            refine lv_iload_n hx hb dX3_step_67 rfl (lv_at hl 0 rfl) ?_
            refine qc_Si (As := [.int r_50]) (rest := []) ⟨hx, hb, hml, hown, hts⟩ (c_X3_isLetter l r_50) (va_cwS 1 hts gX3_step_X3_isLetter rfl rfl rfl (by decide +kernel) ⟨Nat.le_of_ble_eq_true rfl, Nat.le_of_ble_eq_true rfl⟩) rfl hl.1 rfl (Nat.le_of_ble_eq_true rfl) dX3_step_68 ⟨Nat.zero_le _, Nat.zero_le _⟩ (fun r_68 hw_68 => ?_)
            subst hw_68
            refine qv_zif_eq (tgt := 86) hx hb dX3_step_71 (by decide) (fun c_71 => ?_) (fun c_71 => ?_)
            · rw [if_neg c_71] at hF
              refine lv_iload_n hx hb dX3_step_86 rfl (lv_at hl 0 rfl) ?_
              refine qc_Si (As := [.int r_50]) (rest := []) ⟨hx, hb, hml, hown, hts⟩ (c_X3_isFigure l r_50) (va_cwS 1 hts gX3_step_X3_isFigure rfl rfl rfl (by decide +kernel) ⟨Nat.le_of_ble_eq_true rfl, Nat.le_of_ble_eq_true rfl⟩) rfl hl.1 rfl (Nat.le_of_ble_eq_true rfl) dX3_step_87 ⟨Nat.zero_le _, Nat.zero_le _⟩ (fun r_87 hw_87 => ?_)
              subst hw_87
              refine qv_zif_eq (tgt := 122) hx hb dX3_step_90 (by decide) (fun c_90 => ?_) (fun c_90 => ?_)
              · rw [if_neg c_90] at hF
                refine lv_aload_n hx hb dX3_step_122 rfl (lv_at hl 1 rfl) ?_
                refine lv_iload_n hx hb dX3_step_123 rfl (lv_at hl 0 rfl) ?_
                refine lv_bipush (v := nI 59) hx hb dX3_step_124 (by decide) ?_
                refine lv_icmp_ne (tgt := 133) hx hb dX3_step_126 (by decide) (fun c_126 => ?_) (fun c_126 => ?_)
                · rw [if_neg c_126] at hF
                  refine lv_iconst (v := nI 4) hx hb dX3_step_133 (by decide) ?_
                  refine va_put (D := (dC, dI)) (ci := 3) (v := .int (nI 4)) (ty := .int) (C := RX3) (T := TX3) (N := 7) hx hb hts hin3 tyX3 tyX3_ok nmX3 hown hK hP hD hS 0 rfl rfl 5 (by decide) lk52 (fun _ h9 => h9) rfl (by decide +kernel) rfl rfl (Nat.le_of_ble_eq_true rfl) dX3_step_134 (fun H locs hP hD hS => ?_)
                  have hP : va_P (dC, dI) vwCl ([(x 16, .inr (3, [.ref (x 17), .ref (x 14), .int (nI ((Dln Rd))), .int (nI b), .int (nI b), .int (nI 4), .int (Dvl Rd)])), (x 14, .inl (cI, 150, .inl Tx))]) H := hP
                  have hD : va_D A ([(x 16, .inr (3, [.ref (x 17), .ref (x 14), .int (nI ((Dln Rd))), .int (nI b), .int (nI b), .int (nI 4), .int (Dvl Rd)])), (x 14, .inl (cI, 150, .inl Tx))]) := hD
                  refine lv_aload_n hx hb dX3_step_137 rfl (lv_at hl 1 rfl) ?_
                  refine lv_dup hx hb dX3_step_138 rfl ?_
                  refine va_get (D := (dC, dI)) (ci := 3) (v := .int (nI b)) (C := RX3) (T := TX3) (N := 7) hx hb hts hin3 hown hK hP 0 rfl rfl 3 (by decide) lk32 (fun _ h9 => h9) rfl dX3_step_139 ?_
                  refine lv_iconst (v := nI 1) hx hb dX3_step_142 (by decide) ?_
                  refine qv_iadd hx hb (b + 1) dX3_step_143 (by omega) ?_
                  refine va_put (D := (dC, dI)) (ci := 3) (v := .int (nI (b + 1))) (ty := .int) (C := RX3) (T := TX3) (N := 7) hx hb hts hin3 tyX3 tyX3_ok nmX3 hown hK hP hD hS 0 rfl rfl 3 (by decide) lk32 (fun _ h9 => h9) rfl (by decide +kernel) rfl rfl (Nat.le_of_ble_eq_true rfl) dX3_step_144 (fun H locs hP hD hS => ?_)
                  have hP : va_P (dC, dI) vwCl ([(x 16, .inr (3, [.ref (x 17), .ref (x 14), .int (nI ((Dln Rd))), .int (nI (b + 1)), .int (nI b), .int (nI 4), .int (Dvl Rd)])), (x 14, .inl (cI, 150, .inl Tx))]) H := hP
                  have hD : va_D A ([(x 16, .inr (3, [.ref (x 17), .ref (x 14), .int (nI ((Dln Rd))), .int (nI (b + 1)), .int (nI b), .int (nI 4), .int (Dvl Rd)])), (x 14, .inl (cI, 150, .inl Tx))]) := hD
                  have hP9 : va_P (dC, dI) vwCl ([(x 16, .inr (3, [.ref (x 17), .ref (x 14), .int (nI ((Dln Rd))), .int (nI (b + 1)), .int (nI b), .int (nI 4), .int (Dvl Rd)])), (x 14, .inl (cI, 150, .inl Tx))]) H := hP
                  exact W.vret hx hb hr (fun t ht hW => ⟨⟨(((Dln Rd), b + 1, b, nI 4, Dvl Rd)), rfl, hO.symm.trans hF, by rw [ht]; exact hP9, va_K.moved hW.alike hK, hD⟩, hS.F ht⟩) hS.2.2 dX3_step_147
                · rw [if_pos c_126] at hF
                  refine lv_iconst (v := nI 3) hx hb dX3_step_129 (by decide) ?_
                  refine lv_goto (tgt := 134) hx hb dX3_step_130 (by decide) ?_
                  refine va_put (D := (dC, dI)) (ci := 3) (v := .int (nI 3)) (ty := .int) (C := RX3) (T := TX3) (N := 7) hx hb hts hin3 tyX3 tyX3_ok nmX3 hown hK hP hD hS 0 rfl rfl 5 (by decide) lk52 (fun _ h9 => h9) rfl (by decide +kernel) rfl rfl (Nat.le_of_ble_eq_true rfl) dX3_step_134 (fun H locs hP hD hS => ?_)
                  have hP : va_P (dC, dI) vwCl ([(x 16, .inr (3, [.ref (x 17), .ref (x 14), .int (nI ((Dln Rd))), .int (nI b), .int (nI b), .int (nI 3), .int (Dvl Rd)])), (x 14, .inl (cI, 150, .inl Tx))]) H := hP
                  have hD : va_D A ([(x 16, .inr (3, [.ref (x 17), .ref (x 14), .int (nI ((Dln Rd))), .int (nI b), .int (nI b), .int (nI 3), .int (Dvl Rd)])), (x 14, .inl (cI, 150, .inl Tx))]) := hD
                  refine lv_aload_n hx hb dX3_step_137 rfl (lv_at hl 1 rfl) ?_
                  refine lv_dup hx hb dX3_step_138 rfl ?_
                  refine va_get (D := (dC, dI)) (ci := 3) (v := .int (nI b)) (C := RX3) (T := TX3) (N := 7) hx hb hts hin3 hown hK hP 0 rfl rfl 3 (by decide) lk32 (fun _ h9 => h9) rfl dX3_step_139 ?_
                  refine lv_iconst (v := nI 1) hx hb dX3_step_142 (by decide) ?_
                  refine qv_iadd hx hb (b + 1) dX3_step_143 (by omega) ?_
                  refine va_put (D := (dC, dI)) (ci := 3) (v := .int (nI (b + 1))) (ty := .int) (C := RX3) (T := TX3) (N := 7) hx hb hts hin3 tyX3 tyX3_ok nmX3 hown hK hP hD hS 0 rfl rfl 3 (by decide) lk32 (fun _ h9 => h9) rfl (by decide +kernel) rfl rfl (Nat.le_of_ble_eq_true rfl) dX3_step_144 (fun H locs hP hD hS => ?_)
                  have hP : va_P (dC, dI) vwCl ([(x 16, .inr (3, [.ref (x 17), .ref (x 14), .int (nI ((Dln Rd))), .int (nI (b + 1)), .int (nI b), .int (nI 3), .int (Dvl Rd)])), (x 14, .inl (cI, 150, .inl Tx))]) H := hP
                  have hD : va_D A ([(x 16, .inr (3, [.ref (x 17), .ref (x 14), .int (nI ((Dln Rd))), .int (nI (b + 1)), .int (nI b), .int (nI 3), .int (Dvl Rd)])), (x 14, .inl (cI, 150, .inl Tx))]) := hD
                  have hP9 : va_P (dC, dI) vwCl ([(x 16, .inr (3, [.ref (x 17), .ref (x 14), .int (nI ((Dln Rd))), .int (nI (b + 1)), .int (nI b), .int (nI 3), .int (Dvl Rd)])), (x 14, .inl (cI, 150, .inl Tx))]) H := hP
                  exact W.vret hx hb hr (fun t ht hW => ⟨⟨(((Dln Rd), b + 1, b, nI 3, Dvl Rd)), rfl, hO.symm.trans hF, by rw [ht]; exact hP9, va_K.moved hW.alike hK, hD⟩, hS.F ht⟩) hS.2.2 dX3_step_147
              · rw [if_pos c_90] at hF
                refine lv_aload_n hx hb dX3_step_93 rfl (lv_at hl 1 rfl) ?_
                refine qx_Vv (C := RX3) (As := []) (rest := []) (ci := 3) (k0 := 0) (wr := []) (ws2 := fun u => [(x 16, .inr (3, [.ref (x 17), .ref (x 14), .int (nI ((Dln u))), .int (nI ((Dbh u))), .int (nI ((Dsa u))), .int (Dtk u), .int (Dvl u)])), (x 14, .inl (cI, 150, .inl Tx))]) [0, 1] [] [0, 1] ⟨hx, hb, hml, hown, hts⟩ (c_X3_passFigures l dC dI x cI H.size (((Dln Rd), b, b, Dtk Rd, Dvl Rd)) Tx  (by omega) (by omega)) (cwV 0 hts gX3_step_X3_passFigures rfl rfl rfl (by decide +kernel) ⟨Nat.le_of_ble_eq_true rfl, Nat.le_of_ble_eq_true rfl⟩) (hK.sub [0] rfl) hK hP hD hS hA hN rfl rfl (by decide) (by decide) (by decide) (by decide) (fun _ => rfl) rfl rfl rfl rfl hl.1 rfl (Nat.le_of_ble_eq_true rfl) dX3_step_94 ⟨Nat.zero_le _, Nat.zero_le _⟩ (fun u_94 H locs hw_94 hP hD hS => ?_)
                obtain ⟨Rd_94, rfl⟩ : ∃ z, z = u_94 := ⟨_, rfl⟩
                have hP : va_P (dC, dI) vwCl ([(x 16, .inr (3, [.ref (x 17), .ref (x 14), .int (nI ((Dln Rd_94))), .int (nI ((Dbh Rd_94))), .int (nI ((Dsa Rd_94))), .int (Dtk Rd_94), .int (Dvl Rd_94)])), (x 14, .inl (cI, 150, .inl Tx))]) H := hP
                have hD : va_D A ([(x 16, .inr (3, [.ref (x 17), .ref (x 14), .int (nI ((Dln Rd_94))), .int (nI ((Dbh Rd_94))), .int (nI ((Dsa Rd_94))), .int (Dtk Rd_94), .int (Dvl Rd_94)])), (x 14, .inl (cI, 150, .inl Tx))]) := hD
                have a_94 : Dln Rd_94 = (Dln Rd) ∧ Dsa Rd_94 = b ∧ b ≤ Dbh Rd_94 ∧ Dbh Rd_94 ≤ (Dln Rd) := passFigures_at hw_94 (show b ≤ (Dln Rd) by omega)
                rw [hw_94, let1_mk Rd_94] at hF
                refine lv_aload_n hx hb dX3_step_97 rfl (lv_at hl 1 rfl) ?_
                refine lv_aload_n hx hb dX3_step_98 rfl (lv_at hl 1 rfl) ?_
                refine va_get (D := (dC, dI)) (ci := 3) (v := .int (nI ((Dbh Rd_94)))) (C := RX3) (T := TX3) (N := 7) hx hb hts hin3 hown hK hP 0 rfl rfl 3 (by decide) lk32 (fun _ h9 => h9) rfl dX3_step_99 ?_
                refine lv_aload_n hx hb dX3_step_102 rfl (lv_at hl 1 rfl) ?_
                refine va_get (D := (dC, dI)) (ci := 3) (v := .int (nI ((Dsa Rd_94)))) (C := RX3) (T := TX3) (N := 7) hx hb hts hin3 hown hK hP 0 rfl rfl 4 (by decide) lk49 (fun _ h9 => h9) rfl dX3_step_103 ?_
                refine qv_isub hx hb ((Dbh Rd_94) - ((Dsa Rd_94))) dX3_step_106 (by omega) ?_
                refine lv_iconst (v := nI 2) hx hb dX3_step_107 (by decide) ?_
                refine qv_icmp_gt (tgt := 115) hx hb dX3_step_108 (by decide) (by omega) (by omega) (fun c_108 => ?_) (fun c_108 => ?_)
                · rw [if_pos c_108] at hF
                  refine lv_iconst (v := nI 4) hx hb dX3_step_115 (by decide) ?_
                  refine va_put (D := (dC, dI)) (ci := 3) (v := .int (nI 4)) (ty := .int) (C := RX3) (T := TX3) (N := 7) hx hb hts hin3 tyX3 tyX3_ok nmX3 hown hK hP hD hS 0 rfl rfl 5 (by decide) lk52 (fun _ h9 => h9) rfl (by decide +kernel) rfl rfl (Nat.le_of_ble_eq_true rfl) dX3_step_116 (fun H locs hP hD hS => ?_)
                  have hP : va_P (dC, dI) vwCl ([(x 16, .inr (3, [.ref (x 17), .ref (x 14), .int (nI ((Dln Rd_94))), .int (nI ((Dbh Rd_94))), .int (nI ((Dsa Rd_94))), .int (nI 4), .int (Dvl Rd_94)])), (x 14, .inl (cI, 150, .inl Tx))]) H := hP
                  have hD : va_D A ([(x 16, .inr (3, [.ref (x 17), .ref (x 14), .int (nI ((Dln Rd_94))), .int (nI ((Dbh Rd_94))), .int (nI ((Dsa Rd_94))), .int (nI 4), .int (Dvl Rd_94)])), (x 14, .inl (cI, 150, .inl Tx))]) := hD
                  refine lv_goto (tgt := 147) hx hb dX3_step_119 (by decide) ?_
                  have hP9 : va_P (dC, dI) vwCl ([(x 16, .inr (3, [.ref (x 17), .ref (x 14), .int (nI ((Dln Rd_94))), .int (nI ((Dbh Rd_94))), .int (nI ((Dsa Rd_94))), .int (nI 4), .int (Dvl Rd_94)])), (x 14, .inl (cI, 150, .inl Tx))]) H := hP
                  exact W.vret hx hb hr (fun t ht hW => ⟨⟨(((Dln Rd_94), (Dbh Rd_94), (Dsa Rd_94), nI 4, Dvl Rd_94)), rfl, hO.symm.trans hF, by rw [ht]; exact hP9, va_K.moved hW.alike hK, hD⟩, hS.F ht⟩) hS.2.2 dX3_step_147
                · rw [if_neg c_108] at hF
                  refine lv_iconst (v := nI 2) hx hb dX3_step_111 (by decide) ?_
                  refine lv_goto (tgt := 116) hx hb dX3_step_112 (by decide) ?_
                  refine va_put (D := (dC, dI)) (ci := 3) (v := .int (nI 2)) (ty := .int) (C := RX3) (T := TX3) (N := 7) hx hb hts hin3 tyX3 tyX3_ok nmX3 hown hK hP hD hS 0 rfl rfl 5 (by decide) lk52 (fun _ h9 => h9) rfl (by decide +kernel) rfl rfl (Nat.le_of_ble_eq_true rfl) dX3_step_116 (fun H locs hP hD hS => ?_)
                  have hP : va_P (dC, dI) vwCl ([(x 16, .inr (3, [.ref (x 17), .ref (x 14), .int (nI ((Dln Rd_94))), .int (nI ((Dbh Rd_94))), .int (nI ((Dsa Rd_94))), .int (nI 2), .int (Dvl Rd_94)])), (x 14, .inl (cI, 150, .inl Tx))]) H := hP
                  have hD : va_D A ([(x 16, .inr (3, [.ref (x 17), .ref (x 14), .int (nI ((Dln Rd_94))), .int (nI ((Dbh Rd_94))), .int (nI ((Dsa Rd_94))), .int (nI 2), .int (Dvl Rd_94)])), (x 14, .inl (cI, 150, .inl Tx))]) := hD
                  refine lv_goto (tgt := 147) hx hb dX3_step_119 (by decide) ?_
                  have hP9 : va_P (dC, dI) vwCl ([(x 16, .inr (3, [.ref (x 17), .ref (x 14), .int (nI ((Dln Rd_94))), .int (nI ((Dbh Rd_94))), .int (nI ((Dsa Rd_94))), .int (nI 2), .int (Dvl Rd_94)])), (x 14, .inl (cI, 150, .inl Tx))]) H := hP
                  exact W.vret hx hb hr (fun t ht hW => ⟨⟨(((Dln Rd_94), (Dbh Rd_94), (Dsa Rd_94), nI 2, Dvl Rd_94)), rfl, hO.symm.trans hF, by rw [ht]; exact hP9, va_K.moved hW.alike hK, hD⟩, hS.F ht⟩) hS.2.2 dX3_step_147
            · rw [if_pos c_71] at hF
              refine lv_aload_n hx hb dX3_step_74 rfl (lv_at hl 1 rfl) ?_
              refine lv_iconst (v := nI 1) hx hb dX3_step_75 (by decide) ?_
              refine va_put (D := (dC, dI)) (ci := 3) (v := .int (nI 1)) (ty := .int) (C := RX3) (T := TX3) (N := 7) hx hb hts hin3 tyX3 tyX3_ok nmX3 hown hK hP hD hS 0 rfl rfl 5 (by decide) lk52 (fun _ h9 => h9) rfl (by decide +kernel) rfl rfl (Nat.le_of_ble_eq_true rfl) dX3_step_76 (fun H locs hP hD hS => ?_)
              have hP : va_P (dC, dI) vwCl ([(x 16, .inr (3, [.ref (x 17), .ref (x 14), .int (nI ((Dln Rd))), .int (nI b), .int (nI b), .int (nI 1), .int (Dvl Rd)])), (x 14, .inl (cI, 150, .inl Tx))]) H := hP
              have hD : va_D A ([(x 16, .inr (3, [.ref (x 17), .ref (x 14), .int (nI ((Dln Rd))), .int (nI b), .int (nI b), .int (nI 1), .int (Dvl Rd)])), (x 14, .inl (cI, 150, .inl Tx))]) := hD
              refine lv_aload_n hx hb dX3_step_79 rfl (lv_at hl 1 rfl) ?_
              refine qx_Vv (C := RX3) (As := []) (rest := []) (ci := 3) (k0 := 0) (wr := []) (ws2 := fun u => [(x 16, .inr (3, [.ref (x 17), .ref (x 14), .int (nI ((Dln u))), .int (nI ((Dbh u))), .int (nI ((Dsa u))), .int (Dtk u), .int (Dvl u)])), (x 14, .inl (cI, 150, .inl Tx))]) [0, 1] [] [0, 1] ⟨hx, hb, hml, hown, hts⟩ (c_X3_passLetters l dC dI x cI H.size (((Dln Rd), b, b, nI 1, Dvl Rd)) Tx  (by omega) (by omega)) (cwV 0 hts gX3_step_X3_passLetters rfl rfl rfl (by decide +kernel) ⟨Nat.le_of_ble_eq_true rfl, Nat.le_of_ble_eq_true rfl⟩) (hK.sub [0] rfl) hK hP hD hS hA hN rfl rfl (by decide) (by decide) (by decide) (by decide) (fun _ => rfl) rfl rfl rfl rfl hl.1 rfl (Nat.le_of_ble_eq_true rfl) dX3_step_80 ⟨Nat.zero_le _, Nat.zero_le _⟩ (fun u_80 H locs hw_80 hP hD hS => ?_)
              obtain ⟨Rd_80, rfl⟩ : ∃ z, z = u_80 := ⟨_, rfl⟩
              have hP : va_P (dC, dI) vwCl ([(x 16, .inr (3, [.ref (x 17), .ref (x 14), .int (nI ((Dln Rd_80))), .int (nI ((Dbh Rd_80))), .int (nI ((Dsa Rd_80))), .int (Dtk Rd_80), .int (Dvl Rd_80)])), (x 14, .inl (cI, 150, .inl Tx))]) H := hP
              have hD : va_D A ([(x 16, .inr (3, [.ref (x 17), .ref (x 14), .int (nI ((Dln Rd_80))), .int (nI ((Dbh Rd_80))), .int (nI ((Dsa Rd_80))), .int (Dtk Rd_80), .int (Dvl Rd_80)])), (x 14, .inl (cI, 150, .inl Tx))]) := hD
              have a_80 : Dln Rd_80 = (Dln Rd) ∧ Dsa Rd_80 = b ∧ b ≤ Dbh Rd_80 ∧ Dbh Rd_80 ≤ (Dln Rd) := passLetters_at hw_80 (show b ≤ (Dln Rd) by omega)
              rw [hw_80, let1_mk Rd_80] at hF
              refine lv_goto (tgt := 147) hx hb dX3_step_83 (by decide) ?_
              have hP9 : va_P (dC, dI) vwCl ([(x 16, .inr (3, [.ref (x 17), .ref (x 14), .int (nI ((Dln Rd_80))), .int (nI ((Dbh Rd_80))), .int (nI ((Dsa Rd_80))), .int (Dtk Rd_80), .int (Dvl Rd_80)])), (x 14, .inl (cI, 150, .inl Tx))]) H := hP
              exact W.vret hx hb hr (fun t ht hW => ⟨⟨(Rd_80), rfl, hO.symm.trans hF, by rw [ht]; exact hP9, va_K.moved hW.alike hK, hD⟩, hS.F ht⟩) hS.2.2 dX3_step_147
          · rw [if_pos c_56] at hF
            refine lv_aload_n hx hb dX3_step_59 rfl (lv_at hl 1 rfl) ?_
            refine lv_iconst (v := nI 0) hx hb dX3_step_60 (by decide) ?_
            refine va_put (D := (dC, dI)) (ci := 3) (v := .int (nI 0)) (ty := .int) (C := RX3) (T := TX3) (N := 7) hx hb hts hin3 tyX3 tyX3_ok nmX3 hown hK hP hD hS 0 rfl rfl 5 (by decide) lk52 (fun _ h9 => h9) rfl (by decide +kernel) rfl rfl (Nat.le_of_ble_eq_true rfl) dX3_step_61 (fun H locs hP hD hS => ?_)
            have hP : va_P (dC, dI) vwCl ([(x 16, .inr (3, [.ref (x 17), .ref (x 14), .int (nI ((Dln Rd))), .int (nI b), .int (nI b), .int (nI 0), .int (Dvl Rd)])), (x 14, .inl (cI, 150, .inl Tx))]) H := hP
            have hD : va_D A ([(x 16, .inr (3, [.ref (x 17), .ref (x 14), .int (nI ((Dln Rd))), .int (nI b), .int (nI b), .int (nI 0), .int (Dvl Rd)])), (x 14, .inl (cI, 150, .inl Tx))]) := hD
            refine lv_goto (tgt := 147) hx hb dX3_step_64 (by decide) ?_
            have hP9 : va_P (dC, dI) vwCl ([(x 16, .inr (3, [.ref (x 17), .ref (x 14), .int (nI ((Dln Rd))), .int (nI b), .int (nI b), .int (nI 0), .int (Dvl Rd)])), (x 14, .inl (cI, 150, .inl Tx))]) H := hP
            exact W.vret hx hb hr (fun t ht hW => ⟨⟨(((Dln Rd), b, b, nI 0, Dvl Rd)), rfl, hO.symm.trans hF, by rw [ht]; exact hP9, va_K.moved hW.alike hK, hD⟩, hS.F ht⟩) hS.2.2 dX3_step_147
        · rw [if_pos c_21] at hF
          refine lv_aload_n hx hb dX3_step_24 rfl (lv_at hl 0 rfl) ?_
          refine lv_dup hx hb dX3_step_25 rfl ?_
          refine va_get (D := (dC, dI)) (ci := 3) (v := .int (nI b)) (C := RX3) (T := TX3) (N := 7) hx hb hts hin3 hown hK hP 0 rfl rfl 3 (by decide) lk32 (fun _ h9 => h9) rfl dX3_step_26 ?_
          refine lv_iconst (v := nI 1) hx hb dX3_step_29 (by decide) ?_
          refine qv_iadd hx hb (b + 1) dX3_step_30 (by omega) ?_
          refine va_put (D := (dC, dI)) (ci := 3) (v := .int (nI (b + 1))) (ty := .int) (C := RX3) (T := TX3) (N := 7) hx hb hts hin3 tyX3 tyX3_ok nmX3 hown hK hP hD hS 0 rfl rfl 3 (by decide) lk32 (fun _ h9 => h9) rfl (by decide +kernel) rfl rfl (Nat.le_of_ble_eq_true rfl) dX3_step_31 (fun H locs hP hD hS => ?_)
          have hP : va_P (dC, dI) vwCl ([(x 16, .inr (3, [.ref (x 17), .ref (x 14), .int (nI ((Dln Rd))), .int (nI (b + 1)), .int (nI ((Dsa Rd))), .int (Dtk Rd), .int (Dvl Rd)])), (x 14, .inl (cI, 150, .inl Tx))]) H := hP
          have hD : va_D A ([(x 16, .inr (3, [.ref (x 17), .ref (x 14), .int (nI ((Dln Rd))), .int (nI (b + 1)), .int (nI ((Dsa Rd))), .int (Dtk Rd), .int (Dvl Rd)])), (x 14, .inl (cI, 150, .inl Tx))]) := hD
          refine lv_goto (tgt := 0) hx hb dX3_step_34 (by decide) ?_
          exact ih_0 (b + 1) H locs (by omega) (by omega) hP hD hS ls (lv_sub hl [0] rfl) hF
  exact L_0 151 ((Dbh Rd)) s.heap [] (by omega) (by omega) hP hD hS ls (lv_sub hl [0] rfl) hF
theorem L_step (D : dS) (Tx : Nat → Int32) : ∀ (f b : Nat), b ≤ Dln D → b ≤ F_X3_step_L0 f D Tx b ∧ F_X3_step_L0 f D Tx b ≤ Dln D
  | 0, b, h => ⟨Nat.le_refl _, h⟩
  | f + 1, b, h => by
    rw [F_X3_step_L0]
    split
    · exact ⟨Nat.le_refl _, h⟩
    · simp only [let1]
      split
      · have := L_step D Tx f (b + 1) (by omega); omega
      · exact ⟨Nat.le_refl _, h⟩
theorem step_at {D D' : dS} {Tx : Nat → Int32} (e : F_X3_step D Tx = D') (h : Dbh D ≤ Dln D) : Dln D' = Dln D ∧ Dbh D' ≤ Dln D := by
  have g := L_step D Tx 151 (Dbh D) h
  rw [← e]
  unfold F_X3_step
  simp only [let1]
  generalize F_X3_step_L0 151 D Tx (Dbh D) = b at g
  split
  · exact ⟨rfl, g.2⟩
  · rename_i n1
    have hb : b < Dln D := by
      rcases Nat.lt_or_ge b (Dln D) with q | q
      · exact q
      · exact absurd (if_pos q) n1
    split
    · have q := passLetters_at (D := (Dln D, b, b, nI 1, Dvl D)) (Tx := Tx) rfl g.2
      exact ⟨q.1, q.2.2.2⟩
    · split
      · have q := passFigures_at (D := (Dln D, b, b, Dtk D, Dvl D)) (Tx := Tx) rfl g.2
        split
        · exact ⟨q.1, q.2.2.2⟩
        · exact ⟨q.1, q.2.2.2⟩
      · split
        · exact ⟨rfl, hb⟩
        · exact ⟨rfl, hb⟩
def F_X3_isNumber (Rd : dS) (lo : Int32) (hi : Int32) : Bool := if (Dtk Rd) = (nI 2) then (if (F_X5_within (Dvl Rd) lo hi) = true then true else false) else false
set_option maxHeartbeats 4000000 in
set_option maxRecDepth 100000 in
theorem c_X3_isNumber (l : Launch) (dC : Nat → ClassId) (dI : Nat → Nat → Nat) (x : Nat → Nat) (cI : ClassId) (sz : Nat) (Rd : dS) (lo : Int32) (hi : Int32) : Met l yX3_isNumber wsX3_isNumber { frames := 1, cells := 0, slots := 0, locals := 22 } (xPc (dC, dI) vwCl (xT cI) ([(x 16, .inr (3, [.ref (x 17), .ref (x 14), .int (nI ((Dln Rd))), .int (nI ((Dbh Rd))), .int (nI ((Dsa Rd))), .int (Dtk Rd), .int (Dvl Rd)]))]) sz [.ref (x 16), .int lo, .int hi]) (va_Qi (fun (r : Int32) (u : Unit) => ∃ z : Bool, F_X3_isNumber Rd lo hi = z ∧ r = if z = true then 1 else 0) (mB (dC, dI) vwCl (xT cI) (va_A ([(x 16, .inr (3, [.ref (x 17), .ref (x 14), .int (nI ((Dln Rd))), .int (nI ((Dbh Rd))), .int (nI ((Dsa Rd))), .int (Dtk Rd), .int (Dvl Rd)]))]) sz) (fun u => [(x 16, .inr (3, [.ref (x 17), .ref (x 14), .int (nI ((Dln Rd))), .int (nI ((Dbh Rd))), .int (nI ((Dsa Rd))), .int (Dtk Rd), .int (Dvl Rd)]))])) (va_A ([(x 16, .inr (3, [.ref (x 17), .ref (x 14), .int (nI ((Dln Rd))), .int (nI ((Dbh Rd))), .int (nI ((Dsa Rd))), .int (Dtk Rd), .int (Dvl Rd)]))]) sz)) 0 0 (va_A ([(x 16, .inr (3, [.ref (x 17), .ref (x 14), .int (nI ((Dln Rd))), .int (nI ((Dbh Rd))), .int (nI ((Dsa Rd))), .int (Dtk Rd), .int (Dvl Rd)]))]) sz) := by
  refine Met.ofW (cc := cX3_isNumber) (maxL := 3) (ret := (some .boolean)) (by decide) rfl ?_
  intro p e s m args below meth c s₁ B hml hv
  obtain ⟨rfl, hsz, hP, hK, hD0, hN⟩ := hv
  have hx := B.exec
  have hb := B.bytes
  have hr := B.returns
  have hts := atoms_spec (ws := wsX3_isNumber) B.pre
  have hown : s.vm.findClass RX3 = some m.cls := findClass_of_methodNamed B.named
  have hlocks := B.notSynchronized
  subst hsz
  have hD := hD0.self (sz := s.heap.size)
  generalize hAe : va_A ([(x 16, .inr (3, [.ref (x 17), .ref (x 14), .int (nI ((Dln Rd))), .int (nI ((Dbh Rd))), .int (nI ((Dsa Rd))), .int (Dtk Rd), .int (Dvl Rd)]))]) s.heap.size = A at hD ⊢
  have hA : ∀ q : Nat, s.heap.size ≤ q → A q := fun q h => by rw [← hAe]; exact Or.inr h
  have hS : va_S A s.heap s.heap [] := va_S.rf
  have hin3 : ∀ w ∈ wsX30, w ∈ wsX3_isNumber := by decide +kernel
  have lk52 := hts (.fieldLink RX3 52 "PostRounders$Reader" "token" "I") (by decide +kernel)
  have lk68 := hts (.fieldLink RX3 68 "PostRounders$Reader" "value" "I") (by decide +kernel)
  have hN96 := xN_96 hN
  have hl := lv_entry ([.ref (x 16), .int lo, .int hi]) (n := 3) (Nat.le_of_ble_eq_true rfl)
  rw [lg_entry_eq]
  generalize (lg_sl ([.ref (x 16), .int lo, .int hi]) ++ List.replicate (3 - (lg_sl ([.ref (x 16), .int lo, .int hi])).length) Slot.unset).toArray = ls at hl ⊢
  have hl : lv_has ls 3 [(0, .ref (x 16)), (1, .int lo), (2, .int hi)] := hl
  obtain ⟨OUT, hO⟩ : ∃ z, z = F_X3_isNumber Rd lo hi := ⟨_, rfl⟩
  have hF := hO
  unfold F_X3_isNumber at hF
  refine lv_aload_n hx hb dX3_isNumber_0 rfl (lv_at hl 0 rfl) ?_
  refine va_get (D := (dC, dI)) (ci := 3) (v := .int (Dtk Rd)) (C := RX3) (T := TX3) (N := 7) hx hb hts hin3 hown hK hP 0 rfl rfl 5 (by decide) lk52 (fun _ h9 => h9) rfl dX3_isNumber_1 ?_
  refine lv_iconst (v := nI 2) hx hb dX3_isNumber_4 (by decide) ?_
  refine lv_icmp_ne (tgt := 24) hx hb dX3_isNumber_5 (by decide) (fun c_5 => ?_) (fun c_5 => ?_)
  · rw [if_neg c_5] at hF
    refine lv_iconst (v := nI 0) hx hb dX3_isNumber_24 (by decide) ?_
    have hP9 : va_P (dC, dI) vwCl ([(x 16, .inr (3, [.ref (x 17), .ref (x 14), .int (nI ((Dln Rd))), .int (nI ((Dbh Rd))), .int (nI ((Dsa Rd))), .int (Dtk Rd), .int (Dvl Rd)]))]) s.heap := hP
    exact W.zret (v := nI 0) hx hb hr (by rfl) (fun t ht hW => ⟨⟨_, (()), rfl, ⟨false, hO.symm.trans hF, rfl⟩, by rw [ht]; exact hP9, va_K.moved hW.alike hK, hD⟩, hS.F ht⟩) hS.2.2 dX3_isNumber_25
  · rw [if_pos c_5] at hF
    refine lv_aload_n hx hb dX3_isNumber_8 rfl (lv_at hl 0 rfl) ?_
    refine va_get (D := (dC, dI)) (ci := 3) (v := .int (Dvl Rd)) (C := RX3) (T := TX3) (N := 7) hx hb hts hin3 hown hK hP 0 rfl rfl 6 (by decide) lk68 (fun _ h9 => h9) rfl dX3_isNumber_9 ?_
    refine lv_iload_n hx hb dX3_isNumber_12 rfl (lv_at hl 1 rfl) ?_
    refine lv_iload_n hx hb dX3_isNumber_13 rfl (lv_at hl 2 rfl) ?_
    refine qc_SiN (As := [.int (Dvl Rd), .int lo, .int hi]) (rest := []) ⟨hx, hb, hml, hown, hts⟩ (c_X5_within l (Dvl Rd) lo hi) (va_cnB 3 hts gX3_isNumber_X5_within_n96 rfl rfl rfl hN96 (hts (.initialized RX5) (by decide +kernel)) (by decide +kernel) ⟨Nat.le_of_ble_eq_true rfl, Nat.le_of_ble_eq_true rfl⟩) (hts (.static yX5_within) (by decide +kernel)) rfl hl.1 rfl (Nat.le_of_ble_eq_true rfl) dX3_isNumber_14 ⟨Nat.zero_le _, Nat.zero_le _⟩ (fun r_14 hw_14 => ?_)
    subst hw_14
    refine qv_zif_eq (tgt := 24) hx hb dX3_isNumber_17 (by decide) (fun c_17 => ?_) (fun c_17 => ?_)
    · rw [if_neg c_17] at hF
      refine lv_iconst (v := nI 0) hx hb dX3_isNumber_24 (by decide) ?_
      have hP9 : va_P (dC, dI) vwCl ([(x 16, .inr (3, [.ref (x 17), .ref (x 14), .int (nI ((Dln Rd))), .int (nI ((Dbh Rd))), .int (nI ((Dsa Rd))), .int (Dtk Rd), .int (Dvl Rd)]))]) s.heap := hP
      exact W.zret (v := nI 0) hx hb hr (by rfl) (fun t ht hW => ⟨⟨_, (()), rfl, ⟨false, hO.symm.trans hF, rfl⟩, by rw [ht]; exact hP9, va_K.moved hW.alike hK, hD⟩, hS.F ht⟩) hS.2.2 dX3_isNumber_25
    · rw [if_pos c_17] at hF
      refine lv_iconst (v := nI 1) hx hb dX3_isNumber_20 (by decide) ?_
      refine lv_goto (tgt := 25) hx hb dX3_isNumber_21 (by decide) ?_
      have hP9 : va_P (dC, dI) vwCl ([(x 16, .inr (3, [.ref (x 17), .ref (x 14), .int (nI ((Dln Rd))), .int (nI ((Dbh Rd))), .int (nI ((Dsa Rd))), .int (Dtk Rd), .int (Dvl Rd)]))]) s.heap := hP
      exact W.zret (v := nI 1) hx hb hr (by rfl) (fun t ht hW => ⟨⟨_, (()), rfl, ⟨true, hO.symm.trans hF, rfl⟩, by rw [ht]; exact hP9, va_K.moved hW.alike hK, hD⟩, hS.F ht⟩) hS.2.2 dX3_isNumber_25
def F_X3_takeStop (Rd : dS) (Tx : Nat → Int32) : Bool × (dS) := if (Dtk Rd) = (nI 3) then let1 (F_X3_step Rd Tx) (fun Rd_11 => (true, Rd_11)) else (false, Rd)
set_option maxHeartbeats 4000000 in
set_option maxRecDepth 100000 in
theorem c_X3_takeStop (l : Launch) (dC : Nat → ClassId) (dI : Nat → Nat → Nat) (x : Nat → Nat) (cI : ClassId) (sz : Nat) (Rd : dS) (Tx : Nat → Int32) (hL : Dln Rd ≤ 150) (hB : Dbh Rd ≤ Dln Rd) : Met l yX3_takeStop wsX3_takeStop { frames := 3, cells := 0, slots := 0, locals := 62 } (xPc (dC, dI) vwCl (xT cI) ([(x 16, .inr (3, [.ref (x 17), .ref (x 14), .int (nI ((Dln Rd))), .int (nI ((Dbh Rd))), .int (nI ((Dsa Rd))), .int (Dtk Rd), .int (Dvl Rd)])), (x 14, .inl (cI, 150, .inl Tx))]) sz [.ref (x 16)]) (va_Qi (fun (r : Int32) (u : (dS)) => ∃ z : Bool, F_X3_takeStop Rd Tx = (z, u) ∧ r = if z = true then 1 else 0) (mB (dC, dI) vwCl (xT cI) (va_A ([(x 16, .inr (3, [.ref (x 17), .ref (x 14), .int (nI ((Dln Rd))), .int (nI ((Dbh Rd))), .int (nI ((Dsa Rd))), .int (Dtk Rd), .int (Dvl Rd)])), (x 14, .inl (cI, 150, .inl Tx))]) sz) (fun u => [(x 16, .inr (3, [.ref (x 17), .ref (x 14), .int (nI ((Dln u))), .int (nI ((Dbh u))), .int (nI ((Dsa u))), .int (Dtk u), .int (Dvl u)])), (x 14, .inl (cI, 150, .inl Tx))])) (va_A ([(x 16, .inr (3, [.ref (x 17), .ref (x 14), .int (nI ((Dln Rd))), .int (nI ((Dbh Rd))), .int (nI ((Dsa Rd))), .int (Dtk Rd), .int (Dvl Rd)])), (x 14, .inl (cI, 150, .inl Tx))]) sz)) 0 0 (va_A ([(x 16, .inr (3, [.ref (x 17), .ref (x 14), .int (nI ((Dln Rd))), .int (nI ((Dbh Rd))), .int (nI ((Dsa Rd))), .int (Dtk Rd), .int (Dvl Rd)])), (x 14, .inl (cI, 150, .inl Tx))]) sz) := by
  refine Met.ofW (cc := cX3_takeStop) (maxL := 1) (ret := (some .boolean)) (by decide) rfl ?_
  intro p e s m args below meth c s₁ B hml hv
  obtain ⟨rfl, hsz, hP, hK, hD0, hN⟩ := hv
  have hx := B.exec
  have hb := B.bytes
  have hr := B.returns
  have hts := atoms_spec (ws := wsX3_takeStop) B.pre
  have hown : s.vm.findClass RX3 = some m.cls := findClass_of_methodNamed B.named
  have hlocks := B.notSynchronized
  subst hsz
  have hD := hD0.self (sz := s.heap.size)
  generalize hAe : va_A ([(x 16, .inr (3, [.ref (x 17), .ref (x 14), .int (nI ((Dln Rd))), .int (nI ((Dbh Rd))), .int (nI ((Dsa Rd))), .int (Dtk Rd), .int (Dvl Rd)])), (x 14, .inl (cI, 150, .inl Tx))]) s.heap.size = A at hD ⊢
  have hA : ∀ q : Nat, s.heap.size ≤ q → A q := fun q h => by rw [← hAe]; exact Or.inr h
  have hS : va_S A s.heap s.heap [] := va_S.rf
  have hin3 : ∀ w ∈ wsX30, w ∈ wsX3_takeStop := by decide +kernel
  have lk52 := hts (.fieldLink RX3 52 "PostRounders$Reader" "token" "I") (by decide +kernel)
  have hl := lv_entry ([.ref (x 16)]) (n := 1) (Nat.le_of_ble_eq_true rfl)
  rw [lg_entry_eq]
  generalize (lg_sl ([.ref (x 16)]) ++ List.replicate (1 - (lg_sl ([.ref (x 16)])).length) Slot.unset).toArray = ls at hl ⊢
  have hl : lv_has ls 1 [(0, .ref (x 16))] := hl
  obtain ⟨OUT, hO⟩ : ∃ z, z = F_X3_takeStop Rd Tx := ⟨_, rfl⟩
  have hF := hO
  unfold F_X3_takeStop at hF
  refine lv_aload_n hx hb dX3_takeStop_0 rfl (lv_at hl 0 rfl) ?_
  refine va_get (D := (dC, dI)) (ci := 3) (v := .int (Dtk Rd)) (C := RX3) (T := TX3) (N := 7) hx hb hts hin3 hown hK hP 0 rfl rfl 5 (by decide) lk52 (fun _ h9 => h9) rfl dX3_takeStop_1 ?_
  refine lv_iconst (v := nI 3) hx hb dX3_takeStop_4 (by decide) ?_
  refine lv_icmp_eq (tgt := 10) hx hb dX3_takeStop_5 (by decide) (fun c_5 => ?_) (fun c_5 => ?_)
  · rw [if_pos c_5] at hF
    refine lv_aload_n hx hb dX3_takeStop_10 rfl (lv_at hl 0 rfl) ?_
    refine qx_Vv (C := RX3) (As := []) (rest := []) (ci := 3) (k0 := 0) (wr := []) (ws2 := fun u => [(x 16, .inr (3, [.ref (x 17), .ref (x 14), .int (nI ((Dln u))), .int (nI ((Dbh u))), .int (nI ((Dsa u))), .int (Dtk u), .int (Dvl u)])), (x 14, .inl (cI, 150, .inl Tx))]) [0, 1] [] [0, 1] ⟨hx, hb, hml, hown, hts⟩ (c_X3_step l dC dI x cI s.heap.size Rd Tx  (by omega) (by omega)) (cwV 0 hts gX3_takeStop_X3_step rfl rfl rfl (by decide +kernel) ⟨Nat.le_of_ble_eq_true rfl, Nat.le_of_ble_eq_true rfl⟩) (hK.sub [0] rfl) hK hP hD hS hA hN rfl rfl (by decide) (by decide) (by decide) (by decide) (fun _ => rfl) rfl rfl rfl rfl hl.1 rfl (Nat.le_of_ble_eq_true rfl) dX3_takeStop_11 ⟨Nat.zero_le _, Nat.zero_le _⟩ (fun u_11 H locs hw_11 hP hD hS => ?_)
    obtain ⟨Rd_11, rfl⟩ : ∃ z, z = u_11 := ⟨_, rfl⟩
    have hP : va_P (dC, dI) vwCl ([(x 16, .inr (3, [.ref (x 17), .ref (x 14), .int (nI ((Dln Rd_11))), .int (nI ((Dbh Rd_11))), .int (nI ((Dsa Rd_11))), .int (Dtk Rd_11), .int (Dvl Rd_11)])), (x 14, .inl (cI, 150, .inl Tx))]) H := hP
    have hD : va_D A ([(x 16, .inr (3, [.ref (x 17), .ref (x 14), .int (nI ((Dln Rd_11))), .int (nI ((Dbh Rd_11))), .int (nI ((Dsa Rd_11))), .int (Dtk Rd_11), .int (Dvl Rd_11)])), (x 14, .inl (cI, 150, .inl Tx))]) := hD
    rw [hw_11, let1_mk Rd_11] at hF
    refine lv_iconst (v := nI 1) hx hb dX3_takeStop_14 (by decide) ?_
    have hP9 : va_P (dC, dI) vwCl ([(x 16, .inr (3, [.ref (x 17), .ref (x 14), .int (nI ((Dln Rd_11))), .int (nI ((Dbh Rd_11))), .int (nI ((Dsa Rd_11))), .int (Dtk Rd_11), .int (Dvl Rd_11)])), (x 14, .inl (cI, 150, .inl Tx))]) H := hP
    exact W.zret (v := nI 1) hx hb hr (by rfl) (fun t ht hW => ⟨⟨_, (Rd_11), rfl, ⟨true, hO.symm.trans hF, rfl⟩, by rw [ht]; exact hP9, va_K.moved hW.alike hK, hD⟩, hS.F ht⟩) hS.2.2 dX3_takeStop_15
  · rw [if_neg c_5] at hF
    refine lv_iconst (v := nI 0) hx hb dX3_takeStop_8 (by decide) ?_
    have hP9 : va_P (dC, dI) vwCl ([(x 16, .inr (3, [.ref (x 17), .ref (x 14), .int (nI ((Dln Rd))), .int (nI ((Dbh Rd))), .int (nI ((Dsa Rd))), .int (Dtk Rd), .int (Dvl Rd)])), (x 14, .inl (cI, 150, .inl Tx))]) s.heap := hP
    exact W.zret (v := nI 0) hx hb hr (by rfl) (fun t ht hW => ⟨⟨_, (Rd), rfl, ⟨false, hO.symm.trans hF, rfl⟩, by rw [ht]; exact hP9, va_K.moved hW.alike hK, hD⟩, hS.F ht⟩) hS.2.2 dX3_takeStop_9
theorem takeStop_at {D D' : dS} {Tx : Nat → Int32} {z : Bool} (e : F_X3_takeStop D Tx = (z, D')) (h : Dbh D ≤ Dln D) : Dln D' = Dln D ∧ Dbh D' ≤ Dln D := by
  unfold F_X3_takeStop at e
  split at e
  · simp only [let1] at e; rw [← (Prod.mk.inj e).2]; exact step_at rfl h
  · rw [← (Prod.mk.inj e).2]; exact ⟨rfl, h⟩
def F_X3_takeWord_v0_L28 : Nat → (dS) → (Nat → Int32) → (Nat) → ((Nat)) ⊕ (Bool × (dS))
  | 0, _, _, k => .inl k
  | n_28 + 1, Rd, Tx, k => if 5 ≤ k then .inl k else let1 (F_X3_byteAt Rd Tx ((Dsa Rd) + k)) (fun r_43 => if r_43 = (F_J0_charAt_5068e 0 k) then F_X3_takeWord_v0_L28 n_28 Rd Tx (k + 1) else .inr ((false, Rd)))
def F_X3_takeWord_v0 (Rd : dS) (Tx : Nat → Int32) : Bool × (dS) := if (Dtk Rd) = (nI 1) then (if ((nI ((Dbh Rd))) - (nI ((Dsa Rd)))) = (nI 5) then sel1 (F_X3_takeWord_v0_L28 6 Rd Tx 0) (fun k => let1 (F_X3_step Rd Tx) (fun Rd_63 => (true, Rd_63))) (fun r => r) else (false, Rd)) else (false, Rd)
set_option maxHeartbeats 4000000 in
set_option maxRecDepth 100000 in
theorem c_X3_takeWord_v0 (l : Launch) (dC : Nat → ClassId) (dI : Nat → Nat → Nat) (x : Nat → Nat) (cI : ClassId) (fr : Nat) (adK adV : Nat → Nat) (sz : Nat) (Rd : dS) (Tx : Nat → Int32) (hL : Dln Rd ≤ 150) (hB : Dbh Rd ≤ Dln Rd) (hs : Dsa Rd ≤ 150) : Met l yX3_takeWord wsX3_takeWord { frames := 4, cells := 0, slots := 0, locals := 85 } (xPcG fr adK adV (dC, dI) vwCl (xT cI) ([(x 16, .inr (3, [.ref (x 17), .ref (x 14), .int (nI ((Dln Rd))), .int (nI ((Dbh Rd))), .int (nI ((Dsa Rd))), .int (Dtk Rd), .int (Dvl Rd)])), (x 14, .inl (cI, 150, .inl Tx))]) sz [.ref (x 16), .ref (adK 0)]) (va_Qi (fun (r : Int32) (u : (dS)) => ∃ z : Bool, F_X3_takeWord_v0 Rd Tx = (z, u) ∧ r = if z = true then 1 else 0) (mB (dC, dI) vwCl (xT cI) (va_A ([(x 16, .inr (3, [.ref (x 17), .ref (x 14), .int (nI ((Dln Rd))), .int (nI ((Dbh Rd))), .int (nI ((Dsa Rd))), .int (Dtk Rd), .int (Dvl Rd)])), (x 14, .inl (cI, 150, .inl Tx))]) sz) (fun u => [(x 16, .inr (3, [.ref (x 17), .ref (x 14), .int (nI ((Dln u))), .int (nI ((Dbh u))), .int (nI ((Dsa u))), .int (Dtk u), .int (Dvl u)])), (x 14, .inl (cI, 150, .inl Tx))])) (va_A ([(x 16, .inr (3, [.ref (x 17), .ref (x 14), .int (nI ((Dln Rd))), .int (nI ((Dbh Rd))), .int (nI ((Dsa Rd))), .int (Dtk Rd), .int (Dvl Rd)])), (x 14, .inl (cI, 150, .inl Tx))]) sz)) 0 0 (va_A ([(x 16, .inr (3, [.ref (x 17), .ref (x 14), .int (nI ((Dln Rd))), .int (nI ((Dbh Rd))), .int (nI ((Dsa Rd))), .int (Dtk Rd), .int (Dvl Rd)])), (x 14, .inl (cI, 150, .inl Tx))]) sz) := by
  refine Met.ofW (cc := cX3_takeWord) (maxL := 3) (ret := (some .boolean)) (by decide) rfl ?_
  intro p e s m args below meth c s₁ B hml hv
  obtain ⟨rfl, hsz, hP, hK, hD0, hN, hE0⟩ := hv
  have hx := B.exec
  have hb := B.bytes
  have hr := B.returns
  have hts := atoms_spec (ws := wsX3_takeWord) B.pre
  have hown : s.vm.findClass RX3 = some m.cls := findClass_of_methodNamed B.named
  have hlocks := B.notSynchronized
  subst hsz
  have hD := hD0.self (sz := s.heap.size)
  generalize hAe : va_A ([(x 16, .inr (3, [.ref (x 17), .ref (x 14), .int (nI ((Dln Rd))), .int (nI ((Dbh Rd))), .int (nI ((Dsa Rd))), .int (Dtk Rd), .int (Dvl Rd)])), (x 14, .inl (cI, 150, .inl Tx))]) s.heap.size = A at hD hE0 ⊢
  have hE := hE0
  have hA : ∀ q : Nat, s.heap.size ≤ q → A q := fun q h => by rw [← hAe]; exact Or.inr h
  have hS : va_S A s.heap s.heap [] := va_S.rf
  have hin3 : ∀ w ∈ wsX30, w ∈ wsX3_takeWord := by decide +kernel
  have lk32 := hts (.fieldLink RX3 32 "PostRounders$Reader" "behind" "I") (by decide +kernel)
  have lk49 := hts (.fieldLink RX3 49 "PostRounders$Reader" "start" "I") (by decide +kernel)
  have lk52 := hts (.fieldLink RX3 52 "PostRounders$Reader" "token" "I") (by decide +kernel)
  have hl := lv_entry ([.ref (x 16), .ref (adK 0)]) (n := 3) (Nat.le_of_ble_eq_true rfl)
  rw [lg_entry_eq]
  generalize (lg_sl ([.ref (x 16), .ref (adK 0)]) ++ List.replicate (3 - (lg_sl ([.ref (x 16), .ref (adK 0)])).length) Slot.unset).toArray = ls at hl ⊢
  have hl : lv_has ls 3 [(0, .ref (x 16)), (1, .ref (adK 0))] := hl
  obtain ⟨OUT, hO⟩ : ∃ z, z = F_X3_takeWord_v0 Rd Tx := ⟨_, rfl⟩
  have hF := hO
  unfold F_X3_takeWord_v0 at hF
  refine lv_aload_n hx hb dX3_takeWord_0 rfl (lv_at hl 0 rfl) ?_
  refine va_get (D := (dC, dI)) (ci := 3) (v := .int (Dtk Rd)) (C := RX3) (T := TX3) (N := 7) hx hb hts hin3 hown hK hP 0 rfl rfl 5 (by decide) lk52 (fun _ h9 => h9) rfl dX3_takeWord_1 ?_
  refine lv_iconst (v := nI 1) hx hb dX3_takeWord_4 (by decide) ?_
  refine lv_icmp_ne (tgt := 24) hx hb dX3_takeWord_5 (by decide) (fun c_5 => ?_) (fun c_5 => ?_)
  · rw [if_neg c_5] at hF
    refine lv_iconst (v := nI 0) hx hb dX3_takeWord_24 (by decide) ?_
    have hP9 : va_P (dC, dI) vwCl ([(x 16, .inr (3, [.ref (x 17), .ref (x 14), .int (nI ((Dln Rd))), .int (nI ((Dbh Rd))), .int (nI ((Dsa Rd))), .int (Dtk Rd), .int (Dvl Rd)])), (x 14, .inl (cI, 150, .inl Tx))]) s.heap := hP
    exact W.zret (v := nI 0) hx hb hr (by rfl) (fun t ht hW => ⟨⟨_, (Rd), rfl, ⟨false, hO.symm.trans hF, rfl⟩, by rw [ht]; exact hP9, va_K.moved hW.alike hK, hD⟩, hS.F ht⟩) hS.2.2 dX3_takeWord_25
  · rw [if_pos c_5] at hF
    refine lv_aload_n hx hb dX3_takeWord_8 rfl (lv_at hl 0 rfl) ?_
    refine va_get (D := (dC, dI)) (ci := 3) (v := .int (nI ((Dbh Rd)))) (C := RX3) (T := TX3) (N := 7) hx hb hts hin3 hown hK hP 0 rfl rfl 3 (by decide) lk32 (fun _ h9 => h9) rfl dX3_takeWord_9 ?_
    refine lv_aload_n hx hb dX3_takeWord_12 rfl (lv_at hl 0 rfl) ?_
    refine va_get (D := (dC, dI)) (ci := 3) (v := .int (nI ((Dsa Rd)))) (C := RX3) (T := TX3) (N := 7) hx hb hts hin3 hown hK hP 0 rfl rfl 4 (by decide) lk49 (fun _ h9 => h9) rfl dX3_takeWord_13 ?_
    refine lv_isub hx hb dX3_takeWord_16 ?_
    refine lv_aload_n hx hb dX3_takeWord_17 rfl (lv_at hl 1 rfl) ?_
    refine qg_V (w := 0) (As := []) (rest := [.int ((nI ((Dbh Rd))) - (nI ((Dsa Rd))))]) ⟨hx, hb, hml, hown, hts⟩ (c_J0_length_8abf5 l fr adK adV 0 (by decide)  ) (cwV 0 hts gX3_takeWord_J0_length_8abf5 rfl rfl rfl (by decide +kernel) ⟨Nat.le_of_ble_eq_true rfl, Nat.le_of_ble_eq_true rfl⟩) (by decide) hS hA hE rfl hl.1 rfl (Nat.le_of_ble_eq_true rfl) dX3_takeWord_18 ⟨Nat.zero_le _, Nat.zero_le _⟩ (fun r_18 hw_18 => ?_)
    subst hw_18
    refine qv_top (show F_J0_length_8abf5 0 = nI 5 from by decide) ?_
    refine lv_icmp_eq (tgt := 26) hx hb dX3_takeWord_21 (by decide) (fun c_21 => ?_) (fun c_21 => ?_)
    · rw [if_pos c_21] at hF
      refine lv_iconst (v := nI 0) hx hb dX3_takeWord_26 (by decide) ?_
      refine lv_istore_n (lv' := [(2, .int (nI 0)), (0, .ref (x 16)), (1, .ref (adK 0))]) hx hb dX3_takeWord_27 rfl hl (by decide) rfl (fun ls hl => ?_)
      have L_28 : ∀ (n_28 : Nat) (k : Nat) (H : Heap) (locs : List Loc), k ≤ 5 → 5 - k < n_28 → va_P (dC, dI) vwCl ([(x 16, .inr (3, [.ref (x 17), .ref (x 14), .int (nI ((Dln Rd))), .int (nI ((Dbh Rd))), .int (nI ((Dsa Rd))), .int (Dtk Rd), .int (Dvl Rd)])), (x 14, .inl (cI, 150, .inl Tx))]) H → va_D A ([(x 16, .inr (3, [.ref (x 17), .ref (x 14), .int (nI ((Dln Rd))), .int (nI ((Dbh Rd))), .int (nI ((Dsa Rd))), .int (Dtk Rd), .int (Dvl Rd)])), (x 14, .inl (cI, 150, .inl Tx))]) → va_S A s.heap H locs → ∀ (ls : Array Slot), lv_has ls 3 [(2, .int (nI k)), (0, .ref (x 16)), (1, .ref (adK 0))] → OUT = sel1 (F_X3_takeWord_v0_L28 n_28 Rd Tx k) (fun k => let1 (F_X3_step Rd Tx) (fun Rd_63 => (true, Rd_63))) (fun r => r) → W p l e (headSpec wsX3_takeWord { frames := 4, cells := 0, slots := 0, locals := 85 }).room s m ([.ref (x 16), .ref (adK 0)] : List Value).toArray below meth c H locs 0 0 (MQ below (va_Qi (fun (r : Int32) (u : (dS)) => ∃ z : Bool, F_X3_takeWord_v0 Rd Tx = (z, u) ∧ r = if z = true then 1 else 0) (mB (dC, dI) vwCl (xT cI) A (fun u => [(x 16, .inr (3, [.ref (x 17), .ref (x 14), .int (nI ((Dln u))), .int (nI ((Dbh u))), .int (nI ((Dsa u))), .int (Dtk u), .int (Dvl u)])), (x 14, .inl (cI, 150, .inl Tx))])) A) ([.ref (x 16), .ref (adK 0)] : List Value).toArray s 0 0 A) (F0 m 28 ls []) := by
        intro n_28
        induction n_28 with
        | zero => intro k H locs i0 hmu; exact absurd hmu (Nat.not_lt_zero _)
        | succ n_28 ih_28 =>
          intro k H locs i0 hmu_28 hP hD hS ls hl hF
          rw [F_X3_takeWord_v0_L28] at hF
          refine lv_iload_n hx hb dX3_takeWord_28 rfl (lv_at hl 0 rfl) ?_
          refine lv_aload_n hx hb dX3_takeWord_29 rfl (lv_at hl 2 rfl) ?_
          refine qg_V (w := 0) (As := []) (rest := [.int (nI k)]) ⟨hx, hb, hml, hown, hts⟩ (c_J0_length_8abf5 l fr adK adV 0 (by decide)  ) (cwV 0 hts gX3_takeWord_J0_length_8abf5 rfl rfl rfl (by decide +kernel) ⟨Nat.le_of_ble_eq_true rfl, Nat.le_of_ble_eq_true rfl⟩) (by decide) hS hA hE rfl hl.1 rfl (Nat.le_of_ble_eq_true rfl) dX3_takeWord_30 ⟨Nat.zero_le _, Nat.zero_le _⟩ (fun r_30 hw_30 => ?_)
          subst hw_30
          refine qv_top (show F_J0_length_8abf5 0 = nI 5 from by decide) ?_
          refine qv_icmp_ge (tgt := 62) hx hb dX3_takeWord_33 (by decide) (by omega) (by omega) (fun c_33 => ?_) (fun c_33 => ?_)
          · rw [if_pos c_33] at hF
            rw [sel1_inl (k : Nat)] at hF
            refine lv_aload_n hx hb dX3_takeWord_62 rfl (lv_at hl 1 rfl) ?_
            refine qx_Vv (C := RX3) (As := []) (rest := []) (ci := 3) (k0 := 0) (wr := []) (ws2 := fun u => [(x 16, .inr (3, [.ref (x 17), .ref (x 14), .int (nI ((Dln u))), .int (nI ((Dbh u))), .int (nI ((Dsa u))), .int (Dtk u), .int (Dvl u)])), (x 14, .inl (cI, 150, .inl Tx))]) [0, 1] [] [0, 1] ⟨hx, hb, hml, hown, hts⟩ (c_X3_step l dC dI x cI H.size Rd Tx  (by omega) (by omega)) (cwV 0 hts gX3_takeWord_X3_step rfl rfl rfl (by decide +kernel) ⟨Nat.le_of_ble_eq_true rfl, Nat.le_of_ble_eq_true rfl⟩) (hK.sub [0] rfl) hK hP hD hS hA hN rfl rfl (by decide) (by decide) (by decide) (by decide) (fun _ => rfl) rfl rfl rfl rfl hl.1 rfl (Nat.le_of_ble_eq_true rfl) dX3_takeWord_63 ⟨Nat.zero_le _, Nat.zero_le _⟩ (fun u_63 H locs hw_63 hP hD hS => ?_)
            obtain ⟨Rd_63, rfl⟩ : ∃ z, z = u_63 := ⟨_, rfl⟩
            have hP : va_P (dC, dI) vwCl ([(x 16, .inr (3, [.ref (x 17), .ref (x 14), .int (nI ((Dln Rd_63))), .int (nI ((Dbh Rd_63))), .int (nI ((Dsa Rd_63))), .int (Dtk Rd_63), .int (Dvl Rd_63)])), (x 14, .inl (cI, 150, .inl Tx))]) H := hP
            have hD : va_D A ([(x 16, .inr (3, [.ref (x 17), .ref (x 14), .int (nI ((Dln Rd_63))), .int (nI ((Dbh Rd_63))), .int (nI ((Dsa Rd_63))), .int (Dtk Rd_63), .int (Dvl Rd_63)])), (x 14, .inl (cI, 150, .inl Tx))]) := hD
            rw [hw_63, let1_mk Rd_63] at hF
            refine lv_iconst (v := nI 1) hx hb dX3_takeWord_66 (by decide) ?_
            have hP9 : va_P (dC, dI) vwCl ([(x 16, .inr (3, [.ref (x 17), .ref (x 14), .int (nI ((Dln Rd_63))), .int (nI ((Dbh Rd_63))), .int (nI ((Dsa Rd_63))), .int (Dtk Rd_63), .int (Dvl Rd_63)])), (x 14, .inl (cI, 150, .inl Tx))]) H := hP
            exact W.zret (v := nI 1) hx hb hr (by rfl) (fun t ht hW => ⟨⟨_, (Rd_63), rfl, ⟨true, hO.symm.trans hF, rfl⟩, by rw [ht]; exact hP9, va_K.moved hW.alike hK, hD⟩, hS.F ht⟩) hS.2.2 dX3_takeWord_67
          · rw [if_neg c_33] at hF
            refine lv_aload_n hx hb dX3_takeWord_36 rfl (lv_at hl 1 rfl) ?_
            refine lv_aload_n hx hb dX3_takeWord_37 rfl (lv_at hl 1 rfl) ?_
            refine va_get (D := (dC, dI)) (ci := 3) (v := .int (nI ((Dsa Rd)))) (C := RX3) (T := TX3) (N := 7) hx hb hts hin3 hown hK hP 0 rfl rfl 4 (by decide) lk49 (fun _ h9 => h9) rfl dX3_takeWord_38 ?_
            refine lv_iload_n hx hb dX3_takeWord_41 rfl (lv_at hl 0 rfl) ?_
            refine qv_iadd hx hb ((Dsa Rd) + k) dX3_takeWord_42 (by omega) ?_
            refine qx_Vi (C := RX3) (As := [.int (nI ((Dsa Rd) + k))]) (rest := []) (ci := 3) (k0 := 0) (wr := []) (ws2 := fun u => [(x 16, .inr (3, [.ref (x 17), .ref (x 14), .int (nI ((Dln Rd))), .int (nI ((Dbh Rd))), .int (nI ((Dsa Rd))), .int (Dtk Rd), .int (Dvl Rd)])), (x 14, .inl (cI, 150, .inl Tx))]) [0, 1] [] [0, 1] ⟨hx, hb, hml, hown, hts⟩ (c_X3_byteAt l dC dI x cI H.size Rd Tx ((Dsa Rd) + k) (by omega) (by omega)) (cwV 1 hts gX3_takeWord_X3_byteAt rfl rfl rfl (by decide +kernel) ⟨Nat.le_of_ble_eq_true rfl, Nat.le_of_ble_eq_true rfl⟩) (hK.sub [0] rfl) hK hP hD hS hA hN rfl rfl (by decide) (by decide) (by decide) (by decide) (fun _ => rfl) rfl rfl rfl rfl hl.1 rfl (Nat.le_of_ble_eq_true rfl) dX3_takeWord_43 ⟨Nat.zero_le _, Nat.zero_le _⟩ (fun r_43 u_43 H locs hw_43 hP hD hS => ?_)
            have hP : va_P (dC, dI) vwCl ([(x 16, .inr (3, [.ref (x 17), .ref (x 14), .int (nI ((Dln Rd))), .int (nI ((Dbh Rd))), .int (nI ((Dsa Rd))), .int (Dtk Rd), .int (Dvl Rd)])), (x 14, .inl (cI, 150, .inl Tx))]) H := hP
            have hD : va_D A ([(x 16, .inr (3, [.ref (x 17), .ref (x 14), .int (nI ((Dln Rd))), .int (nI ((Dbh Rd))), .int (nI ((Dsa Rd))), .int (Dtk Rd), .int (Dvl Rd)])), (x 14, .inl (cI, 150, .inl Tx))]) := hD
            rw [hw_43, let1_mk r_43] at hF
            refine lv_aload_n hx hb dX3_takeWord_46 rfl (lv_at hl 2 rfl) ?_
            refine lv_iload_n hx hb dX3_takeWord_47 rfl (lv_at hl 0 rfl) ?_
            refine qg_V (w := 0) (As := [.int (nI k)]) (rest := [.int r_43]) ⟨hx, hb, hml, hown, hts⟩ (c_J0_charAt_5068e l fr adK adV 0 (by decide) k (show k < 5 by omega)) (cwV 1 hts gX3_takeWord_J0_charAt_5068e rfl rfl rfl (by decide +kernel) ⟨Nat.le_of_ble_eq_true rfl, Nat.le_of_ble_eq_true rfl⟩) (by decide) hS hA hE rfl hl.1 rfl (Nat.le_of_ble_eq_true rfl) dX3_takeWord_48 ⟨Nat.zero_le _, Nat.zero_le _⟩ (fun r_48 hw_48 => ?_)
            subst hw_48
            refine lv_icmp_eq (tgt := 56) hx hb dX3_takeWord_51 (by decide) (fun c_51 => ?_) (fun c_51 => ?_)
            · rw [if_pos c_51] at hF
              refine lv_iinc (v := nI (k + 1)) (lv' := [(2, .int (nI (k + 1))), (0, .ref (x 16)), (1, .ref (adK 0))]) hx hb dX3_takeWord_56 hl (k := 0) rfl (qn_inc (c := 1) rfl (by omega)) (by decide) rfl (fun ls hl => ?_)
              refine lv_goto (tgt := 28) hx hb dX3_takeWord_59 (by decide) ?_
              exact ih_28 (k + 1) H locs (by omega) (by omega) hP hD hS ls (lv_sub hl [0, 1, 2] rfl) hF
            · rw [if_neg c_51] at hF
              refine lv_iconst (v := nI 0) hx hb dX3_takeWord_54 (by decide) ?_
              rw [sel1_inr] at hF
              have hP9 : va_P (dC, dI) vwCl ([(x 16, .inr (3, [.ref (x 17), .ref (x 14), .int (nI ((Dln Rd))), .int (nI ((Dbh Rd))), .int (nI ((Dsa Rd))), .int (Dtk Rd), .int (Dvl Rd)])), (x 14, .inl (cI, 150, .inl Tx))]) H := hP
              exact W.zret (v := nI 0) hx hb hr (by rfl) (fun t ht hW => ⟨⟨_, (Rd), rfl, ⟨false, hO.symm.trans hF, rfl⟩, by rw [ht]; exact hP9, va_K.moved hW.alike hK, hD⟩, hS.F ht⟩) hS.2.2 dX3_takeWord_55
      exact L_28 6 0 s.heap [] (by omega) (by omega) hP hD hS ls (lv_sub hl [0, 1, 2] rfl) hF
    · rw [if_neg c_21] at hF
      refine lv_iconst (v := nI 0) hx hb dX3_takeWord_24 (by decide) ?_
      have hP9 : va_P (dC, dI) vwCl ([(x 16, .inr (3, [.ref (x 17), .ref (x 14), .int (nI ((Dln Rd))), .int (nI ((Dbh Rd))), .int (nI ((Dsa Rd))), .int (Dtk Rd), .int (Dvl Rd)])), (x 14, .inl (cI, 150, .inl Tx))]) s.heap := hP
      exact W.zret (v := nI 0) hx hb hr (by rfl) (fun t ht hW => ⟨⟨_, (Rd), rfl, ⟨false, hO.symm.trans hF, rfl⟩, by rw [ht]; exact hP9, va_K.moved hW.alike hK, hD⟩, hS.F ht⟩) hS.2.2 dX3_takeWord_25
def F_X3_takeWord_v1_L28 : Nat → (dS) → (Nat → Int32) → (Nat) → ((Nat)) ⊕ (Bool × (dS))
  | 0, _, _, k => .inl k
  | n_28 + 1, Rd, Tx, k => if 6 ≤ k then .inl k else let1 (F_X3_byteAt Rd Tx ((Dsa Rd) + k)) (fun r_43 => if r_43 = (F_J0_charAt_5068e 1 k) then F_X3_takeWord_v1_L28 n_28 Rd Tx (k + 1) else .inr ((false, Rd)))
def F_X3_takeWord_v1 (Rd : dS) (Tx : Nat → Int32) : Bool × (dS) := if (Dtk Rd) = (nI 1) then (if ((nI ((Dbh Rd))) - (nI ((Dsa Rd)))) = (nI 6) then sel1 (F_X3_takeWord_v1_L28 7 Rd Tx 0) (fun k => let1 (F_X3_step Rd Tx) (fun Rd_63 => (true, Rd_63))) (fun r => r) else (false, Rd)) else (false, Rd)
set_option maxHeartbeats 4000000 in
set_option maxRecDepth 100000 in
theorem c_X3_takeWord_v1 (l : Launch) (dC : Nat → ClassId) (dI : Nat → Nat → Nat) (x : Nat → Nat) (cI : ClassId) (fr : Nat) (adK adV : Nat → Nat) (sz : Nat) (Rd : dS) (Tx : Nat → Int32) (hL : Dln Rd ≤ 150) (hB : Dbh Rd ≤ Dln Rd) (hs : Dsa Rd ≤ 150) : Met l yX3_takeWord wsX3_takeWord { frames := 4, cells := 0, slots := 0, locals := 85 } (xPcG fr adK adV (dC, dI) vwCl (xT cI) ([(x 16, .inr (3, [.ref (x 17), .ref (x 14), .int (nI ((Dln Rd))), .int (nI ((Dbh Rd))), .int (nI ((Dsa Rd))), .int (Dtk Rd), .int (Dvl Rd)])), (x 14, .inl (cI, 150, .inl Tx))]) sz [.ref (x 16), .ref (adK 1)]) (va_Qi (fun (r : Int32) (u : (dS)) => ∃ z : Bool, F_X3_takeWord_v1 Rd Tx = (z, u) ∧ r = if z = true then 1 else 0) (mB (dC, dI) vwCl (xT cI) (va_A ([(x 16, .inr (3, [.ref (x 17), .ref (x 14), .int (nI ((Dln Rd))), .int (nI ((Dbh Rd))), .int (nI ((Dsa Rd))), .int (Dtk Rd), .int (Dvl Rd)])), (x 14, .inl (cI, 150, .inl Tx))]) sz) (fun u => [(x 16, .inr (3, [.ref (x 17), .ref (x 14), .int (nI ((Dln u))), .int (nI ((Dbh u))), .int (nI ((Dsa u))), .int (Dtk u), .int (Dvl u)])), (x 14, .inl (cI, 150, .inl Tx))])) (va_A ([(x 16, .inr (3, [.ref (x 17), .ref (x 14), .int (nI ((Dln Rd))), .int (nI ((Dbh Rd))), .int (nI ((Dsa Rd))), .int (Dtk Rd), .int (Dvl Rd)])), (x 14, .inl (cI, 150, .inl Tx))]) sz)) 0 0 (va_A ([(x 16, .inr (3, [.ref (x 17), .ref (x 14), .int (nI ((Dln Rd))), .int (nI ((Dbh Rd))), .int (nI ((Dsa Rd))), .int (Dtk Rd), .int (Dvl Rd)])), (x 14, .inl (cI, 150, .inl Tx))]) sz) := by
  refine Met.ofW (cc := cX3_takeWord) (maxL := 3) (ret := (some .boolean)) (by decide) rfl ?_
  intro p e s m args below meth c s₁ B hml hv
  obtain ⟨rfl, hsz, hP, hK, hD0, hN, hE0⟩ := hv
  have hx := B.exec
  have hb := B.bytes
  have hr := B.returns
  have hts := atoms_spec (ws := wsX3_takeWord) B.pre
  have hown : s.vm.findClass RX3 = some m.cls := findClass_of_methodNamed B.named
  have hlocks := B.notSynchronized
  subst hsz
  have hD := hD0.self (sz := s.heap.size)
  generalize hAe : va_A ([(x 16, .inr (3, [.ref (x 17), .ref (x 14), .int (nI ((Dln Rd))), .int (nI ((Dbh Rd))), .int (nI ((Dsa Rd))), .int (Dtk Rd), .int (Dvl Rd)])), (x 14, .inl (cI, 150, .inl Tx))]) s.heap.size = A at hD hE0 ⊢
  have hE := hE0
  have hA : ∀ q : Nat, s.heap.size ≤ q → A q := fun q h => by rw [← hAe]; exact Or.inr h
  have hS : va_S A s.heap s.heap [] := va_S.rf
  have hin3 : ∀ w ∈ wsX30, w ∈ wsX3_takeWord := by decide +kernel
  have lk32 := hts (.fieldLink RX3 32 "PostRounders$Reader" "behind" "I") (by decide +kernel)
  have lk49 := hts (.fieldLink RX3 49 "PostRounders$Reader" "start" "I") (by decide +kernel)
  have lk52 := hts (.fieldLink RX3 52 "PostRounders$Reader" "token" "I") (by decide +kernel)
  have hl := lv_entry ([.ref (x 16), .ref (adK 1)]) (n := 3) (Nat.le_of_ble_eq_true rfl)
  rw [lg_entry_eq]
  generalize (lg_sl ([.ref (x 16), .ref (adK 1)]) ++ List.replicate (3 - (lg_sl ([.ref (x 16), .ref (adK 1)])).length) Slot.unset).toArray = ls at hl ⊢
  have hl : lv_has ls 3 [(0, .ref (x 16)), (1, .ref (adK 1))] := hl
  obtain ⟨OUT, hO⟩ : ∃ z, z = F_X3_takeWord_v1 Rd Tx := ⟨_, rfl⟩
  have hF := hO
  unfold F_X3_takeWord_v1 at hF
  refine lv_aload_n hx hb dX3_takeWord_0 rfl (lv_at hl 0 rfl) ?_
  refine va_get (D := (dC, dI)) (ci := 3) (v := .int (Dtk Rd)) (C := RX3) (T := TX3) (N := 7) hx hb hts hin3 hown hK hP 0 rfl rfl 5 (by decide) lk52 (fun _ h9 => h9) rfl dX3_takeWord_1 ?_
  refine lv_iconst (v := nI 1) hx hb dX3_takeWord_4 (by decide) ?_
  refine lv_icmp_ne (tgt := 24) hx hb dX3_takeWord_5 (by decide) (fun c_5 => ?_) (fun c_5 => ?_)
  · rw [if_neg c_5] at hF
    refine lv_iconst (v := nI 0) hx hb dX3_takeWord_24 (by decide) ?_
    have hP9 : va_P (dC, dI) vwCl ([(x 16, .inr (3, [.ref (x 17), .ref (x 14), .int (nI ((Dln Rd))), .int (nI ((Dbh Rd))), .int (nI ((Dsa Rd))), .int (Dtk Rd), .int (Dvl Rd)])), (x 14, .inl (cI, 150, .inl Tx))]) s.heap := hP
    exact W.zret (v := nI 0) hx hb hr (by rfl) (fun t ht hW => ⟨⟨_, (Rd), rfl, ⟨false, hO.symm.trans hF, rfl⟩, by rw [ht]; exact hP9, va_K.moved hW.alike hK, hD⟩, hS.F ht⟩) hS.2.2 dX3_takeWord_25
  · rw [if_pos c_5] at hF
    refine lv_aload_n hx hb dX3_takeWord_8 rfl (lv_at hl 0 rfl) ?_
    refine va_get (D := (dC, dI)) (ci := 3) (v := .int (nI ((Dbh Rd)))) (C := RX3) (T := TX3) (N := 7) hx hb hts hin3 hown hK hP 0 rfl rfl 3 (by decide) lk32 (fun _ h9 => h9) rfl dX3_takeWord_9 ?_
    refine lv_aload_n hx hb dX3_takeWord_12 rfl (lv_at hl 0 rfl) ?_
    refine va_get (D := (dC, dI)) (ci := 3) (v := .int (nI ((Dsa Rd)))) (C := RX3) (T := TX3) (N := 7) hx hb hts hin3 hown hK hP 0 rfl rfl 4 (by decide) lk49 (fun _ h9 => h9) rfl dX3_takeWord_13 ?_
    refine lv_isub hx hb dX3_takeWord_16 ?_
    refine lv_aload_n hx hb dX3_takeWord_17 rfl (lv_at hl 1 rfl) ?_
    refine qg_V (w := 1) (As := []) (rest := [.int ((nI ((Dbh Rd))) - (nI ((Dsa Rd))))]) ⟨hx, hb, hml, hown, hts⟩ (c_J0_length_8abf5 l fr adK adV 1 (by decide)  ) (cwV 0 hts gX3_takeWord_J0_length_8abf5 rfl rfl rfl (by decide +kernel) ⟨Nat.le_of_ble_eq_true rfl, Nat.le_of_ble_eq_true rfl⟩) (by decide) hS hA hE rfl hl.1 rfl (Nat.le_of_ble_eq_true rfl) dX3_takeWord_18 ⟨Nat.zero_le _, Nat.zero_le _⟩ (fun r_18 hw_18 => ?_)
    subst hw_18
    refine qv_top (show F_J0_length_8abf5 1 = nI 6 from by decide) ?_
    refine lv_icmp_eq (tgt := 26) hx hb dX3_takeWord_21 (by decide) (fun c_21 => ?_) (fun c_21 => ?_)
    · rw [if_pos c_21] at hF
      refine lv_iconst (v := nI 0) hx hb dX3_takeWord_26 (by decide) ?_
      refine lv_istore_n (lv' := [(2, .int (nI 0)), (0, .ref (x 16)), (1, .ref (adK 1))]) hx hb dX3_takeWord_27 rfl hl (by decide) rfl (fun ls hl => ?_)
      have L_28 : ∀ (n_28 : Nat) (k : Nat) (H : Heap) (locs : List Loc), k ≤ 6 → 6 - k < n_28 → va_P (dC, dI) vwCl ([(x 16, .inr (3, [.ref (x 17), .ref (x 14), .int (nI ((Dln Rd))), .int (nI ((Dbh Rd))), .int (nI ((Dsa Rd))), .int (Dtk Rd), .int (Dvl Rd)])), (x 14, .inl (cI, 150, .inl Tx))]) H → va_D A ([(x 16, .inr (3, [.ref (x 17), .ref (x 14), .int (nI ((Dln Rd))), .int (nI ((Dbh Rd))), .int (nI ((Dsa Rd))), .int (Dtk Rd), .int (Dvl Rd)])), (x 14, .inl (cI, 150, .inl Tx))]) → va_S A s.heap H locs → ∀ (ls : Array Slot), lv_has ls 3 [(2, .int (nI k)), (0, .ref (x 16)), (1, .ref (adK 1))] → OUT = sel1 (F_X3_takeWord_v1_L28 n_28 Rd Tx k) (fun k => let1 (F_X3_step Rd Tx) (fun Rd_63 => (true, Rd_63))) (fun r => r) → W p l e (headSpec wsX3_takeWord { frames := 4, cells := 0, slots := 0, locals := 85 }).room s m ([.ref (x 16), .ref (adK 1)] : List Value).toArray below meth c H locs 0 0 (MQ below (va_Qi (fun (r : Int32) (u : (dS)) => ∃ z : Bool, F_X3_takeWord_v1 Rd Tx = (z, u) ∧ r = if z = true then 1 else 0) (mB (dC, dI) vwCl (xT cI) A (fun u => [(x 16, .inr (3, [.ref (x 17), .ref (x 14), .int (nI ((Dln u))), .int (nI ((Dbh u))), .int (nI ((Dsa u))), .int (Dtk u), .int (Dvl u)])), (x 14, .inl (cI, 150, .inl Tx))])) A) ([.ref (x 16), .ref (adK 1)] : List Value).toArray s 0 0 A) (F0 m 28 ls []) := by
        intro n_28
        induction n_28 with
        | zero => intro k H locs i0 hmu; exact absurd hmu (Nat.not_lt_zero _)
        | succ n_28 ih_28 =>
          intro k H locs i0 hmu_28 hP hD hS ls hl hF
          rw [F_X3_takeWord_v1_L28] at hF
          refine lv_iload_n hx hb dX3_takeWord_28 rfl (lv_at hl 0 rfl) ?_
          refine lv_aload_n hx hb dX3_takeWord_29 rfl (lv_at hl 2 rfl) ?_
          refine qg_V (w := 1) (As := []) (rest := [.int (nI k)]) ⟨hx, hb, hml, hown, hts⟩ (c_J0_length_8abf5 l fr adK adV 1 (by decide)  ) (cwV 0 hts gX3_takeWord_J0_length_8abf5 rfl rfl rfl (by decide +kernel) ⟨Nat.le_of_ble_eq_true rfl, Nat.le_of_ble_eq_true rfl⟩) (by decide) hS hA hE rfl hl.1 rfl (Nat.le_of_ble_eq_true rfl) dX3_takeWord_30 ⟨Nat.zero_le _, Nat.zero_le _⟩ (fun r_30 hw_30 => ?_)
          subst hw_30
          refine qv_top (show F_J0_length_8abf5 1 = nI 6 from by decide) ?_
          refine qv_icmp_ge (tgt := 62) hx hb dX3_takeWord_33 (by decide) (by omega) (by omega) (fun c_33 => ?_) (fun c_33 => ?_)
          · rw [if_pos c_33] at hF
            rw [sel1_inl (k : Nat)] at hF
            refine lv_aload_n hx hb dX3_takeWord_62 rfl (lv_at hl 1 rfl) ?_
            refine qx_Vv (C := RX3) (As := []) (rest := []) (ci := 3) (k0 := 0) (wr := []) (ws2 := fun u => [(x 16, .inr (3, [.ref (x 17), .ref (x 14), .int (nI ((Dln u))), .int (nI ((Dbh u))), .int (nI ((Dsa u))), .int (Dtk u), .int (Dvl u)])), (x 14, .inl (cI, 150, .inl Tx))]) [0, 1] [] [0, 1] ⟨hx, hb, hml, hown, hts⟩ (c_X3_step l dC dI x cI H.size Rd Tx  (by omega) (by omega)) (cwV 0 hts gX3_takeWord_X3_step rfl rfl rfl (by decide +kernel) ⟨Nat.le_of_ble_eq_true rfl, Nat.le_of_ble_eq_true rfl⟩) (hK.sub [0] rfl) hK hP hD hS hA hN rfl rfl (by decide) (by decide) (by decide) (by decide) (fun _ => rfl) rfl rfl rfl rfl hl.1 rfl (Nat.le_of_ble_eq_true rfl) dX3_takeWord_63 ⟨Nat.zero_le _, Nat.zero_le _⟩ (fun u_63 H locs hw_63 hP hD hS => ?_)
            obtain ⟨Rd_63, rfl⟩ : ∃ z, z = u_63 := ⟨_, rfl⟩
            have hP : va_P (dC, dI) vwCl ([(x 16, .inr (3, [.ref (x 17), .ref (x 14), .int (nI ((Dln Rd_63))), .int (nI ((Dbh Rd_63))), .int (nI ((Dsa Rd_63))), .int (Dtk Rd_63), .int (Dvl Rd_63)])), (x 14, .inl (cI, 150, .inl Tx))]) H := hP
            have hD : va_D A ([(x 16, .inr (3, [.ref (x 17), .ref (x 14), .int (nI ((Dln Rd_63))), .int (nI ((Dbh Rd_63))), .int (nI ((Dsa Rd_63))), .int (Dtk Rd_63), .int (Dvl Rd_63)])), (x 14, .inl (cI, 150, .inl Tx))]) := hD
            rw [hw_63, let1_mk Rd_63] at hF
            refine lv_iconst (v := nI 1) hx hb dX3_takeWord_66 (by decide) ?_
            have hP9 : va_P (dC, dI) vwCl ([(x 16, .inr (3, [.ref (x 17), .ref (x 14), .int (nI ((Dln Rd_63))), .int (nI ((Dbh Rd_63))), .int (nI ((Dsa Rd_63))), .int (Dtk Rd_63), .int (Dvl Rd_63)])), (x 14, .inl (cI, 150, .inl Tx))]) H := hP
            exact W.zret (v := nI 1) hx hb hr (by rfl) (fun t ht hW => ⟨⟨_, (Rd_63), rfl, ⟨true, hO.symm.trans hF, rfl⟩, by rw [ht]; exact hP9, va_K.moved hW.alike hK, hD⟩, hS.F ht⟩) hS.2.2 dX3_takeWord_67
          · rw [if_neg c_33] at hF
            refine lv_aload_n hx hb dX3_takeWord_36 rfl (lv_at hl 1 rfl) ?_
            refine lv_aload_n hx hb dX3_takeWord_37 rfl (lv_at hl 1 rfl) ?_
            refine va_get (D := (dC, dI)) (ci := 3) (v := .int (nI ((Dsa Rd)))) (C := RX3) (T := TX3) (N := 7) hx hb hts hin3 hown hK hP 0 rfl rfl 4 (by decide) lk49 (fun _ h9 => h9) rfl dX3_takeWord_38 ?_
            refine lv_iload_n hx hb dX3_takeWord_41 rfl (lv_at hl 0 rfl) ?_
            refine qv_iadd hx hb ((Dsa Rd) + k) dX3_takeWord_42 (by omega) ?_
            refine qx_Vi (C := RX3) (As := [.int (nI ((Dsa Rd) + k))]) (rest := []) (ci := 3) (k0 := 0) (wr := []) (ws2 := fun u => [(x 16, .inr (3, [.ref (x 17), .ref (x 14), .int (nI ((Dln Rd))), .int (nI ((Dbh Rd))), .int (nI ((Dsa Rd))), .int (Dtk Rd), .int (Dvl Rd)])), (x 14, .inl (cI, 150, .inl Tx))]) [0, 1] [] [0, 1] ⟨hx, hb, hml, hown, hts⟩ (c_X3_byteAt l dC dI x cI H.size Rd Tx ((Dsa Rd) + k) (by omega) (by omega)) (cwV 1 hts gX3_takeWord_X3_byteAt rfl rfl rfl (by decide +kernel) ⟨Nat.le_of_ble_eq_true rfl, Nat.le_of_ble_eq_true rfl⟩) (hK.sub [0] rfl) hK hP hD hS hA hN rfl rfl (by decide) (by decide) (by decide) (by decide) (fun _ => rfl) rfl rfl rfl rfl hl.1 rfl (Nat.le_of_ble_eq_true rfl) dX3_takeWord_43 ⟨Nat.zero_le _, Nat.zero_le _⟩ (fun r_43 u_43 H locs hw_43 hP hD hS => ?_)
            have hP : va_P (dC, dI) vwCl ([(x 16, .inr (3, [.ref (x 17), .ref (x 14), .int (nI ((Dln Rd))), .int (nI ((Dbh Rd))), .int (nI ((Dsa Rd))), .int (Dtk Rd), .int (Dvl Rd)])), (x 14, .inl (cI, 150, .inl Tx))]) H := hP
            have hD : va_D A ([(x 16, .inr (3, [.ref (x 17), .ref (x 14), .int (nI ((Dln Rd))), .int (nI ((Dbh Rd))), .int (nI ((Dsa Rd))), .int (Dtk Rd), .int (Dvl Rd)])), (x 14, .inl (cI, 150, .inl Tx))]) := hD
            rw [hw_43, let1_mk r_43] at hF
            refine lv_aload_n hx hb dX3_takeWord_46 rfl (lv_at hl 2 rfl) ?_
            refine lv_iload_n hx hb dX3_takeWord_47 rfl (lv_at hl 0 rfl) ?_
            refine qg_V (w := 1) (As := [.int (nI k)]) (rest := [.int r_43]) ⟨hx, hb, hml, hown, hts⟩ (c_J0_charAt_5068e l fr adK adV 1 (by decide) k (show k < 6 by omega)) (cwV 1 hts gX3_takeWord_J0_charAt_5068e rfl rfl rfl (by decide +kernel) ⟨Nat.le_of_ble_eq_true rfl, Nat.le_of_ble_eq_true rfl⟩) (by decide) hS hA hE rfl hl.1 rfl (Nat.le_of_ble_eq_true rfl) dX3_takeWord_48 ⟨Nat.zero_le _, Nat.zero_le _⟩ (fun r_48 hw_48 => ?_)
            subst hw_48
            refine lv_icmp_eq (tgt := 56) hx hb dX3_takeWord_51 (by decide) (fun c_51 => ?_) (fun c_51 => ?_)
            · rw [if_pos c_51] at hF
              refine lv_iinc (v := nI (k + 1)) (lv' := [(2, .int (nI (k + 1))), (0, .ref (x 16)), (1, .ref (adK 1))]) hx hb dX3_takeWord_56 hl (k := 0) rfl (qn_inc (c := 1) rfl (by omega)) (by decide) rfl (fun ls hl => ?_)
              refine lv_goto (tgt := 28) hx hb dX3_takeWord_59 (by decide) ?_
              exact ih_28 (k + 1) H locs (by omega) (by omega) hP hD hS ls (lv_sub hl [0, 1, 2] rfl) hF
            · rw [if_neg c_51] at hF
              refine lv_iconst (v := nI 0) hx hb dX3_takeWord_54 (by decide) ?_
              rw [sel1_inr] at hF
              have hP9 : va_P (dC, dI) vwCl ([(x 16, .inr (3, [.ref (x 17), .ref (x 14), .int (nI ((Dln Rd))), .int (nI ((Dbh Rd))), .int (nI ((Dsa Rd))), .int (Dtk Rd), .int (Dvl Rd)])), (x 14, .inl (cI, 150, .inl Tx))]) H := hP
              exact W.zret (v := nI 0) hx hb hr (by rfl) (fun t ht hW => ⟨⟨_, (Rd), rfl, ⟨false, hO.symm.trans hF, rfl⟩, by rw [ht]; exact hP9, va_K.moved hW.alike hK, hD⟩, hS.F ht⟩) hS.2.2 dX3_takeWord_55
      exact L_28 7 0 s.heap [] (by omega) (by omega) hP hD hS ls (lv_sub hl [0, 1, 2] rfl) hF
    · rw [if_neg c_21] at hF
      refine lv_iconst (v := nI 0) hx hb dX3_takeWord_24 (by decide) ?_
      have hP9 : va_P (dC, dI) vwCl ([(x 16, .inr (3, [.ref (x 17), .ref (x 14), .int (nI ((Dln Rd))), .int (nI ((Dbh Rd))), .int (nI ((Dsa Rd))), .int (Dtk Rd), .int (Dvl Rd)])), (x 14, .inl (cI, 150, .inl Tx))]) s.heap := hP
      exact W.zret (v := nI 0) hx hb hr (by rfl) (fun t ht hW => ⟨⟨_, (Rd), rfl, ⟨false, hO.symm.trans hF, rfl⟩, by rw [ht]; exact hP9, va_K.moved hW.alike hK, hD⟩, hS.F ht⟩) hS.2.2 dX3_takeWord_25
def F_X3_takeWord_v2_L28 : Nat → (dS) → (Nat → Int32) → (Nat) → ((Nat)) ⊕ (Bool × (dS))
  | 0, _, _, k => .inl k
  | n_28 + 1, Rd, Tx, k => if 4 ≤ k then .inl k else let1 (F_X3_byteAt Rd Tx ((Dsa Rd) + k)) (fun r_43 => if r_43 = (F_J0_charAt_5068e 2 k) then F_X3_takeWord_v2_L28 n_28 Rd Tx (k + 1) else .inr ((false, Rd)))
def F_X3_takeWord_v2 (Rd : dS) (Tx : Nat → Int32) : Bool × (dS) := if (Dtk Rd) = (nI 1) then (if ((nI ((Dbh Rd))) - (nI ((Dsa Rd)))) = (nI 4) then sel1 (F_X3_takeWord_v2_L28 5 Rd Tx 0) (fun k => let1 (F_X3_step Rd Tx) (fun Rd_63 => (true, Rd_63))) (fun r => r) else (false, Rd)) else (false, Rd)
set_option maxHeartbeats 4000000 in
set_option maxRecDepth 100000 in
theorem c_X3_takeWord_v2 (l : Launch) (dC : Nat → ClassId) (dI : Nat → Nat → Nat) (x : Nat → Nat) (cI : ClassId) (fr : Nat) (adK adV : Nat → Nat) (sz : Nat) (Rd : dS) (Tx : Nat → Int32) (hL : Dln Rd ≤ 150) (hB : Dbh Rd ≤ Dln Rd) (hs : Dsa Rd ≤ 150) : Met l yX3_takeWord wsX3_takeWord { frames := 4, cells := 0, slots := 0, locals := 85 } (xPcG fr adK adV (dC, dI) vwCl (xT cI) ([(x 16, .inr (3, [.ref (x 17), .ref (x 14), .int (nI ((Dln Rd))), .int (nI ((Dbh Rd))), .int (nI ((Dsa Rd))), .int (Dtk Rd), .int (Dvl Rd)])), (x 14, .inl (cI, 150, .inl Tx))]) sz [.ref (x 16), .ref (adK 2)]) (va_Qi (fun (r : Int32) (u : (dS)) => ∃ z : Bool, F_X3_takeWord_v2 Rd Tx = (z, u) ∧ r = if z = true then 1 else 0) (mB (dC, dI) vwCl (xT cI) (va_A ([(x 16, .inr (3, [.ref (x 17), .ref (x 14), .int (nI ((Dln Rd))), .int (nI ((Dbh Rd))), .int (nI ((Dsa Rd))), .int (Dtk Rd), .int (Dvl Rd)])), (x 14, .inl (cI, 150, .inl Tx))]) sz) (fun u => [(x 16, .inr (3, [.ref (x 17), .ref (x 14), .int (nI ((Dln u))), .int (nI ((Dbh u))), .int (nI ((Dsa u))), .int (Dtk u), .int (Dvl u)])), (x 14, .inl (cI, 150, .inl Tx))])) (va_A ([(x 16, .inr (3, [.ref (x 17), .ref (x 14), .int (nI ((Dln Rd))), .int (nI ((Dbh Rd))), .int (nI ((Dsa Rd))), .int (Dtk Rd), .int (Dvl Rd)])), (x 14, .inl (cI, 150, .inl Tx))]) sz)) 0 0 (va_A ([(x 16, .inr (3, [.ref (x 17), .ref (x 14), .int (nI ((Dln Rd))), .int (nI ((Dbh Rd))), .int (nI ((Dsa Rd))), .int (Dtk Rd), .int (Dvl Rd)])), (x 14, .inl (cI, 150, .inl Tx))]) sz) := by
  refine Met.ofW (cc := cX3_takeWord) (maxL := 3) (ret := (some .boolean)) (by decide) rfl ?_
  intro p e s m args below meth c s₁ B hml hv
  obtain ⟨rfl, hsz, hP, hK, hD0, hN, hE0⟩ := hv
  have hx := B.exec
  have hb := B.bytes
  have hr := B.returns
  have hts := atoms_spec (ws := wsX3_takeWord) B.pre
  have hown : s.vm.findClass RX3 = some m.cls := findClass_of_methodNamed B.named
  have hlocks := B.notSynchronized
  subst hsz
  have hD := hD0.self (sz := s.heap.size)
  generalize hAe : va_A ([(x 16, .inr (3, [.ref (x 17), .ref (x 14), .int (nI ((Dln Rd))), .int (nI ((Dbh Rd))), .int (nI ((Dsa Rd))), .int (Dtk Rd), .int (Dvl Rd)])), (x 14, .inl (cI, 150, .inl Tx))]) s.heap.size = A at hD hE0 ⊢
  have hE := hE0
  have hA : ∀ q : Nat, s.heap.size ≤ q → A q := fun q h => by rw [← hAe]; exact Or.inr h
  have hS : va_S A s.heap s.heap [] := va_S.rf
  have hin3 : ∀ w ∈ wsX30, w ∈ wsX3_takeWord := by decide +kernel
  have lk32 := hts (.fieldLink RX3 32 "PostRounders$Reader" "behind" "I") (by decide +kernel)
  have lk49 := hts (.fieldLink RX3 49 "PostRounders$Reader" "start" "I") (by decide +kernel)
  have lk52 := hts (.fieldLink RX3 52 "PostRounders$Reader" "token" "I") (by decide +kernel)
  have hl := lv_entry ([.ref (x 16), .ref (adK 2)]) (n := 3) (Nat.le_of_ble_eq_true rfl)
  rw [lg_entry_eq]
  generalize (lg_sl ([.ref (x 16), .ref (adK 2)]) ++ List.replicate (3 - (lg_sl ([.ref (x 16), .ref (adK 2)])).length) Slot.unset).toArray = ls at hl ⊢
  have hl : lv_has ls 3 [(0, .ref (x 16)), (1, .ref (adK 2))] := hl
  obtain ⟨OUT, hO⟩ : ∃ z, z = F_X3_takeWord_v2 Rd Tx := ⟨_, rfl⟩
  have hF := hO
  unfold F_X3_takeWord_v2 at hF
  refine lv_aload_n hx hb dX3_takeWord_0 rfl (lv_at hl 0 rfl) ?_
  refine va_get (D := (dC, dI)) (ci := 3) (v := .int (Dtk Rd)) (C := RX3) (T := TX3) (N := 7) hx hb hts hin3 hown hK hP 0 rfl rfl 5 (by decide) lk52 (fun _ h9 => h9) rfl dX3_takeWord_1 ?_
  refine lv_iconst (v := nI 1) hx hb dX3_takeWord_4 (by decide) ?_
  refine lv_icmp_ne (tgt := 24) hx hb dX3_takeWord_5 (by decide) (fun c_5 => ?_) (fun c_5 => ?_)
  · rw [if_neg c_5] at hF
    refine lv_iconst (v := nI 0) hx hb dX3_takeWord_24 (by decide) ?_
    have hP9 : va_P (dC, dI) vwCl ([(x 16, .inr (3, [.ref (x 17), .ref (x 14), .int (nI ((Dln Rd))), .int (nI ((Dbh Rd))), .int (nI ((Dsa Rd))), .int (Dtk Rd), .int (Dvl Rd)])), (x 14, .inl (cI, 150, .inl Tx))]) s.heap := hP
    exact W.zret (v := nI 0) hx hb hr (by rfl) (fun t ht hW => ⟨⟨_, (Rd), rfl, ⟨false, hO.symm.trans hF, rfl⟩, by rw [ht]; exact hP9, va_K.moved hW.alike hK, hD⟩, hS.F ht⟩) hS.2.2 dX3_takeWord_25
  · rw [if_pos c_5] at hF
    refine lv_aload_n hx hb dX3_takeWord_8 rfl (lv_at hl 0 rfl) ?_
    refine va_get (D := (dC, dI)) (ci := 3) (v := .int (nI ((Dbh Rd)))) (C := RX3) (T := TX3) (N := 7) hx hb hts hin3 hown hK hP 0 rfl rfl 3 (by decide) lk32 (fun _ h9 => h9) rfl dX3_takeWord_9 ?_
    refine lv_aload_n hx hb dX3_takeWord_12 rfl (lv_at hl 0 rfl) ?_
    refine va_get (D := (dC, dI)) (ci := 3) (v := .int (nI ((Dsa Rd)))) (C := RX3) (T := TX3) (N := 7) hx hb hts hin3 hown hK hP 0 rfl rfl 4 (by decide) lk49 (fun _ h9 => h9) rfl dX3_takeWord_13 ?_
    refine lv_isub hx hb dX3_takeWord_16 ?_
    refine lv_aload_n hx hb dX3_takeWord_17 rfl (lv_at hl 1 rfl) ?_
    refine qg_V (w := 2) (As := []) (rest := [.int ((nI ((Dbh Rd))) - (nI ((Dsa Rd))))]) ⟨hx, hb, hml, hown, hts⟩ (c_J0_length_8abf5 l fr adK adV 2 (by decide)  ) (cwV 0 hts gX3_takeWord_J0_length_8abf5 rfl rfl rfl (by decide +kernel) ⟨Nat.le_of_ble_eq_true rfl, Nat.le_of_ble_eq_true rfl⟩) (by decide) hS hA hE rfl hl.1 rfl (Nat.le_of_ble_eq_true rfl) dX3_takeWord_18 ⟨Nat.zero_le _, Nat.zero_le _⟩ (fun r_18 hw_18 => ?_)
    subst hw_18
    refine qv_top (show F_J0_length_8abf5 2 = nI 4 from by decide) ?_
    refine lv_icmp_eq (tgt := 26) hx hb dX3_takeWord_21 (by decide) (fun c_21 => ?_) (fun c_21 => ?_)
    · rw [if_pos c_21] at hF
      refine lv_iconst (v := nI 0) hx hb dX3_takeWord_26 (by decide) ?_
      refine lv_istore_n (lv' := [(2, .int (nI 0)), (0, .ref (x 16)), (1, .ref (adK 2))]) hx hb dX3_takeWord_27 rfl hl (by decide) rfl (fun ls hl => ?_)
      have L_28 : ∀ (n_28 : Nat) (k : Nat) (H : Heap) (locs : List Loc), k ≤ 4 → 4 - k < n_28 → va_P (dC, dI) vwCl ([(x 16, .inr (3, [.ref (x 17), .ref (x 14), .int (nI ((Dln Rd))), .int (nI ((Dbh Rd))), .int (nI ((Dsa Rd))), .int (Dtk Rd), .int (Dvl Rd)])), (x 14, .inl (cI, 150, .inl Tx))]) H → va_D A ([(x 16, .inr (3, [.ref (x 17), .ref (x 14), .int (nI ((Dln Rd))), .int (nI ((Dbh Rd))), .int (nI ((Dsa Rd))), .int (Dtk Rd), .int (Dvl Rd)])), (x 14, .inl (cI, 150, .inl Tx))]) → va_S A s.heap H locs → ∀ (ls : Array Slot), lv_has ls 3 [(2, .int (nI k)), (0, .ref (x 16)), (1, .ref (adK 2))] → OUT = sel1 (F_X3_takeWord_v2_L28 n_28 Rd Tx k) (fun k => let1 (F_X3_step Rd Tx) (fun Rd_63 => (true, Rd_63))) (fun r => r) → W p l e (headSpec wsX3_takeWord { frames := 4, cells := 0, slots := 0, locals := 85 }).room s m ([.ref (x 16), .ref (adK 2)] : List Value).toArray below meth c H locs 0 0 (MQ below (va_Qi (fun (r : Int32) (u : (dS)) => ∃ z : Bool, F_X3_takeWord_v2 Rd Tx = (z, u) ∧ r = if z = true then 1 else 0) (mB (dC, dI) vwCl (xT cI) A (fun u => [(x 16, .inr (3, [.ref (x 17), .ref (x 14), .int (nI ((Dln u))), .int (nI ((Dbh u))), .int (nI ((Dsa u))), .int (Dtk u), .int (Dvl u)])), (x 14, .inl (cI, 150, .inl Tx))])) A) ([.ref (x 16), .ref (adK 2)] : List Value).toArray s 0 0 A) (F0 m 28 ls []) := by
        intro n_28
        induction n_28 with
        | zero => intro k H locs i0 hmu; exact absurd hmu (Nat.not_lt_zero _)
        | succ n_28 ih_28 =>
          intro k H locs i0 hmu_28 hP hD hS ls hl hF
          rw [F_X3_takeWord_v2_L28] at hF
          refine lv_iload_n hx hb dX3_takeWord_28 rfl (lv_at hl 0 rfl) ?_
          refine lv_aload_n hx hb dX3_takeWord_29 rfl (lv_at hl 2 rfl) ?_
          refine qg_V (w := 2) (As := []) (rest := [.int (nI k)]) ⟨hx, hb, hml, hown, hts⟩ (c_J0_length_8abf5 l fr adK adV 2 (by decide)  ) (cwV 0 hts gX3_takeWord_J0_length_8abf5 rfl rfl rfl (by decide +kernel) ⟨Nat.le_of_ble_eq_true rfl, Nat.le_of_ble_eq_true rfl⟩) (by decide) hS hA hE rfl hl.1 rfl (Nat.le_of_ble_eq_true rfl) dX3_takeWord_30 ⟨Nat.zero_le _, Nat.zero_le _⟩ (fun r_30 hw_30 => ?_)
          subst hw_30
          refine qv_top (show F_J0_length_8abf5 2 = nI 4 from by decide) ?_
          refine qv_icmp_ge (tgt := 62) hx hb dX3_takeWord_33 (by decide) (by omega) (by omega) (fun c_33 => ?_) (fun c_33 => ?_)
          · rw [if_pos c_33] at hF
            rw [sel1_inl (k : Nat)] at hF
            refine lv_aload_n hx hb dX3_takeWord_62 rfl (lv_at hl 1 rfl) ?_
            refine qx_Vv (C := RX3) (As := []) (rest := []) (ci := 3) (k0 := 0) (wr := []) (ws2 := fun u => [(x 16, .inr (3, [.ref (x 17), .ref (x 14), .int (nI ((Dln u))), .int (nI ((Dbh u))), .int (nI ((Dsa u))), .int (Dtk u), .int (Dvl u)])), (x 14, .inl (cI, 150, .inl Tx))]) [0, 1] [] [0, 1] ⟨hx, hb, hml, hown, hts⟩ (c_X3_step l dC dI x cI H.size Rd Tx  (by omega) (by omega)) (cwV 0 hts gX3_takeWord_X3_step rfl rfl rfl (by decide +kernel) ⟨Nat.le_of_ble_eq_true rfl, Nat.le_of_ble_eq_true rfl⟩) (hK.sub [0] rfl) hK hP hD hS hA hN rfl rfl (by decide) (by decide) (by decide) (by decide) (fun _ => rfl) rfl rfl rfl rfl hl.1 rfl (Nat.le_of_ble_eq_true rfl) dX3_takeWord_63 ⟨Nat.zero_le _, Nat.zero_le _⟩ (fun u_63 H locs hw_63 hP hD hS => ?_)
            obtain ⟨Rd_63, rfl⟩ : ∃ z, z = u_63 := ⟨_, rfl⟩
            have hP : va_P (dC, dI) vwCl ([(x 16, .inr (3, [.ref (x 17), .ref (x 14), .int (nI ((Dln Rd_63))), .int (nI ((Dbh Rd_63))), .int (nI ((Dsa Rd_63))), .int (Dtk Rd_63), .int (Dvl Rd_63)])), (x 14, .inl (cI, 150, .inl Tx))]) H := hP
            have hD : va_D A ([(x 16, .inr (3, [.ref (x 17), .ref (x 14), .int (nI ((Dln Rd_63))), .int (nI ((Dbh Rd_63))), .int (nI ((Dsa Rd_63))), .int (Dtk Rd_63), .int (Dvl Rd_63)])), (x 14, .inl (cI, 150, .inl Tx))]) := hD
            rw [hw_63, let1_mk Rd_63] at hF
            refine lv_iconst (v := nI 1) hx hb dX3_takeWord_66 (by decide) ?_
            have hP9 : va_P (dC, dI) vwCl ([(x 16, .inr (3, [.ref (x 17), .ref (x 14), .int (nI ((Dln Rd_63))), .int (nI ((Dbh Rd_63))), .int (nI ((Dsa Rd_63))), .int (Dtk Rd_63), .int (Dvl Rd_63)])), (x 14, .inl (cI, 150, .inl Tx))]) H := hP
            exact W.zret (v := nI 1) hx hb hr (by rfl) (fun t ht hW => ⟨⟨_, (Rd_63), rfl, ⟨true, hO.symm.trans hF, rfl⟩, by rw [ht]; exact hP9, va_K.moved hW.alike hK, hD⟩, hS.F ht⟩) hS.2.2 dX3_takeWord_67
          · rw [if_neg c_33] at hF
            refine lv_aload_n hx hb dX3_takeWord_36 rfl (lv_at hl 1 rfl) ?_
            refine lv_aload_n hx hb dX3_takeWord_37 rfl (lv_at hl 1 rfl) ?_
            refine va_get (D := (dC, dI)) (ci := 3) (v := .int (nI ((Dsa Rd)))) (C := RX3) (T := TX3) (N := 7) hx hb hts hin3 hown hK hP 0 rfl rfl 4 (by decide) lk49 (fun _ h9 => h9) rfl dX3_takeWord_38 ?_
            refine lv_iload_n hx hb dX3_takeWord_41 rfl (lv_at hl 0 rfl) ?_
            refine qv_iadd hx hb ((Dsa Rd) + k) dX3_takeWord_42 (by omega) ?_
            refine qx_Vi (C := RX3) (As := [.int (nI ((Dsa Rd) + k))]) (rest := []) (ci := 3) (k0 := 0) (wr := []) (ws2 := fun u => [(x 16, .inr (3, [.ref (x 17), .ref (x 14), .int (nI ((Dln Rd))), .int (nI ((Dbh Rd))), .int (nI ((Dsa Rd))), .int (Dtk Rd), .int (Dvl Rd)])), (x 14, .inl (cI, 150, .inl Tx))]) [0, 1] [] [0, 1] ⟨hx, hb, hml, hown, hts⟩ (c_X3_byteAt l dC dI x cI H.size Rd Tx ((Dsa Rd) + k) (by omega) (by omega)) (cwV 1 hts gX3_takeWord_X3_byteAt rfl rfl rfl (by decide +kernel) ⟨Nat.le_of_ble_eq_true rfl, Nat.le_of_ble_eq_true rfl⟩) (hK.sub [0] rfl) hK hP hD hS hA hN rfl rfl (by decide) (by decide) (by decide) (by decide) (fun _ => rfl) rfl rfl rfl rfl hl.1 rfl (Nat.le_of_ble_eq_true rfl) dX3_takeWord_43 ⟨Nat.zero_le _, Nat.zero_le _⟩ (fun r_43 u_43 H locs hw_43 hP hD hS => ?_)
            have hP : va_P (dC, dI) vwCl ([(x 16, .inr (3, [.ref (x 17), .ref (x 14), .int (nI ((Dln Rd))), .int (nI ((Dbh Rd))), .int (nI ((Dsa Rd))), .int (Dtk Rd), .int (Dvl Rd)])), (x 14, .inl (cI, 150, .inl Tx))]) H := hP
            have hD : va_D A ([(x 16, .inr (3, [.ref (x 17), .ref (x 14), .int (nI ((Dln Rd))), .int (nI ((Dbh Rd))), .int (nI ((Dsa Rd))), .int (Dtk Rd), .int (Dvl Rd)])), (x 14, .inl (cI, 150, .inl Tx))]) := hD
            rw [hw_43, let1_mk r_43] at hF
            refine lv_aload_n hx hb dX3_takeWord_46 rfl (lv_at hl 2 rfl) ?_
            refine lv_iload_n hx hb dX3_takeWord_47 rfl (lv_at hl 0 rfl) ?_
            refine qg_V (w := 2) (As := [.int (nI k)]) (rest := [.int r_43]) ⟨hx, hb, hml, hown, hts⟩ (c_J0_charAt_5068e l fr adK adV 2 (by decide) k (show k < 4 by omega)) (cwV 1 hts gX3_takeWord_J0_charAt_5068e rfl rfl rfl (by decide +kernel) ⟨Nat.le_of_ble_eq_true rfl, Nat.le_of_ble_eq_true rfl⟩) (by decide) hS hA hE rfl hl.1 rfl (Nat.le_of_ble_eq_true rfl) dX3_takeWord_48 ⟨Nat.zero_le _, Nat.zero_le _⟩ (fun r_48 hw_48 => ?_)
            subst hw_48
            refine lv_icmp_eq (tgt := 56) hx hb dX3_takeWord_51 (by decide) (fun c_51 => ?_) (fun c_51 => ?_)
            · rw [if_pos c_51] at hF
              refine lv_iinc (v := nI (k + 1)) (lv' := [(2, .int (nI (k + 1))), (0, .ref (x 16)), (1, .ref (adK 2))]) hx hb dX3_takeWord_56 hl (k := 0) rfl (qn_inc (c := 1) rfl (by omega)) (by decide) rfl (fun ls hl => ?_)
              refine lv_goto (tgt := 28) hx hb dX3_takeWord_59 (by decide) ?_
              exact ih_28 (k + 1) H locs (by omega) (by omega) hP hD hS ls (lv_sub hl [0, 1, 2] rfl) hF
            · rw [if_neg c_51] at hF
              refine lv_iconst (v := nI 0) hx hb dX3_takeWord_54 (by decide) ?_
              rw [sel1_inr] at hF
              have hP9 : va_P (dC, dI) vwCl ([(x 16, .inr (3, [.ref (x 17), .ref (x 14), .int (nI ((Dln Rd))), .int (nI ((Dbh Rd))), .int (nI ((Dsa Rd))), .int (Dtk Rd), .int (Dvl Rd)])), (x 14, .inl (cI, 150, .inl Tx))]) H := hP
              exact W.zret (v := nI 0) hx hb hr (by rfl) (fun t ht hW => ⟨⟨_, (Rd), rfl, ⟨false, hO.symm.trans hF, rfl⟩, by rw [ht]; exact hP9, va_K.moved hW.alike hK, hD⟩, hS.F ht⟩) hS.2.2 dX3_takeWord_55
      exact L_28 5 0 s.heap [] (by omega) (by omega) hP hD hS ls (lv_sub hl [0, 1, 2] rfl) hF
    · rw [if_neg c_21] at hF
      refine lv_iconst (v := nI 0) hx hb dX3_takeWord_24 (by decide) ?_
      have hP9 : va_P (dC, dI) vwCl ([(x 16, .inr (3, [.ref (x 17), .ref (x 14), .int (nI ((Dln Rd))), .int (nI ((Dbh Rd))), .int (nI ((Dsa Rd))), .int (Dtk Rd), .int (Dvl Rd)])), (x 14, .inl (cI, 150, .inl Tx))]) s.heap := hP
      exact W.zret (v := nI 0) hx hb hr (by rfl) (fun t ht hW => ⟨⟨_, (Rd), rfl, ⟨false, hO.symm.trans hF, rfl⟩, by rw [ht]; exact hP9, va_K.moved hW.alike hK, hD⟩, hS.F ht⟩) hS.2.2 dX3_takeWord_25
