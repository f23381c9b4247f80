section XLONG
variable {p : Program} {l : Launch} {e : Env} {R : Room} {s : State} {m : MethodId} {args : Array Value} {below : List Frame} {meth : Method} {c : Code} {H : Heap} {locs : List Loc} {cells slots : Nat} {Q : State → Prop}
variable {cc : ByteArray} {pc : Nat} {ls : Array Slot} {rest : List Value} {y : MethodName} {wy Ts : List Cond} {rm : Room} {own : String} {index maxL nL nA : Nat} {ret : Option FieldType} {bytes : ByteArray} {As st0 : List Value}
theorem vp_callSl' {post : Int64 → Prop} {a : Array Value} (hr : CallRun p l e R s m args below meth c H locs cells slots 0 0 (F0 m pc ls st0) rest (vp_Sl post a) (fun _ => False))
    (kk : ∀ r : Int64, post r → W p l e R s m args below meth c H locs cells slots Q (F0 m (pc + 3) ls (.long r :: rest))) : W p l e R s m args below meth c H locs cells slots Q (F0 m pc ls st0) := by
  intro T hT X
  obtain ⟨v, st₀, t, T', L, h0, X', hL, e1, ⟨r, hv, hp, hh⟩, st⟩ := hr T hT X
  cases hv
  obtain ⟨t2, a1, b1⟩ := kk r hp T' (by rw [e1, hh, h0]) (Stand.forget X' (fun q h => (hL q h).elim))
  exact ⟨t2, st t2 a1, b1⟩
theorem qc_Sl {post : Int64 → Prop} (S0 : CallFix p m c cc nL s args Ts own)
    (hM : Met l y wy rm (va_Pc As (fun _ => True)) (vp_Sl post) 0 0 (fun _ => False))
    (cw : CallB R s args own index y bytes maxL ret wy rm 0 0 nA ∧ (Cond.static y).before args s = true)
    (hn : As.length = nA) (hsize : ls.size = nL) (hst : st0 = As.reverse ++ rest) (hW : (rest.map fun v => v.category).sum ≤ 8) (hdg : decode cc pc = .ok (.invokestatic index, 3)) (hf : cells ≤ R.cells ∧ slots ≤ R.slots)
    (kk : ∀ r : Int64, post r → W p l e R s m args below meth c H locs cells slots Q (F0 m (pc + 3) ls (.long r :: rest))) : W p l e R s m args below meth c H locs cells slots Q (F0 m pc ls st0) :=
  vp_callSl' (W.runS (As := As) (rest := rest) S0 hM cw ⟨pure_blind, fun U hU hW => ⟨rfl, trivial⟩⟩ rfl hn hsize hst (lv_room hW) hdg hf) kk
end XLONG
theorem lg_ne0 {x : Int64} (h : ¬ lg_cmp x 0 = 0) : ¬ x = 0 := fun q => h (by rw [q]; rfl)
theorem lg_ge1 {x : Int64} (h : 0 ≤ lg_cmp x 1) : ¬ x = 0 := fun q => by rw [q] at h; exact absurd h (by decide)
theorem pred2_eq {k : Nat} (h : 2 ≤ k) : (nI k) - (nI 2) = nI (k - 2) := pk_sub h
theorem qn_pdec2 {k : Nat} (h : 2 ≤ k) : (nI k) - (nI 2) + Int32.ofInt (-1) = (nI (k - 1)) - (nI 2) := by
  obtain ⟨m, rfl⟩ : ∃ m, k = m + 1 := ⟨k - 1, by omega⟩
  rw [show m + 1 - 1 = m by omega, ← nI_add m 1, show Int32.ofInt (-1) = -nI 1 from by decide]
  apply Int32.toBitVec_inj.mp
  simp only [Int32.toBitVec_sub, Int32.toBitVec_add, Int32.toBitVec_neg]
  generalize (nI m).toBitVec = x
  generalize (nI 1).toBitVec = y
  generalize (nI 2).toBitVec = z
  apply BitVec.eq_of_toInt_eq
  simp [BitVec.toInt_sub, BitVec.toInt_add, BitVec.toInt_neg]
  congr 1
  omega
theorem pred2_pos {k : Nat} (h : ¬ ((nI k) - (nI 2)) < 0) : 2 ≤ k := by
  rcases Nat.lt_or_ge k 2 with q | q
  · have : k = 0 ∨ k = 1 := by omega
    rcases this with rfl | rfl
    · exact absurd (by decide) h
    · exact absurd (by decide) h
  · exact q
theorem pred2_no {k : Nat} (h : ((nI k) - (nI 2)) < 0) : ¬ 0 ≤ ((nI k) - (nI 2)) := fun g => by
  have h1 := Int32.lt_iff_toInt_lt.mp h
  have h2 := Int32.le_iff_toInt_le.mp g
  omega
def F_X5_part (X : xS) (Rf : Nat → Int32) (wh : Int32) : Int64 × (Nat → Int32) := if (F_X5_within wh (nI 0) (nI 1)) = true then (if tN wh = 0 then (Xab X, Rf) else (Xbe X, Rf)) else let2 (F_X5_refuse Rf ((-2))) (fun r_12 Rf_12 => (r_12.toInt64, Rf_12))
set_option maxHeartbeats 4000000 in
set_option maxRecDepth 100000 in
theorem c_X5_part (l : Launch) (dC : Nat → ClassId) (dI : Nat → Nat → Nat) (x : Nat → Nat) (cI : ClassId) (sz : Nat) (X : xS) (Rf : Nat → Int32) (wh : Int32) : Met l yX5_part wsX5_part { frames := 2, cells := 0, slots := 0, locals := 44 } (xPc (dC, dI) vwCl (xT cI) ((xO x X) ++ ([(x 15, .inl (cI, 3, .inl Rf))])) sz [.ref (x 0), .int wh]) (va_Ql (fun (r : Int64) (u : (Nat → Int32)) => F_X5_part X Rf wh = (r, u)) (mB (dC, dI) vwCl (xT cI) (va_A ((xO x X) ++ ([(x 15, .inl (cI, 3, .inl Rf))])) sz) (fun u => (xO x X) ++ ([(x 15, .inl (cI, 3, .inl u))]))) (va_A ((xO x X) ++ ([(x 15, .inl (cI, 3, .inl Rf))])) sz)) 0 0 (va_A ((xO x X) ++ ([(x 15, .inl (cI, 3, .inl Rf))])) sz) := by
  refine Met.ofW (cc := cX5_part) (maxL := 2) (ret := (some .long)) (by decide) rfl ?_
  intro p e s m args below meth c s₁ B hml hv
  obtain ⟨rfl, hsz, hP, hK, hD0, hN⟩ := hv
  have hx := B.exec
  have hb := B.bytes
  have hr := B.returns
  have hts := atoms_spec (ws := wsX5_part) B.pre
  have hown : s.vm.findClass RX5 = some m.cls := findClass_of_methodNamed B.named
  have hlocks := B.notSynchronized
  subst hsz
  have hD := hD0.self (sz := s.heap.size)
  generalize hAe : va_A ((xO x X) ++ ([(x 15, .inl (cI, 3, .inl Rf))])) s.heap.size = A at hD ⊢
  have hA : ∀ q : Nat, s.heap.size ≤ q → A q := fun q h => by rw [← hAe]; exact Or.inr h
  have hS : va_S A s.heap s.heap [] := va_S.rf
  have hin5 : ∀ w ∈ wsX50, w ∈ wsX5_part := by decide +kernel
  have lk24 := hts (.fieldLink RX5 24 "PostRounders" "below" "J") (by decide +kernel)
  have lk246 := hts (.fieldLink RX5 246 "PostRounders" "above" "J") (by decide +kernel)
  have hl := lv_entry ([.ref (x 0), .int wh]) (n := 2) (Nat.le_of_ble_eq_true rfl)
  rw [lg_entry_eq]
  generalize (lg_sl ([.ref (x 0), .int wh]) ++ List.replicate (2 - (lg_sl ([.ref (x 0), .int wh])).length) Slot.unset).toArray = ls at hl ⊢
  have hl : lv_has ls 2 [(0, .ref (x 0)), (1, .int wh)] := hl
  obtain ⟨OUT, hO⟩ : ∃ z, z = F_X5_part X Rf wh := ⟨_, rfl⟩
  have hF := hO
  unfold F_X5_part at hF
  refine lv_iload_n hx hb dX5_part_0 rfl (lv_at hl 1 rfl) ?_
  refine lv_iconst (v := nI 0) hx hb dX5_part_1 (by decide) ?_
  refine lv_iconst (v := nI 1) hx hb dX5_part_2 (by decide) ?_
  refine qc_Si (As := [.int wh, .int (nI 0), .int (nI 1)]) (rest := []) ⟨hx, hb, hml, hown, hts⟩ (c_X5_within l wh (nI 0) (nI 1)) (va_cwS 3 hts gX5_part_X5_within rfl rfl rfl (by decide +kernel) ⟨Nat.le_of_ble_eq_true rfl, Nat.le_of_ble_eq_true rfl⟩) rfl hl.1 rfl (Nat.le_of_ble_eq_true rfl) dX5_part_3 ⟨Nat.zero_le _, Nat.zero_le _⟩ (fun r_3 hw_3 => ?_)
  subst hw_3
  refine qv_zif_ne (tgt := 17) hx hb dX5_part_6 (by decide) (fun c_6 => ?_) (fun c_6 => ?_)
  · rw [if_pos c_6] at hF
    obtain ⟨f_wh, fa_wh, fb_wh⟩ := within_nat (by decide) (by decide) c_6
    have e_wh := tN_eq f_wh
    refine lv_iload_n hx hb dX5_part_17 rfl (lv_at hl 1 rfl) ?_
    refine qv_top (e_wh) ?_
    refine qv_if_ne (tgt := 28) hx hb dX5_part_18 (by decide) (by omega) (fun c_18 => ?_) (fun c_18 => ?_)
    · rw [if_neg c_18] at hF
      refine lv_aload_n hx hb dX5_part_28 rfl (lv_at hl 0 rfl) ?_
      refine va_get (D := (dC, dI)) (ci := 5) (v := .long (Xbe X)) (C := RX5) (T := TX5) (N := 14) hx hb hts hin5 hown hK hP 0 rfl rfl 5 (by decide) lk24 (fun _ h9 => h9) rfl dX5_part_29 ?_
      have hP9 : va_P (dC, dI) vwCl ((xO x X) ++ ([(x 15, .inl (cI, 3, .inl Rf))])) s.heap := hP
      exact W.lret (v := Xbe X) hx hb hr (fun t ht hW => ⟨⟨_, (Rf), rfl, hO.symm.trans hF, by rw [ht]; exact hP9, va_K.moved hW.alike hK, hD⟩, hS.F ht⟩) hS.2.2 dX5_part_32
    · rw [if_pos c_18] at hF
      refine lv_aload_n hx hb dX5_part_21 rfl (lv_at hl 0 rfl) ?_
      refine va_get (D := (dC, dI)) (ci := 5) (v := .long (Xab X)) (C := RX5) (T := TX5) (N := 14) hx hb hts hin5 hown hK hP 0 rfl rfl 4 (by decide) lk246 (fun _ h9 => h9) rfl dX5_part_22 ?_
      refine lv_goto (tgt := 32) hx hb dX5_part_25 (by decide) ?_
      have hP9 : va_P (dC, dI) vwCl ((xO x X) ++ ([(x 15, .inl (cI, 3, .inl Rf))])) s.heap := hP
      exact W.lret (v := Xab X) hx hb hr (fun t ht hW => ⟨⟨_, (Rf), rfl, hO.symm.trans hF, by rw [ht]; exact hP9, va_K.moved hW.alike hK, hD⟩, hS.F ht⟩) hS.2.2 dX5_part_32
  · rw [if_neg c_6] at hF
    refine lv_aload_n hx hb dX5_part_9 rfl (lv_at hl 0 rfl) ?_
    refine lv_bipush (v := (-2)) hx hb dX5_part_10 (by decide) ?_
    refine qx_Vi (C := RX5) (As := [.int ((-2))]) (rest := []) (ci := 5) (k0 := 0) (wr := []) (ws2 := fun u => (xO x X) ++ ([(x 15, .inl (cI, 3, .inl u))])) [0, 1] [] [0, 1] ⟨hx, hb, hml, hown, hts⟩ (c_X5_refuse l dC dI x cI s.heap.size X Rf ((-2)) ) (cwV 1 hts gX5_part_X5_refuse rfl rfl rfl (by decide +kernel) ⟨Nat.le_of_ble_eq_true rfl, Nat.le_of_ble_eq_true rfl⟩) (hK.sub [0] rfl) hK hP hD hS hA hN rfl rfl (by decide) (by decide) (by decide) (by decide) (fun _ => rfl) rfl rfl rfl rfl hl.1 rfl (Nat.le_of_ble_eq_true rfl) dX5_part_12 ⟨Nat.zero_le _, Nat.zero_le _⟩ (fun r_12 u_12 H locs hw_12 hP hD hS => ?_)
    obtain ⟨Rf_12, rfl⟩ : ∃ z, z = u_12 := ⟨_, rfl⟩
    have hP : va_P (dC, dI) vwCl ((xO x X) ++ ([(x 15, .inl (cI, 3, .inl Rf_12))])) H := hP
    have hD : va_D A ((xO x X) ++ ([(x 15, .inl (cI, 3, .inl Rf_12))])) := hD
    rw [hw_12, let2_mk r_12 Rf_12] at hF
    refine lv_i2l hx hb dX5_part_15 rfl ?_
    have hP9 : va_P (dC, dI) vwCl ((xO x X) ++ ([(x 15, .inl (cI, 3, .inl Rf_12))])) H := hP
    exact W.lret (v := r_12.toInt64) hx hb hr (fun t ht hW => ⟨⟨_, (Rf_12), rfl, hO.symm.trans hF, by rw [ht]; exact hP9, va_K.moved hW.alike hK, hD⟩, hS.F ht⟩) hS.2.2 dX5_part_16
def F_X5_status (Rf : Nat → Int32) (wh : Int32) : Int32 × (Nat → Int32) := if (F_X5_within wh (nI 0) (nI 2)) = true then (Rf (tN wh), Rf) else let2 (F_X5_refuse Rf ((-2))) (fun r_12 Rf_12 => ((-1), Rf_12))
set_option maxHeartbeats 4000000 in
set_option maxRecDepth 100000 in
theorem c_X5_status (l : Launch) (dC : Nat → ClassId) (dI : Nat → Nat → Nat) (x : Nat → Nat) (cI : ClassId) (sz : Nat) (X : xS) (Rf : Nat → Int32) (wh : Int32) : Met l yX5_status wsX5_status { frames := 2, cells := 0, slots := 0, locals := 44 } (xPc (dC, dI) vwCl (xT cI) ((xO x X) ++ ([(x 15, .inl (cI, 3, .inl Rf))])) sz [.ref (x 0), .int wh]) (va_Qi (fun (r : Int32) (u : (Nat → Int32)) => F_X5_status Rf wh = (r, u)) (mB (dC, dI) vwCl (xT cI) (va_A ((xO x X) ++ ([(x 15, .inl (cI, 3, .inl Rf))])) sz) (fun u => (xO x X) ++ ([(x 15, .inl (cI, 3, .inl u))]))) (va_A ((xO x X) ++ ([(x 15, .inl (cI, 3, .inl Rf))])) sz)) 0 0 (va_A ((xO x X) ++ ([(x 15, .inl (cI, 3, .inl Rf))])) sz) := by
  refine Met.ofW (cc := cX5_status) (maxL := 2) (ret := (some .int)) (by decide) rfl ?_
  intro p e s m args below meth c s₁ B hml hv
  obtain ⟨rfl, hsz, hP, hK, hD0, hN⟩ := hv
  have hx := B.exec
  have hb := B.bytes
  have hr := B.returns
  have hts := atoms_spec (ws := wsX5_status) B.pre
  have hown : s.vm.findClass RX5 = some m.cls := findClass_of_methodNamed B.named
  have hlocks := B.notSynchronized
  subst hsz
  have hD := hD0.self (sz := s.heap.size)
  generalize hAe : va_A ((xO x X) ++ ([(x 15, .inl (cI, 3, .inl Rf))])) s.heap.size = A at hD ⊢
  have hA : ∀ q : Nat, s.heap.size ≤ q → A q := fun q h => by rw [← hAe]; exact Or.inr h
  have hS : va_S A s.heap s.heap [] := va_S.rf
  have hin5 : ∀ w ∈ wsX50, w ∈ wsX5_status := by decide +kernel
  have lk28 := hts (.fieldLink RX5 28 "PostRounders" "refusals" "[I") (by decide +kernel)
  have hl := lv_entry ([.ref (x 0), .int wh]) (n := 2) (Nat.le_of_ble_eq_true rfl)
  rw [lg_entry_eq]
  generalize (lg_sl ([.ref (x 0), .int wh]) ++ List.replicate (2 - (lg_sl ([.ref (x 0), .int wh])).length) Slot.unset).toArray = ls at hl ⊢
  have hl : lv_has ls 2 [(0, .ref (x 0)), (1, .int wh)] := hl
  obtain ⟨OUT, hO⟩ : ∃ z, z = F_X5_status Rf wh := ⟨_, rfl⟩
  have hF := hO
  unfold F_X5_status at hF
  refine lv_iload_n hx hb dX5_status_0 rfl (lv_at hl 1 rfl) ?_
  refine lv_iconst (v := nI 0) hx hb dX5_status_1 (by decide) ?_
  refine lv_iconst (v := nI 2) hx hb dX5_status_2 (by decide) ?_
  refine qc_Si (As := [.int wh, .int (nI 0), .int (nI 2)]) (rest := []) ⟨hx, hb, hml, hown, hts⟩ (c_X5_within l wh (nI 0) (nI 2)) (va_cwS 3 hts gX5_status_X5_within rfl rfl rfl (by decide +kernel) ⟨Nat.le_of_ble_eq_true rfl, Nat.le_of_ble_eq_true rfl⟩) rfl hl.1 rfl (Nat.le_of_ble_eq_true rfl) dX5_status_3 ⟨Nat.zero_le _, Nat.zero_le _⟩ (fun r_3 hw_3 => ?_)
  subst hw_3
  refine qv_zif_ne (tgt := 18) hx hb dX5_status_6 (by decide) (fun c_6 => ?_) (fun c_6 => ?_)
  · rw [if_pos c_6] at hF
    obtain ⟨f_wh, fa_wh, fb_wh⟩ := within_nat (by decide) (by decide) c_6
    have e_wh := tN_eq f_wh
    refine lv_aload_n hx hb dX5_status_18 rfl (lv_at hl 0 rfl) ?_
    refine va_get (D := (dC, dI)) (ci := 5) (v := .ref (x 15)) (C := RX5) (T := TX5) (N := 14) hx hb hts hin5 hown hK hP 0 rfl rfl 6 (by decide) lk28 (fun _ h9 => h9) rfl dX5_status_19 ?_
    refine lv_iload_n hx hb dX5_status_22 rfl (lv_at hl 1 rfl) ?_
    refine qv_top (e_wh) ?_
    refine qv_ald (v := Rf (tN wh)) hx hb hK hP 1 0 rfl rfl (by omega) (by decide) (rfl) dX5_status_23 ?_
    have hP9 : va_P (dC, dI) vwCl ((xO x X) ++ ([(x 15, .inl (cI, 3, .inl Rf))])) s.heap := hP
    exact W.iret (v := Rf (tN wh)) hx hb hr (fun t ht hW => ⟨⟨_, (Rf), rfl, hO.symm.trans hF, by rw [ht]; exact hP9, va_K.moved hW.alike hK, hD⟩, hS.F ht⟩) hS.2.2 dX5_status_24
  · rw [if_neg c_6] at hF
    refine lv_aload_n hx hb dX5_status_9 rfl (lv_at hl 0 rfl) ?_
    refine lv_bipush (v := (-2)) hx hb dX5_status_10 (by decide) ?_
    refine qx_Vi (C := RX5) (As := [.int ((-2))]) (rest := []) (ci := 5) (k0 := 0) (wr := []) (ws2 := fun u => (xO x X) ++ ([(x 15, .inl (cI, 3, .inl u))])) [0, 1] [] [0, 1] ⟨hx, hb, hml, hown, hts⟩ (c_X5_refuse l dC dI x cI s.heap.size X Rf ((-2)) ) (cwV 1 hts gX5_status_X5_refuse rfl rfl rfl (by decide +kernel) ⟨Nat.le_of_ble_eq_true rfl, Nat.le_of_ble_eq_true rfl⟩) (hK.sub [0] rfl) hK hP hD hS hA hN rfl rfl (by decide) (by decide) (by decide) (by decide) (fun _ => rfl) rfl rfl rfl rfl hl.1 rfl (Nat.le_of_ble_eq_true rfl) dX5_status_12 ⟨Nat.zero_le _, Nat.zero_le _⟩ (fun r_12 u_12 H locs hw_12 hP hD hS => ?_)
    obtain ⟨Rf_12, rfl⟩ : ∃ z, z = u_12 := ⟨_, rfl⟩
    have hP : va_P (dC, dI) vwCl ((xO x X) ++ ([(x 15, .inl (cI, 3, .inl Rf_12))])) H := hP
    have hD : va_D A ((xO x X) ++ ([(x 15, .inl (cI, 3, .inl Rf_12))])) := hD
    rw [hw_12, let2_mk r_12 Rf_12] at hF
    refine lv_pop hx hb dX5_status_15 rfl ?_
    refine lv_iconst (v := (-1)) hx hb dX5_status_16 (by decide) ?_
    have hP9 : va_P (dC, dI) vwCl ((xO x X) ++ ([(x 15, .inl (cI, 3, .inl Rf_12))])) H := hP
    exact W.iret (v := (-1)) hx hb hr (fun t ht hW => ⟨⟨_, (Rf_12), rfl, hO.symm.trans hF, by rw [ht]; exact hP9, va_K.moved hW.alike hK, hD⟩, hS.F ht⟩) hS.2.2 dX5_status_17
def F_X5_count (X : xS) (P : pS) (No : rS) (Ma : rS) (Pa : rS) (Rf : Nat → Int32) (wh : Int32) : Int32 × (Nat → Int32) := (if wh = nI 0 then (nI (tN (Psz P)), Rf) else (if wh = nI 1 then let1 (F_X2_howManyAt P (nI 0) (nI 0)) (fun r_84 => (r_84, Rf)) else (if wh = nI 2 then let1 (F_X2_howManyAt P (nI 1) (nI 3)) (fun r_97 => (r_97, Rf)) else (if wh = nI 3 then let1 (F_X2_howManyAt P (nI 4) (nI 4)) (fun r_110 => (r_110, Rf)) else (if wh = nI 4 then (Pnx P, Rf) else (if wh = nI 5 then (Ppt P, Rf) else (if wh = nI 6 then (Pbl P, Rf) else (if wh = nI 7 then (Pbo P, Rf) else (if wh = nI 8 then let1 (F_X4_size_v3 No) (fun r_165 => (r_165, Rf)) else (if wh = nI 9 then let1 (F_X4_size_v4 Ma) (fun r_176 => (r_176, Rf)) else (if wh = nI 10 then let1 (F_X4_size_v9 Pa) (fun r_187 => (r_187, Rf)) else (if wh = nI 11 then (Xtl X, Rf) else let2 (F_X5_refuse Rf ((-2))) (fun r_199 Rf_199 => (r_199, Rf_199))))))))))))))
set_option maxHeartbeats 4000000 in
set_option maxRecDepth 100000 in
theorem c_X5_count (l : Launch) (dC : Nat → ClassId) (dI : Nat → Nat → Nat) (x : Nat → Nat) (cI : ClassId) (sz : Nat) (X : xS) (P : pS) (No : rS) (Ma : rS) (Pa : rS) (Rf : Nat → Int32) (wh : Int32) (pz : inB (Psz P) 6) (pno : inB (Rus No) 18) (pma : inB (Rus Ma) 24) (ppa : inB (Rus Pa) 72) : Met l yX5_count wsX5_count { frames := 2, cells := 0, slots := 0, locals := 46 } (xPc (dC, dI) vwCl (xT cI) ((xO x X) ++ (fO ((fun i => x (1 + i)))) ++ (pW ((fun i => x (2 + i))) cI P) ++ (rW ((fun i => x (7 + i))) cI 3 18 No) ++ (rW ((fun i => x (9 + i))) cI 4 24 Ma) ++ (rW ((fun i => x (11 + i))) cI 9 72 Pa) ++ ([(x 15, .inl (cI, 3, .inl Rf))])) sz [.ref (x 0), .int wh]) (va_Qi (fun (r : Int32) (u : (Nat → Int32)) => F_X5_count X P No Ma Pa Rf wh = (r, u)) (mB (dC, dI) vwCl (xT cI) (va_A ((xO x X) ++ (fO ((fun i => x (1 + i)))) ++ (pW ((fun i => x (2 + i))) cI P) ++ (rW ((fun i => x (7 + i))) cI 3 18 No) ++ (rW ((fun i => x (9 + i))) cI 4 24 Ma) ++ (rW ((fun i => x (11 + i))) cI 9 72 Pa) ++ ([(x 15, .inl (cI, 3, .inl Rf))])) sz) (fun u => (xO x X) ++ (fO ((fun i => x (1 + i)))) ++ (pW ((fun i => x (2 + i))) cI P) ++ (rW ((fun i => x (7 + i))) cI 3 18 No) ++ (rW ((fun i => x (9 + i))) cI 4 24 Ma) ++ (rW ((fun i => x (11 + i))) cI 9 72 Pa) ++ ([(x 15, .inl (cI, 3, .inl u))]))) (va_A ((xO x X) ++ (fO ((fun i => x (1 + i)))) ++ (pW ((fun i => x (2 + i))) cI P) ++ (rW ((fun i => x (7 + i))) cI 3 18 No) ++ (rW ((fun i => x (9 + i))) cI 4 24 Ma) ++ (rW ((fun i => x (11 + i))) cI 9 72 Pa) ++ ([(x 15, .inl (cI, 3, .inl Rf))])) sz)) 0 0 (va_A ((xO x X) ++ (fO ((fun i => x (1 + i)))) ++ (pW ((fun i => x (2 + i))) cI P) ++ (rW ((fun i => x (7 + i))) cI 3 18 No) ++ (rW ((fun i => x (9 + i))) cI 4 24 Ma) ++ (rW ((fun i => x (11 + i))) cI 9 72 Pa) ++ ([(x 15, .inl (cI, 3, .inl Rf))])) sz) := by
  refine Met.ofW (cc := cX5_count) (maxL := 2) (ret := (some .int)) (by decide) rfl ?_
  intro p e s m args below meth c s₁ B hml hv
  obtain ⟨rfl, hsz, hP, hK, hD0, hN⟩ := hv
  have hx := B.exec
  have hb := B.bytes
  have hr := B.returns
  have hts := atoms_spec (ws := wsX5_count) B.pre
  have hown : s.vm.findClass RX5 = some m.cls := findClass_of_methodNamed B.named
  have hlocks := B.notSynchronized
  subst hsz
  have hD := hD0.self (sz := s.heap.size)
  generalize hAe : va_A ((xO x X) ++ (fO ((fun i => x (1 + i)))) ++ (pW ((fun i => x (2 + i))) cI P) ++ (rW ((fun i => x (7 + i))) cI 3 18 No) ++ (rW ((fun i => x (9 + i))) cI 4 24 Ma) ++ (rW ((fun i => x (11 + i))) cI 9 72 Pa) ++ ([(x 15, .inl (cI, 3, .inl Rf))])) s.heap.size = A at hD ⊢
  have hA : ∀ q : Nat, s.heap.size ≤ q → A q := fun q h => by rw [← hAe]; exact Or.inr h
  have hS : va_S A s.heap s.heap [] := va_S.rf
  have hin1 : ∀ w ∈ wsX10, w ∈ wsX5_count := by decide +kernel
  have hin2 : ∀ w ∈ wsX20, w ∈ wsX5_count := by decide +kernel
  have hin5 : ∀ w ∈ wsX50, w ∈ wsX5_count := by decide +kernel
  have lk12 := hts (.fieldLink RX5 12 "PostRounders" "now" "LPostRounders$Field;") (by decide +kernel)
  have lk74 := hts (.fieldLink RX5 74 "PostRounders$Field" "play" "LPostRounders$Play;") (by decide +kernel)
  have lk77 := hts (.fieldLink RX5 77 "PostRounders$Play" "size" "I") (by decide +kernel)
  have lk85 := hts (.fieldLink RX5 85 "PostRounders$Play" "bowler" "I") (by decide +kernel)
  have lk88 := hts (.fieldLink RX5 88 "PostRounders$Field" "past" "LPostRounders$Rows;") (by decide +kernel)
  have lk105 := hts (.fieldLink RX5 105 "PostRounders" "textLength" "I") (by decide +kernel)
  have lk124 := hts (.fieldLink RX5 124 "PostRounders$Play" "balls" "I") (by decide +kernel)
  have lk127 := hts (.fieldLink RX5 127 "PostRounders$Play" "points" "I") (by decide +kernel)
  have lk147 := hts (.fieldLink RX5 147 "PostRounders$Play" "next" "I") (by decide +kernel)
  have lk195 := hts (.fieldLink RX5 195 "PostRounders$Field" "notes" "LPostRounders$Rows;") (by decide +kernel)
  have lk204 := hts (.fieldLink RX5 204 "PostRounders$Field" "marks" "LPostRounders$Rows;") (by decide +kernel)
  have hl := lv_entry ([.ref (x 0), .int wh]) (n := 2) (Nat.le_of_ble_eq_true rfl)
  rw [lg_entry_eq]
  generalize (lg_sl ([.ref (x 0), .int wh]) ++ List.replicate (2 - (lg_sl ([.ref (x 0), .int wh])).length) Slot.unset).toArray = ls at hl ⊢
  have hl : lv_has ls 2 [(0, .ref (x 0)), (1, .int wh)] := hl
  obtain ⟨OUT, hO⟩ : ∃ z, z = F_X5_count X P No Ma Pa Rf wh := ⟨_, rfl⟩
  have hF := hO
  unfold F_X5_count at hF
  have e_pz := tN_eq pz.1
  have b_pz := pz.2
  have e_pno := tN_eq pno.1
  have b_pno := pno.2
  have e_pma := tN_eq pma.1
  have b_pma := pma.2
  have e_ppa := tN_eq ppa.1
  have b_ppa := ppa.2
  refine lv_iload_n hx hb dX5_count_0 rfl (lv_at hl 1 rfl) ?_
  by_cases c_1_0 : wh = nI 0
  · rw [if_pos c_1_0] at hF
    refine lv_tableIn (off := 63) (tgt := 64) hx hb dX5_count_1 (by rw [c_1_0]; decide) (by rw [c_1_0]; decide) (by rw [c_1_0]; rfl) (by decide) ?_
    refine lv_aload_n hx hb dX5_count_64 rfl (lv_at hl 0 rfl) ?_
    refine va_get (D := (dC, dI)) (ci := 5) (v := .ref (x 1)) (C := RX5) (T := TX5) (N := 14) hx hb hts hin5 hown hK hP 0 rfl rfl 0 (by decide) lk12 (fun _ h9 => h9) rfl dX5_count_65 ?_
    refine va_get (D := (dC, dI)) (ci := 1) (v := .ref (x 2)) (C := RX1) (T := TX1) (N := 5) hx hb hts hin1 hown hK hP 1 rfl rfl 0 (by decide) lk74 (fun _ h9 => h9) rfl dX5_count_68 ?_
    refine va_get (D := (dC, dI)) (ci := 2) (v := .int (Psz P)) (C := RX2) (T := TX2) (N := 8) hx hb hts hin2 hown hK hP 2 rfl rfl 1 (by decide) lk77 (fun _ h9 => h9) rfl dX5_count_71 ?_
    refine qv_top (e_pz) ?_
    have hP9 : va_P (dC, dI) vwCl ((xO x X) ++ (fO ((fun i => x (1 + i)))) ++ (pW ((fun i => x (2 + i))) cI P) ++ (rW ((fun i => x (7 + i))) cI 3 18 No) ++ (rW ((fun i => x (9 + i))) cI 4 24 Ma) ++ (rW ((fun i => x (11 + i))) cI 9 72 Pa) ++ ([(x 15, .inl (cI, 3, .inl Rf))])) s.heap := hP
    exact W.iret (v := nI (tN (Psz P))) hx hb hr (fun t ht hW => ⟨⟨_, (Rf), rfl, hO.symm.trans hF, by rw [ht]; exact hP9, va_K.moved hW.alike hK, hD⟩, hS.F ht⟩) hS.2.2 dX5_count_74
  · rw [if_neg c_1_0] at hF
    by_cases c_1_1 : wh = nI 1
    · rw [if_pos c_1_1] at hF
      refine lv_tableIn (off := 74) (tgt := 75) hx hb dX5_count_1 (by rw [c_1_1]; decide) (by rw [c_1_1]; decide) (by rw [c_1_1]; rfl) (by decide) ?_
      refine lv_aload_n hx hb dX5_count_75 rfl (lv_at hl 0 rfl) ?_
      refine va_get (D := (dC, dI)) (ci := 5) (v := .ref (x 1)) (C := RX5) (T := TX5) (N := 14) hx hb hts hin5 hown hK hP 0 rfl rfl 0 (by decide) lk12 (fun _ h9 => h9) rfl dX5_count_76 ?_
      refine va_get (D := (dC, dI)) (ci := 1) (v := .ref (x 2)) (C := RX1) (T := TX1) (N := 5) hx hb hts hin1 hown hK hP 1 rfl rfl 0 (by decide) lk74 (fun _ h9 => h9) rfl dX5_count_79 ?_
      refine lv_iconst (v := nI 0) hx hb dX5_count_82 (by decide) ?_
      refine lv_iconst (v := nI 0) hx hb dX5_count_83 (by decide) ?_
      refine qx_Vi (C := RX2) (As := [.int (nI 0), .int (nI 0)]) (rest := []) (ci := 2) (k0 := 2) (wr := (xO x X) ++ (fO ((fun i => x (1 + i)))) ++ (rW ((fun i => x (7 + i))) cI 3 18 No) ++ (rW ((fun i => x (9 + i))) cI 4 24 Ma) ++ (rW ((fun i => x (11 + i))) cI 9 72 Pa) ++ ([(x 15, .inl (cI, 3, .inl Rf))])) (ws2 := fun u => (xO x X) ++ (fO ((fun i => x (1 + i)))) ++ (pW ((fun i => x (2 + i))) cI P) ++ (rW ((fun i => x (7 + i))) cI 3 18 No) ++ (rW ((fun i => x (9 + i))) cI 4 24 Ma) ++ (rW ((fun i => x (11 + i))) cI 9 72 Pa) ++ ([(x 15, .inl (cI, 3, .inl Rf))])) [2, 3, 4, 5] [0, 1, 6, 7, 8, 9, 10, 11, 12] [0, 1, 9, 10, 11, 12, 2, 3, 4, 5, 6, 7, 8] ⟨hx, hb, hml, hown, hts⟩ (c_X2_howManyAt l dC dI (fun i => x (2 + i)) cI s.heap.size P (nI 0) (nI 0) (pz : inB (Psz P) 6)) (cwV 2 hts gX5_count_X2_howManyAt rfl rfl rfl (by decide +kernel) ⟨Nat.le_of_ble_eq_true rfl, Nat.le_of_ble_eq_true rfl⟩) (hK.sub [0] rfl) hK hP hD hS hA hN rfl rfl (by decide) (by decide) (by decide) (by decide) (fun _ => rfl) rfl rfl rfl rfl hl.1 rfl (Nat.le_of_ble_eq_true rfl) dX5_count_84 ⟨Nat.zero_le _, Nat.zero_le _⟩ (fun r_84 u_84 H locs hw_84 hP hD hS => ?_)
      have hP : va_P (dC, dI) vwCl ((xO x X) ++ (fO ((fun i => x (1 + i)))) ++ (pW ((fun i => x (2 + i))) cI P) ++ (rW ((fun i => x (7 + i))) cI 3 18 No) ++ (rW ((fun i => x (9 + i))) cI 4 24 Ma) ++ (rW ((fun i => x (11 + i))) cI 9 72 Pa) ++ ([(x 15, .inl (cI, 3, .inl Rf))])) H := hP
      have hD : va_D A ((xO x X) ++ (fO ((fun i => x (1 + i)))) ++ (pW ((fun i => x (2 + i))) cI P) ++ (rW ((fun i => x (7 + i))) cI 3 18 No) ++ (rW ((fun i => x (9 + i))) cI 4 24 Ma) ++ (rW ((fun i => x (11 + i))) cI 9 72 Pa) ++ ([(x 15, .inl (cI, 3, .inl Rf))])) := hD
      rw [hw_84, let1_mk r_84] at hF
      have hP9 : va_P (dC, dI) vwCl ((xO x X) ++ (fO ((fun i => x (1 + i)))) ++ (pW ((fun i => x (2 + i))) cI P) ++ (rW ((fun i => x (7 + i))) cI 3 18 No) ++ (rW ((fun i => x (9 + i))) cI 4 24 Ma) ++ (rW ((fun i => x (11 + i))) cI 9 72 Pa) ++ ([(x 15, .inl (cI, 3, .inl Rf))])) H := hP
      exact W.iret (v := r_84) hx hb hr (fun t ht hW => ⟨⟨_, (Rf), rfl, hO.symm.trans hF, by rw [ht]; exact hP9, va_K.moved hW.alike hK, hD⟩, hS.F ht⟩) hS.2.2 dX5_count_87
    · rw [if_neg c_1_1] at hF
      by_cases c_1_2 : wh = nI 2
      · rw [if_pos c_1_2] at hF
        refine lv_tableIn (off := 87) (tgt := 88) hx hb dX5_count_1 (by rw [c_1_2]; decide) (by rw [c_1_2]; decide) (by rw [c_1_2]; rfl) (by decide) ?_
        refine lv_aload_n hx hb dX5_count_88 rfl (lv_at hl 0 rfl) ?_
        refine va_get (D := (dC, dI)) (ci := 5) (v := .ref (x 1)) (C := RX5) (T := TX5) (N := 14) hx hb hts hin5 hown hK hP 0 rfl rfl 0 (by decide) lk12 (fun _ h9 => h9) rfl dX5_count_89 ?_
        refine va_get (D := (dC, dI)) (ci := 1) (v := .ref (x 2)) (C := RX1) (T := TX1) (N := 5) hx hb hts hin1 hown hK hP 1 rfl rfl 0 (by decide) lk74 (fun _ h9 => h9) rfl dX5_count_92 ?_
        refine lv_iconst (v := nI 1) hx hb dX5_count_95 (by decide) ?_
        refine lv_iconst (v := nI 3) hx hb dX5_count_96 (by decide) ?_
        refine qx_Vi (C := RX2) (As := [.int (nI 1), .int (nI 3)]) (rest := []) (ci := 2) (k0 := 2) (wr := (xO x X) ++ (fO ((fun i => x (1 + i)))) ++ (rW ((fun i => x (7 + i))) cI 3 18 No) ++ (rW ((fun i => x (9 + i))) cI 4 24 Ma) ++ (rW ((fun i => x (11 + i))) cI 9 72 Pa) ++ ([(x 15, .inl (cI, 3, .inl Rf))])) (ws2 := fun u => (xO x X) ++ (fO ((fun i => x (1 + i)))) ++ (pW ((fun i => x (2 + i))) cI P) ++ (rW ((fun i => x (7 + i))) cI 3 18 No) ++ (rW ((fun i => x (9 + i))) cI 4 24 Ma) ++ (rW ((fun i => x (11 + i))) cI 9 72 Pa) ++ ([(x 15, .inl (cI, 3, .inl Rf))])) [2, 3, 4, 5] [0, 1, 6, 7, 8, 9, 10, 11, 12] [0, 1, 9, 10, 11, 12, 2, 3, 4, 5, 6, 7, 8] ⟨hx, hb, hml, hown, hts⟩ (c_X2_howManyAt l dC dI (fun i => x (2 + i)) cI s.heap.size P (nI 1) (nI 3) (pz : inB (Psz P) 6)) (cwV 2 hts gX5_count_X2_howManyAt rfl rfl rfl (by decide +kernel) ⟨Nat.le_of_ble_eq_true rfl, Nat.le_of_ble_eq_true rfl⟩) (hK.sub [0] rfl) hK hP hD hS hA hN rfl rfl (by decide) (by decide) (by decide) (by decide) (fun _ => rfl) rfl rfl rfl rfl hl.1 rfl (Nat.le_of_ble_eq_true rfl) dX5_count_97 ⟨Nat.zero_le _, Nat.zero_le _⟩ (fun r_97 u_97 H locs hw_97 hP hD hS => ?_)
        have hP : va_P (dC, dI) vwCl ((xO x X) ++ (fO ((fun i => x (1 + i)))) ++ (pW ((fun i => x (2 + i))) cI P) ++ (rW ((fun i => x (7 + i))) cI 3 18 No) ++ (rW ((fun i => x (9 + i))) cI 4 24 Ma) ++ (rW ((fun i => x (11 + i))) cI 9 72 Pa) ++ ([(x 15, .inl (cI, 3, .inl Rf))])) H := hP
        have hD : va_D A ((xO x X) ++ (fO ((fun i => x (1 + i)))) ++ (pW ((fun i => x (2 + i))) cI P) ++ (rW ((fun i => x (7 + i))) cI 3 18 No) ++ (rW ((fun i => x (9 + i))) cI 4 24 Ma) ++ (rW ((fun i => x (11 + i))) cI 9 72 Pa) ++ ([(x 15, .inl (cI, 3, .inl Rf))])) := hD
        rw [hw_97, let1_mk r_97] at hF
        have hP9 : va_P (dC, dI) vwCl ((xO x X) ++ (fO ((fun i => x (1 + i)))) ++ (pW ((fun i => x (2 + i))) cI P) ++ (rW ((fun i => x (7 + i))) cI 3 18 No) ++ (rW ((fun i => x (9 + i))) cI 4 24 Ma) ++ (rW ((fun i => x (11 + i))) cI 9 72 Pa) ++ ([(x 15, .inl (cI, 3, .inl Rf))])) H := hP
        exact W.iret (v := r_97) hx hb hr (fun t ht hW => ⟨⟨_, (Rf), rfl, hO.symm.trans hF, by rw [ht]; exact hP9, va_K.moved hW.alike hK, hD⟩, hS.F ht⟩) hS.2.2 dX5_count_100
      · rw [if_neg c_1_2] at hF
        by_cases c_1_3 : wh = nI 3
        · rw [if_pos c_1_3] at hF
          refine lv_tableIn (off := 100) (tgt := 101) hx hb dX5_count_1 (by rw [c_1_3]; decide) (by rw [c_1_3]; decide) (by rw [c_1_3]; rfl) (by decide) ?_
          refine lv_aload_n hx hb dX5_count_101 rfl (lv_at hl 0 rfl) ?_
          refine va_get (D := (dC, dI)) (ci := 5) (v := .ref (x 1)) (C := RX5) (T := TX5) (N := 14) hx hb hts hin5 hown hK hP 0 rfl rfl 0 (by decide) lk12 (fun _ h9 => h9) rfl dX5_count_102 ?_
          refine va_get (D := (dC, dI)) (ci := 1) (v := .ref (x 2)) (C := RX1) (T := TX1) (N := 5) hx hb hts hin1 hown hK hP 1 rfl rfl 0 (by decide) lk74 (fun _ h9 => h9) rfl dX5_count_105 ?_
          refine lv_iconst (v := nI 4) hx hb dX5_count_108 (by decide) ?_
          refine lv_iconst (v := nI 4) hx hb dX5_count_109 (by decide) ?_
          refine qx_Vi (C := RX2) (As := [.int (nI 4), .int (nI 4)]) (rest := []) (ci := 2) (k0 := 2) (wr := (xO x X) ++ (fO ((fun i => x (1 + i)))) ++ (rW ((fun i => x (7 + i))) cI 3 18 No) ++ (rW ((fun i => x (9 + i))) cI 4 24 Ma) ++ (rW ((fun i => x (11 + i))) cI 9 72 Pa) ++ ([(x 15, .inl (cI, 3, .inl Rf))])) (ws2 := fun u => (xO x X) ++ (fO ((fun i => x (1 + i)))) ++ (pW ((fun i => x (2 + i))) cI P) ++ (rW ((fun i => x (7 + i))) cI 3 18 No) ++ (rW ((fun i => x (9 + i))) cI 4 24 Ma) ++ (rW ((fun i => x (11 + i))) cI 9 72 Pa) ++ ([(x 15, .inl (cI, 3, .inl Rf))])) [2, 3, 4, 5] [0, 1, 6, 7, 8, 9, 10, 11, 12] [0, 1, 9, 10, 11, 12, 2, 3, 4, 5, 6, 7, 8] ⟨hx, hb, hml, hown, hts⟩ (c_X2_howManyAt l dC dI (fun i => x (2 + i)) cI s.heap.size P (nI 4) (nI 4) (pz : inB (Psz P) 6)) (cwV 2 hts gX5_count_X2_howManyAt rfl rfl rfl (by decide +kernel) ⟨Nat.le_of_ble_eq_true rfl, Nat.le_of_ble_eq_true rfl⟩) (hK.sub [0] rfl) hK hP hD hS hA hN rfl rfl (by decide) (by decide) (by decide) (by decide) (fun _ => rfl) rfl rfl rfl rfl hl.1 rfl (Nat.le_of_ble_eq_true rfl) dX5_count_110 ⟨Nat.zero_le _, Nat.zero_le _⟩ (fun r_110 u_110 H locs hw_110 hP hD hS => ?_)
          have hP : va_P (dC, dI) vwCl ((xO x X) ++ (fO ((fun i => x (1 + i)))) ++ (pW ((fun i => x (2 + i))) cI P) ++ (rW ((fun i => x (7 + i))) cI 3 18 No) ++ (rW ((fun i => x (9 + i))) cI 4 24 Ma) ++ (rW ((fun i => x (11 + i))) cI 9 72 Pa) ++ ([(x 15, .inl (cI, 3, .inl Rf))])) H := hP
          have hD : va_D A ((xO x X) ++ (fO ((fun i => x (1 + i)))) ++ (pW ((fun i => x (2 + i))) cI P) ++ (rW ((fun i => x (7 + i))) cI 3 18 No) ++ (rW ((fun i => x (9 + i))) cI 4 24 Ma) ++ (rW ((fun i => x (11 + i))) cI 9 72 Pa) ++ ([(x 15, .inl (cI, 3, .inl Rf))])) := hD
          rw [hw_110, let1_mk r_110] at hF
          have hP9 : va_P (dC, dI) vwCl ((xO x X) ++ (fO ((fun i => x (1 + i)))) ++ (pW ((fun i => x (2 + i))) cI P) ++ (rW ((fun i => x (7 + i))) cI 3 18 No) ++ (rW ((fun i => x (9 + i))) cI 4 24 Ma) ++ (rW ((fun i => x (11 + i))) cI 9 72 Pa) ++ ([(x 15, .inl (cI, 3, .inl Rf))])) H := hP
          exact W.iret (v := r_110) hx hb hr (fun t ht hW => ⟨⟨_, (Rf), rfl, hO.symm.trans hF, by rw [ht]; exact hP9, va_K.moved hW.alike hK, hD⟩, hS.F ht⟩) hS.2.2 dX5_count_113
        · rw [if_neg c_1_3] at hF
          by_cases c_1_4 : wh = nI 4
          · rw [if_pos c_1_4] at hF
            refine lv_tableIn (off := 113) (tgt := 114) hx hb dX5_count_1 (by rw [c_1_4]; decide) (by rw [c_1_4]; decide) (by rw [c_1_4]; rfl) (by decide) ?_
            refine lv_aload_n hx hb dX5_count_114 rfl (lv_at hl 0 rfl) ?_
            refine va_get (D := (dC, dI)) (ci := 5) (v := .ref (x 1)) (C := RX5) (T := TX5) (N := 14) hx hb hts hin5 hown hK hP 0 rfl rfl 0 (by decide) lk12 (fun _ h9 => h9) rfl dX5_count_115 ?_
            refine va_get (D := (dC, dI)) (ci := 1) (v := .ref (x 2)) (C := RX1) (T := TX1) (N := 5) hx hb hts hin1 hown hK hP 1 rfl rfl 0 (by decide) lk74 (fun _ h9 => h9) rfl dX5_count_118 ?_
            refine va_get (D := (dC, dI)) (ci := 2) (v := .int (Pnx P)) (C := RX2) (T := TX2) (N := 8) hx hb hts hin2 hown hK hP 2 rfl rfl 5 (by decide) lk147 (fun _ h9 => h9) rfl dX5_count_121 ?_
            have hP9 : va_P (dC, dI) vwCl ((xO x X) ++ (fO ((fun i => x (1 + i)))) ++ (pW ((fun i => x (2 + i))) cI P) ++ (rW ((fun i => x (7 + i))) cI 3 18 No) ++ (rW ((fun i => x (9 + i))) cI 4 24 Ma) ++ (rW ((fun i => x (11 + i))) cI 9 72 Pa) ++ ([(x 15, .inl (cI, 3, .inl Rf))])) s.heap := hP
            exact W.iret (v := Pnx P) hx hb hr (fun t ht hW => ⟨⟨_, (Rf), rfl, hO.symm.trans hF, by rw [ht]; exact hP9, va_K.moved hW.alike hK, hD⟩, hS.F ht⟩) hS.2.2 dX5_count_124
          · rw [if_neg c_1_4] at hF
            by_cases c_1_5 : wh = nI 5
            · rw [if_pos c_1_5] at hF
              refine lv_tableIn (off := 124) (tgt := 125) hx hb dX5_count_1 (by rw [c_1_5]; decide) (by rw [c_1_5]; decide) (by rw [c_1_5]; rfl) (by decide) ?_
              refine lv_aload_n hx hb dX5_count_125 rfl (lv_at hl 0 rfl) ?_
              refine va_get (D := (dC, dI)) (ci := 5) (v := .ref (x 1)) (C := RX5) (T := TX5) (N := 14) hx hb hts hin5 hown hK hP 0 rfl rfl 0 (by decide) lk12 (fun _ h9 => h9) rfl dX5_count_126 ?_
              refine va_get (D := (dC, dI)) (ci := 1) (v := .ref (x 2)) (C := RX1) (T := TX1) (N := 5) hx hb hts hin1 hown hK hP 1 rfl rfl 0 (by decide) lk74 (fun _ h9 => h9) rfl dX5_count_129 ?_
              refine va_get (D := (dC, dI)) (ci := 2) (v := .int (Ppt P)) (C := RX2) (T := TX2) (N := 8) hx hb hts hin2 hown hK hP 2 rfl rfl 6 (by decide) lk127 (fun _ h9 => h9) rfl dX5_count_132 ?_
              have hP9 : va_P (dC, dI) vwCl ((xO x X) ++ (fO ((fun i => x (1 + i)))) ++ (pW ((fun i => x (2 + i))) cI P) ++ (rW ((fun i => x (7 + i))) cI 3 18 No) ++ (rW ((fun i => x (9 + i))) cI 4 24 Ma) ++ (rW ((fun i => x (11 + i))) cI 9 72 Pa) ++ ([(x 15, .inl (cI, 3, .inl Rf))])) s.heap := hP
              exact W.iret (v := Ppt P) hx hb hr (fun t ht hW => ⟨⟨_, (Rf), rfl, hO.symm.trans hF, by rw [ht]; exact hP9, va_K.moved hW.alike hK, hD⟩, hS.F ht⟩) hS.2.2 dX5_count_135
            · rw [if_neg c_1_5] at hF
              by_cases c_1_6 : wh = nI 6
              · rw [if_pos c_1_6] at hF
                refine lv_tableIn (off := 135) (tgt := 136) hx hb dX5_count_1 (by rw [c_1_6]; decide) (by rw [c_1_6]; decide) (by rw [c_1_6]; rfl) (by decide) ?_
                refine lv_aload_n hx hb dX5_count_136 rfl (lv_at hl 0 rfl) ?_
                refine va_get (D := (dC, dI)) (ci := 5) (v := .ref (x 1)) (C := RX5) (T := TX5) (N := 14) hx hb hts hin5 hown hK hP 0 rfl rfl 0 (by decide) lk12 (fun _ h9 => h9) rfl dX5_count_137 ?_
                refine va_get (D := (dC, dI)) (ci := 1) (v := .ref (x 2)) (C := RX1) (T := TX1) (N := 5) hx hb hts hin1 hown hK hP 1 rfl rfl 0 (by decide) lk74 (fun _ h9 => h9) rfl dX5_count_140 ?_
                refine va_get (D := (dC, dI)) (ci := 2) (v := .int (Pbl P)) (C := RX2) (T := TX2) (N := 8) hx hb hts hin2 hown hK hP 2 rfl rfl 7 (by decide) lk124 (fun _ h9 => h9) rfl dX5_count_143 ?_
                have hP9 : va_P (dC, dI) vwCl ((xO x X) ++ (fO ((fun i => x (1 + i)))) ++ (pW ((fun i => x (2 + i))) cI P) ++ (rW ((fun i => x (7 + i))) cI 3 18 No) ++ (rW ((fun i => x (9 + i))) cI 4 24 Ma) ++ (rW ((fun i => x (11 + i))) cI 9 72 Pa) ++ ([(x 15, .inl (cI, 3, .inl Rf))])) s.heap := hP
                exact W.iret (v := Pbl P) hx hb hr (fun t ht hW => ⟨⟨_, (Rf), rfl, hO.symm.trans hF, by rw [ht]; exact hP9, va_K.moved hW.alike hK, hD⟩, hS.F ht⟩) hS.2.2 dX5_count_146
              · rw [if_neg c_1_6] at hF
                by_cases c_1_7 : wh = nI 7
                · rw [if_pos c_1_7] at hF
                  refine lv_tableIn (off := 146) (tgt := 147) hx hb dX5_count_1 (by rw [c_1_7]; decide) (by rw [c_1_7]; decide) (by rw [c_1_7]; rfl) (by decide) ?_
                  refine lv_aload_n hx hb dX5_count_147 rfl (lv_at hl 0 rfl) ?_
                  refine va_get (D := (dC, dI)) (ci := 5) (v := .ref (x 1)) (C := RX5) (T := TX5) (N := 14) hx hb hts hin5 hown hK hP 0 rfl rfl 0 (by decide) lk12 (fun _ h9 => h9) rfl dX5_count_148 ?_
                  refine va_get (D := (dC, dI)) (ci := 1) (v := .ref (x 2)) (C := RX1) (T := TX1) (N := 5) hx hb hts hin1 hown hK hP 1 rfl rfl 0 (by decide) lk74 (fun _ h9 => h9) rfl dX5_count_151 ?_
                  refine va_get (D := (dC, dI)) (ci := 2) (v := .int (Pbo P)) (C := RX2) (T := TX2) (N := 8) hx hb hts hin2 hown hK hP 2 rfl rfl 0 (by decide) lk85 (fun _ h9 => h9) rfl dX5_count_154 ?_
                  have hP9 : va_P (dC, dI) vwCl ((xO x X) ++ (fO ((fun i => x (1 + i)))) ++ (pW ((fun i => x (2 + i))) cI P) ++ (rW ((fun i => x (7 + i))) cI 3 18 No) ++ (rW ((fun i => x (9 + i))) cI 4 24 Ma) ++ (rW ((fun i => x (11 + i))) cI 9 72 Pa) ++ ([(x 15, .inl (cI, 3, .inl Rf))])) s.heap := hP
                  exact W.iret (v := Pbo P) hx hb hr (fun t ht hW => ⟨⟨_, (Rf), rfl, hO.symm.trans hF, by rw [ht]; exact hP9, va_K.moved hW.alike hK, hD⟩, hS.F ht⟩) hS.2.2 dX5_count_157
                · rw [if_neg c_1_7] at hF
                  by_cases c_1_8 : wh = nI 8
                  · rw [if_pos c_1_8] at hF
                    refine lv_tableIn (off := 157) (tgt := 158) hx hb dX5_count_1 (by rw [c_1_8]; decide) (by rw [c_1_8]; decide) (by rw [c_1_8]; rfl) (by decide) ?_
                    refine lv_aload_n hx hb dX5_count_158 rfl (lv_at hl 0 rfl) ?_
                    refine va_get (D := (dC, dI)) (ci := 5) (v := .ref (x 1)) (C := RX5) (T := TX5) (N := 14) hx hb hts hin5 hown hK hP 0 rfl rfl 0 (by decide) lk12 (fun _ h9 => h9) rfl dX5_count_159 ?_
                    refine va_get (D := (dC, dI)) (ci := 1) (v := .ref (x 7)) (C := RX1) (T := TX1) (N := 5) hx hb hts hin1 hown hK hP 1 rfl rfl 2 (by decide) lk195 (fun _ h9 => h9) rfl dX5_count_162 ?_
                    refine qx_Vi (C := RX4) (As := []) (rest := []) (ci := 4) (k0 := 6) (wr := (xO x X) ++ (fO ((fun i => x (1 + i)))) ++ (pW ((fun i => x (2 + i))) cI P) ++ (rW ((fun i => x (9 + i))) cI 4 24 Ma) ++ (rW ((fun i => x (11 + i))) cI 9 72 Pa) ++ ([(x 15, .inl (cI, 3, .inl Rf))])) (ws2 := fun u => (xO x X) ++ (fO ((fun i => x (1 + i)))) ++ (pW ((fun i => x (2 + i))) cI P) ++ (rW ((fun i => x (7 + i))) cI 3 18 No) ++ (rW ((fun i => x (9 + i))) cI 4 24 Ma) ++ (rW ((fun i => x (11 + i))) cI 9 72 Pa) ++ ([(x 15, .inl (cI, 3, .inl Rf))])) [6, 7] [0, 1, 2, 3, 4, 5, 8, 9, 10, 11, 12] [0, 1, 2, 3, 4, 5, 11, 12, 6, 7, 8, 9, 10] ⟨hx, hb, hml, hown, hts⟩ (c_X4_size_v3 l dC dI (fun i => x (7 + i)) cI s.heap.size No  (pno : inB (Rus No) 18)) (cwV 0 hts gX5_count_X4_size rfl rfl rfl (by decide +kernel) ⟨Nat.le_of_ble_eq_true rfl, Nat.le_of_ble_eq_true rfl⟩) (hK.sub [0] rfl) hK hP hD hS hA hN rfl rfl (by decide) (by decide) (by decide) (by decide) (fun _ => rfl) rfl rfl rfl rfl hl.1 rfl (Nat.le_of_ble_eq_true rfl) dX5_count_165 ⟨Nat.zero_le _, Nat.zero_le _⟩ (fun r_165 u_165 H locs hw_165 hP hD hS => ?_)
                    have hP : va_P (dC, dI) vwCl ((xO x X) ++ (fO ((fun i => x (1 + i)))) ++ (pW ((fun i => x (2 + i))) cI P) ++ (rW ((fun i => x (7 + i))) cI 3 18 No) ++ (rW ((fun i => x (9 + i))) cI 4 24 Ma) ++ (rW ((fun i => x (11 + i))) cI 9 72 Pa) ++ ([(x 15, .inl (cI, 3, .inl Rf))])) H := hP
                    have hD : va_D A ((xO x X) ++ (fO ((fun i => x (1 + i)))) ++ (pW ((fun i => x (2 + i))) cI P) ++ (rW ((fun i => x (7 + i))) cI 3 18 No) ++ (rW ((fun i => x (9 + i))) cI 4 24 Ma) ++ (rW ((fun i => x (11 + i))) cI 9 72 Pa) ++ ([(x 15, .inl (cI, 3, .inl Rf))])) := hD
                    rw [hw_165, let1_mk r_165] at hF
                    have hP9 : va_P (dC, dI) vwCl ((xO x X) ++ (fO ((fun i => x (1 + i)))) ++ (pW ((fun i => x (2 + i))) cI P) ++ (rW ((fun i => x (7 + i))) cI 3 18 No) ++ (rW ((fun i => x (9 + i))) cI 4 24 Ma) ++ (rW ((fun i => x (11 + i))) cI 9 72 Pa) ++ ([(x 15, .inl (cI, 3, .inl Rf))])) H := hP
                    exact W.iret (v := r_165) hx hb hr (fun t ht hW => ⟨⟨_, (Rf), rfl, hO.symm.trans hF, by rw [ht]; exact hP9, va_K.moved hW.alike hK, hD⟩, hS.F ht⟩) hS.2.2 dX5_count_168
                  · rw [if_neg c_1_8] at hF
                    by_cases c_1_9 : wh = nI 9
                    · rw [if_pos c_1_9] at hF
                      refine lv_tableIn (off := 168) (tgt := 169) hx hb dX5_count_1 (by rw [c_1_9]; decide) (by rw [c_1_9]; decide) (by rw [c_1_9]; rfl) (by decide) ?_
                      refine lv_aload_n hx hb dX5_count_169 rfl (lv_at hl 0 rfl) ?_
                      refine va_get (D := (dC, dI)) (ci := 5) (v := .ref (x 1)) (C := RX5) (T := TX5) (N := 14) hx hb hts hin5 hown hK hP 0 rfl rfl 0 (by decide) lk12 (fun _ h9 => h9) rfl dX5_count_170 ?_
                      refine va_get (D := (dC, dI)) (ci := 1) (v := .ref (x 9)) (C := RX1) (T := TX1) (N := 5) hx hb hts hin1 hown hK hP 1 rfl rfl 3 (by decide) lk204 (fun _ h9 => h9) rfl dX5_count_173 ?_
                      refine qx_Vi (C := RX4) (As := []) (rest := []) (ci := 4) (k0 := 8) (wr := (xO x X) ++ (fO ((fun i => x (1 + i)))) ++ (pW ((fun i => x (2 + i))) cI P) ++ (rW ((fun i => x (7 + i))) cI 3 18 No) ++ (rW ((fun i => x (11 + i))) cI 9 72 Pa) ++ ([(x 15, .inl (cI, 3, .inl Rf))])) (ws2 := fun u => (xO x X) ++ (fO ((fun i => x (1 + i)))) ++ (pW ((fun i => x (2 + i))) cI P) ++ (rW ((fun i => x (7 + i))) cI 3 18 No) ++ (rW ((fun i => x (9 + i))) cI 4 24 Ma) ++ (rW ((fun i => x (11 + i))) cI 9 72 Pa) ++ ([(x 15, .inl (cI, 3, .inl Rf))])) [8, 9] [0, 1, 2, 3, 4, 5, 6, 7, 10, 11, 12] [0, 1, 2, 3, 4, 5, 6, 7, 11, 12, 8, 9, 10] ⟨hx, hb, hml, hown, hts⟩ (c_X4_size_v4 l dC dI (fun i => x (9 + i)) cI s.heap.size Ma  (pma : inB (Rus Ma) 24)) (cwV 0 hts gX5_count_X4_size rfl rfl rfl (by decide +kernel) ⟨Nat.le_of_ble_eq_true rfl, Nat.le_of_ble_eq_true rfl⟩) (hK.sub [0] rfl) hK hP hD hS hA hN rfl rfl (by decide) (by decide) (by decide) (by decide) (fun _ => rfl) rfl rfl rfl rfl hl.1 rfl (Nat.le_of_ble_eq_true rfl) dX5_count_176 ⟨Nat.zero_le _, Nat.zero_le _⟩ (fun r_176 u_176 H locs hw_176 hP hD hS => ?_)
                      have hP : va_P (dC, dI) vwCl ((xO x X) ++ (fO ((fun i => x (1 + i)))) ++ (pW ((fun i => x (2 + i))) cI P) ++ (rW ((fun i => x (7 + i))) cI 3 18 No) ++ (rW ((fun i => x (9 + i))) cI 4 24 Ma) ++ (rW ((fun i => x (11 + i))) cI 9 72 Pa) ++ ([(x 15, .inl (cI, 3, .inl Rf))])) H := hP
                      have hD : va_D A ((xO x X) ++ (fO ((fun i => x (1 + i)))) ++ (pW ((fun i => x (2 + i))) cI P) ++ (rW ((fun i => x (7 + i))) cI 3 18 No) ++ (rW ((fun i => x (9 + i))) cI 4 24 Ma) ++ (rW ((fun i => x (11 + i))) cI 9 72 Pa) ++ ([(x 15, .inl (cI, 3, .inl Rf))])) := hD
                      rw [hw_176, let1_mk r_176] at hF
                      have hP9 : va_P (dC, dI) vwCl ((xO x X) ++ (fO ((fun i => x (1 + i)))) ++ (pW ((fun i => x (2 + i))) cI P) ++ (rW ((fun i => x (7 + i))) cI 3 18 No) ++ (rW ((fun i => x (9 + i))) cI 4 24 Ma) ++ (rW ((fun i => x (11 + i))) cI 9 72 Pa) ++ ([(x 15, .inl (cI, 3, .inl Rf))])) H := hP
                      exact W.iret (v := r_176) hx hb hr (fun t ht hW => ⟨⟨_, (Rf), rfl, hO.symm.trans hF, by rw [ht]; exact hP9, va_K.moved hW.alike hK, hD⟩, hS.F ht⟩) hS.2.2 dX5_count_179
                    · rw [if_neg c_1_9] at hF
                      by_cases c_1_10 : wh = nI 10
                      · rw [if_pos c_1_10] at hF
                        refine lv_tableIn (off := 179) (tgt := 180) hx hb dX5_count_1 (by rw [c_1_10]; decide) (by rw [c_1_10]; decide) (by rw [c_1_10]; rfl) (by decide) ?_
                        refine lv_aload_n hx hb dX5_count_180 rfl (lv_at hl 0 rfl) ?_
                        refine va_get (D := (dC, dI)) (ci := 5) (v := .ref (x 1)) (C := RX5) (T := TX5) (N := 14) hx hb hts hin5 hown hK hP 0 rfl rfl 0 (by decide) lk12 (fun _ h9 => h9) rfl dX5_count_181 ?_
                        refine va_get (D := (dC, dI)) (ci := 1) (v := .ref (x 11)) (C := RX1) (T := TX1) (N := 5) hx hb hts hin1 hown hK hP 1 rfl rfl 4 (by decide) lk88 (fun _ h9 => h9) rfl dX5_count_184 ?_
                        refine qx_Vi (C := RX4) (As := []) (rest := []) (ci := 4) (k0 := 10) (wr := (xO x X) ++ (fO ((fun i => x (1 + i)))) ++ (pW ((fun i => x (2 + i))) cI P) ++ (rW ((fun i => x (7 + i))) cI 3 18 No) ++ (rW ((fun i => x (9 + i))) cI 4 24 Ma) ++ ([(x 15, .inl (cI, 3, .inl Rf))])) (ws2 := fun u => (xO x X) ++ (fO ((fun i => x (1 + i)))) ++ (pW ((fun i => x (2 + i))) cI P) ++ (rW ((fun i => x (7 + i))) cI 3 18 No) ++ (rW ((fun i => x (9 + i))) cI 4 24 Ma) ++ (rW ((fun i => x (11 + i))) cI 9 72 Pa) ++ ([(x 15, .inl (cI, 3, .inl Rf))])) [10, 11] [0, 1, 2, 3, 4, 5, 6, 7, 8, 9, 12] [0, 1, 2, 3, 4, 5, 6, 7, 8, 9, 11, 12, 10] ⟨hx, hb, hml, hown, hts⟩ (c_X4_size_v9 l dC dI (fun i => x (11 + i)) cI s.heap.size Pa  (ppa : inB (Rus Pa) 72)) (cwV 0 hts gX5_count_X4_size rfl rfl rfl (by decide +kernel) ⟨Nat.le_of_ble_eq_true rfl, Nat.le_of_ble_eq_true rfl⟩) (hK.sub [0] rfl) hK hP hD hS hA hN rfl rfl (by decide) (by decide) (by decide) (by decide) (fun _ => rfl) rfl rfl rfl rfl hl.1 rfl (Nat.le_of_ble_eq_true rfl) dX5_count_187 ⟨Nat.zero_le _, Nat.zero_le _⟩ (fun r_187 u_187 H locs hw_187 hP hD hS => ?_)
                        have hP : va_P (dC, dI) vwCl ((xO x X) ++ (fO ((fun i => x (1 + i)))) ++ (pW ((fun i => x (2 + i))) cI P) ++ (rW ((fun i => x (7 + i))) cI 3 18 No) ++ (rW ((fun i => x (9 + i))) cI 4 24 Ma) ++ (rW ((fun i => x (11 + i))) cI 9 72 Pa) ++ ([(x 15, .inl (cI, 3, .inl Rf))])) H := hP
                        have hD : va_D A ((xO x X) ++ (fO ((fun i => x (1 + i)))) ++ (pW ((fun i => x (2 + i))) cI P) ++ (rW ((fun i => x (7 + i))) cI 3 18 No) ++ (rW ((fun i => x (9 + i))) cI 4 24 Ma) ++ (rW ((fun i => x (11 + i))) cI 9 72 Pa) ++ ([(x 15, .inl (cI, 3, .inl Rf))])) := hD
                        rw [hw_187, let1_mk r_187] at hF
                        have hP9 : va_P (dC, dI) vwCl ((xO x X) ++ (fO ((fun i => x (1 + i)))) ++ (pW ((fun i => x (2 + i))) cI P) ++ (rW ((fun i => x (7 + i))) cI 3 18 No) ++ (rW ((fun i => x (9 + i))) cI 4 24 Ma) ++ (rW ((fun i => x (11 + i))) cI 9 72 Pa) ++ ([(x 15, .inl (cI, 3, .inl Rf))])) H := hP
                        exact W.iret (v := r_187) hx hb hr (fun t ht hW => ⟨⟨_, (Rf), rfl, hO.symm.trans hF, by rw [ht]; exact hP9, va_K.moved hW.alike hK, hD⟩, hS.F ht⟩) hS.2.2 dX5_count_190
                      · rw [if_neg c_1_10] at hF
                        by_cases c_1_11 : wh = nI 11
                        · rw [if_pos c_1_11] at hF
                          refine lv_tableIn (off := 190) (tgt := 191) hx hb dX5_count_1 (by rw [c_1_11]; decide) (by rw [c_1_11]; decide) (by rw [c_1_11]; rfl) (by decide) ?_
                          refine lv_aload_n hx hb dX5_count_191 rfl (lv_at hl 0 rfl) ?_
                          refine va_get (D := (dC, dI)) (ci := 5) (v := .int (Xtl X)) (C := RX5) (T := TX5) (N := 14) hx hb hts hin5 hown hK hP 0 rfl rfl 3 (by decide) lk105 (fun _ h9 => h9) rfl dX5_count_192 ?_
                          have hP9 : va_P (dC, dI) vwCl ((xO x X) ++ (fO ((fun i => x (1 + i)))) ++ (pW ((fun i => x (2 + i))) cI P) ++ (rW ((fun i => x (7 + i))) cI 3 18 No) ++ (rW ((fun i => x (9 + i))) cI 4 24 Ma) ++ (rW ((fun i => x (11 + i))) cI 9 72 Pa) ++ ([(x 15, .inl (cI, 3, .inl Rf))])) s.heap := hP
                          exact W.iret (v := Xtl X) hx hb hr (fun t ht hW => ⟨⟨_, (Rf), rfl, hO.symm.trans hF, by rw [ht]; exact hP9, va_K.moved hW.alike hK, hD⟩, hS.F ht⟩) hS.2.2 dX5_count_195
                        · rw [if_neg c_1_11] at hF
                          have e_1_0 := qn_ne c_1_0 (by decide)
                          have e_1_1 := qn_ne c_1_1 (by decide)
                          have e_1_2 := qn_ne c_1_2 (by decide)
                          have e_1_3 := qn_ne c_1_3 (by decide)
                          have e_1_4 := qn_ne c_1_4 (by decide)
                          have e_1_5 := qn_ne c_1_5 (by decide)
                          have e_1_6 := qn_ne c_1_6 (by decide)
                          have e_1_7 := qn_ne c_1_7 (by decide)
                          have e_1_8 := qn_ne c_1_8 (by decide)
                          have e_1_9 := qn_ne c_1_9 (by decide)
                          have e_1_10 := qn_ne c_1_10 (by decide)
                          have e_1_11 := qn_ne c_1_11 (by decide)
                          refine lv_tableOut (tgt := 196) hx hb dX5_count_1 (by omega) (by decide) ?_
                          refine lv_aload_n hx hb dX5_count_196 rfl (lv_at hl 0 rfl) ?_
                          refine lv_bipush (v := (-2)) hx hb dX5_count_197 (by decide) ?_
                          refine qx_Vi (C := RX5) (As := [.int ((-2))]) (rest := []) (ci := 5) (k0 := 0) (wr := (fO ((fun i => x (1 + i)))) ++ (pW ((fun i => x (2 + i))) cI P) ++ (rW ((fun i => x (7 + i))) cI 3 18 No) ++ (rW ((fun i => x (9 + i))) cI 4 24 Ma) ++ (rW ((fun i => x (11 + i))) cI 9 72 Pa)) (ws2 := fun u => (xO x X) ++ (fO ((fun i => x (1 + i)))) ++ (pW ((fun i => x (2 + i))) cI P) ++ (rW ((fun i => x (7 + i))) cI 3 18 No) ++ (rW ((fun i => x (9 + i))) cI 4 24 Ma) ++ (rW ((fun i => x (11 + i))) cI 9 72 Pa) ++ ([(x 15, .inl (cI, 3, .inl u))])) [0, 12] [1, 2, 3, 4, 5, 6, 7, 8, 9, 10, 11] [11, 0, 1, 2, 3, 4, 5, 6, 7, 8, 9, 10, 12] ⟨hx, hb, hml, hown, hts⟩ (c_X5_refuse l dC dI x cI s.heap.size X Rf ((-2)) ) (cwV 1 hts gX5_count_X5_refuse rfl rfl rfl (by decide +kernel) ⟨Nat.le_of_ble_eq_true rfl, Nat.le_of_ble_eq_true rfl⟩) (hK.sub [0] rfl) hK hP hD hS hA hN rfl rfl (by decide) (by decide) (by decide) (by decide) (fun _ => rfl) rfl rfl rfl rfl hl.1 rfl (Nat.le_of_ble_eq_true rfl) dX5_count_199 ⟨Nat.zero_le _, Nat.zero_le _⟩ (fun r_199 u_199 H locs hw_199 hP hD hS => ?_)
                          obtain ⟨Rf_199, rfl⟩ : ∃ z, z = u_199 := ⟨_, rfl⟩
                          have hP : va_P (dC, dI) vwCl ((xO x X) ++ (fO ((fun i => x (1 + i)))) ++ (pW ((fun i => x (2 + i))) cI P) ++ (rW ((fun i => x (7 + i))) cI 3 18 No) ++ (rW ((fun i => x (9 + i))) cI 4 24 Ma) ++ (rW ((fun i => x (11 + i))) cI 9 72 Pa) ++ ([(x 15, .inl (cI, 3, .inl Rf_199))])) H := hP
                          have hD : va_D A ((xO x X) ++ (fO ((fun i => x (1 + i)))) ++ (pW ((fun i => x (2 + i))) cI P) ++ (rW ((fun i => x (7 + i))) cI 3 18 No) ++ (rW ((fun i => x (9 + i))) cI 4 24 Ma) ++ (rW ((fun i => x (11 + i))) cI 9 72 Pa) ++ ([(x 15, .inl (cI, 3, .inl Rf_199))])) := hD
                          rw [hw_199, let2_mk r_199 Rf_199] at hF
                          have hP9 : va_P (dC, dI) vwCl ((xO x X) ++ (fO ((fun i => x (1 + i)))) ++ (pW ((fun i => x (2 + i))) cI P) ++ (rW ((fun i => x (7 + i))) cI 3 18 No) ++ (rW ((fun i => x (9 + i))) cI 4 24 Ma) ++ (rW ((fun i => x (11 + i))) cI 9 72 Pa) ++ ([(x 15, .inl (cI, 3, .inl Rf_199))])) H := hP
                          exact W.iret (v := r_199) hx hb hr (fun t ht hW => ⟨⟨_, (Rf_199), rfl, hO.symm.trans hF, by rw [ht]; exact hP9, va_K.moved hW.alike hK, hD⟩, hS.F ht⟩) hS.2.2 dX5_count_202
def F_X5_digest_L91 : Nat → (Nat → Int32) → (Nat) → (Int64) → (Nat) × (Int64)
  | 0, _, k2, h4 => (k2, h4)
  | n_91 + 1, Rw, k2, h4 => if 8 ≤ k2 then (k2, h4) else F_X5_digest_L91 n_91 Rw (k2 + 1) ((31 * h4) + ((Rw k2).toInt64))
def F_X5_digest_L50 : Nat → (pS) → (Nat) → (Nat) → (Int64) → (Nat) × (Int64)
  | 0, _, _, w0, h3 => (w0, h3)
  | n_50 + 1, P, i, w0, h3 => if 2 < w0 then (w0, h3) else let1 (F_X2_told P (nI i) (nI w0)) (fun r_71 => F_X5_digest_L50 n_50 P i (w0 + 1) ((31 * h3) + r_71.toInt64))
def F_X5_digest_L33 : Nat → (pS) → (Nat) → (Int64) → (Nat) × (Int64)
  | 0, _, i, h2 => (i, h2)
  | n_33 + 1, P, i, h2 => if tN (Psz P) ≤ i then (i, h2) else let2 (F_X5_digest_L50 4 P i 0 h2) (fun w0 h3 => F_X5_digest_L33 n_33 P (i + 1) h3)
def F_X5_digest_L6 : Nat → (xS) → (pS) → (rS) → (rS) → (rS) → (Nat) → (Int64) → (Nat → Int32) → (Nat) × (Int64) × (Nat → Int32)
  | 0, _, _, _, _, _, k, h1, f1 => (k, h1, f1)
  | n_6 + 1, X, P, No, Ma, Pa, k, h1, f1 => if 12 ≤ k then (k, h1, f1) else let2 (F_X5_count X P No Ma Pa f1 (nI k)) (fun r_19 Rf_19 => F_X5_digest_L6 n_6 X P No Ma Pa (k + 1) ((31 * h1) + r_19.toInt64) Rf_19)
def F_X5_digest (X : xS) (P : pS) (Rw : Nat → Int32) (No : rS) (Ma : rS) (Pa : rS) (Rf : Nat → Int32) : Int64 × (Nat → Int32) := let3 (F_X5_digest_L6 13 X P No Ma Pa 0 1873 Rf) (fun k h1 f1 => let2 (F_X5_digest_L33 7 P 0 h1) (fun i h2 => let2 (F_X5_digest_L91 9 Rw 0 h2) (fun k2 h4 => let1 (F_X4_digestFrom_v3 No h4) (fun r_135 => let1 (F_X4_digestFrom_v4 Ma r_135) (fun r_138 => ((31 * ((31 * r_138) + (Xab X))) + (Xbe X), f1))))))
set_option maxHeartbeats 4000000 in
set_option maxRecDepth 100000 in
theorem c_X5_digest (l : Launch) (dC : Nat → ClassId) (dI : Nat → Nat → Nat) (x : Nat → Nat) (cI : ClassId) (sz : Nat) (X : xS) (P : pS) (Rw : Nat → Int32) (No : rS) (Ma : rS) (Pa : rS) (Rf : Nat → Int32) (pz : inB (Psz P) 6) (pno : inB (Rus No) 18) (pma : inB (Rus Ma) 24) (ppa : inB (Rus Pa) 72) : Met l yX5_digest wsX5_digest { frames := 3, cells := 0, slots := 0, locals := 67 } (xPc (dC, dI) vwCl (xT cI) ((xO x X) ++ (fO ((fun i => x (1 + i)))) ++ (pW ((fun i => x (2 + i))) cI P) ++ ([(x 6, .inl (cI, 8, .inl Rw))]) ++ (rW ((fun i => x (7 + i))) cI 3 18 No) ++ (rW ((fun i => x (9 + i))) cI 4 24 Ma) ++ (rW ((fun i => x (11 + i))) cI 9 72 Pa) ++ ([(x 15, .inl (cI, 3, .inl Rf))])) sz [.ref (x 0)]) (va_Ql (fun (r : Int64) (u : (Nat → Int32)) => F_X5_digest X P Rw No Ma Pa Rf = (r, u)) (mB (dC, dI) vwCl (xT cI) (va_A ((xO x X) ++ (fO ((fun i => x (1 + i)))) ++ (pW ((fun i => x (2 + i))) cI P) ++ ([(x 6, .inl (cI, 8, .inl Rw))]) ++ (rW ((fun i => x (7 + i))) cI 3 18 No) ++ (rW ((fun i => x (9 + i))) cI 4 24 Ma) ++ (rW ((fun i => x (11 + i))) cI 9 72 Pa) ++ ([(x 15, .inl (cI, 3, .inl Rf))])) sz) (fun u => (xO x X) ++ (fO ((fun i => x (1 + i)))) ++ (pW ((fun i => x (2 + i))) cI P) ++ ([(x 6, .inl (cI, 8, .inl Rw))]) ++ (rW ((fun i => x (7 + i))) cI 3 18 No) ++ (rW ((fun i => x (9 + i))) cI 4 24 Ma) ++ (rW ((fun i => x (11 + i))) cI 9 72 Pa) ++ ([(x 15, .inl (cI, 3, .inl u))]))) (va_A ((xO x X) ++ (fO ((fun i => x (1 + i)))) ++ (pW ((fun i => x (2 + i))) cI P) ++ ([(x 6, .inl (cI, 8, .inl Rw))]) ++ (rW ((fun i => x (7 + i))) cI 3 18 No) ++ (rW ((fun i => x (9 + i))) cI 4 24 Ma) ++ (rW ((fun i => x (11 + i))) cI 9 72 Pa) ++ ([(x 15, .inl (cI, 3, .inl Rf))])) sz)) 0 0 (va_A ((xO x X) ++ (fO ((fun i => x (1 + i)))) ++ (pW ((fun i => x (2 + i))) cI P) ++ ([(x 6, .inl (cI, 8, .inl Rw))]) ++ (rW ((fun i => x (7 + i))) cI 3 18 No) ++ (rW ((fun i => x (9 + i))) cI 4 24 Ma) ++ (rW ((fun i => x (11 + i))) cI 9 72 Pa) ++ ([(x 15, .inl (cI, 3, .inl Rf))])) sz) := by
  refine Met.ofW (cc := cX5_digest) (maxL := 5) (ret := (some .long)) (by decide) rfl ?_
  intro p e s m args below meth c s₁ B hml hv
  obtain ⟨rfl, hsz, hP, hK, hD0, hN⟩ := hv
  have hx := B.exec
  have hb := B.bytes
  have hr := B.returns
  have hts := atoms_spec (ws := wsX5_digest) B.pre
  have hown : s.vm.findClass RX5 = some m.cls := findClass_of_methodNamed B.named
  have hlocks := B.notSynchronized
  subst hsz
  have hD := hD0.self (sz := s.heap.size)
  generalize hAe : va_A ((xO x X) ++ (fO ((fun i => x (1 + i)))) ++ (pW ((fun i => x (2 + i))) cI P) ++ ([(x 6, .inl (cI, 8, .inl Rw))]) ++ (rW ((fun i => x (7 + i))) cI 3 18 No) ++ (rW ((fun i => x (9 + i))) cI 4 24 Ma) ++ (rW ((fun i => x (11 + i))) cI 9 72 Pa) ++ ([(x 15, .inl (cI, 3, .inl Rf))])) s.heap.size = A at hD ⊢
  have hA : ∀ q : Nat, s.heap.size ≤ q → A q := fun q h => by rw [← hAe]; exact Or.inr h
  have hS : va_S A s.heap s.heap [] := va_S.rf
  have hin1 : ∀ w ∈ wsX10, w ∈ wsX5_digest := by decide +kernel
  have hin2 : ∀ w ∈ wsX20, w ∈ wsX5_digest := by decide +kernel
  have hin5 : ∀ w ∈ wsX50, w ∈ wsX5_digest := by decide +kernel
  have lk12 := hts (.fieldLink RX5 12 "PostRounders" "now" "LPostRounders$Field;") (by decide +kernel)
  have lk24 := hts (.fieldLink RX5 24 "PostRounders" "below" "J") (by decide +kernel)
  have lk74 := hts (.fieldLink RX5 74 "PostRounders$Field" "play" "LPostRounders$Play;") (by decide +kernel)
  have lk77 := hts (.fieldLink RX5 77 "PostRounders$Play" "size" "I") (by decide +kernel)
  have lk150 := hts (.fieldLink RX5 150 "PostRounders$Field" "rowHits" "[I") (by decide +kernel)
  have lk195 := hts (.fieldLink RX5 195 "PostRounders$Field" "notes" "LPostRounders$Rows;") (by decide +kernel)
  have lk204 := hts (.fieldLink RX5 204 "PostRounders$Field" "marks" "LPostRounders$Rows;") (by decide +kernel)
  have lk246 := hts (.fieldLink RX5 246 "PostRounders" "above" "J") (by decide +kernel)
  have hl := lv_entry ([.ref (x 0)]) (n := 5) (Nat.le_of_ble_eq_true rfl)
  rw [lg_entry_eq]
  generalize (lg_sl ([.ref (x 0)]) ++ List.replicate (5 - (lg_sl ([.ref (x 0)])).length) Slot.unset).toArray = ls at hl ⊢
  have hl : lv_has ls 5 [(0, .ref (x 0))] := hl
  obtain ⟨OUT, hO⟩ : ∃ z, z = F_X5_digest X P Rw No Ma Pa Rf := ⟨_, rfl⟩
  have hF := hO
  unfold F_X5_digest at hF
  have e_pz := tN_eq pz.1
  have b_pz := pz.2
  have e_pno := tN_eq pno.1
  have b_pno := pno.2
  have e_pma := tN_eq pma.1
  have b_pma := pma.2
  have e_ppa := tN_eq ppa.1
  have b_ppa := ppa.2
  refine lv_ldc2 (v := 1873) hx hb hown (hts (.constantLong RX5 258 1873) (by decide +kernel)) dX5_digest_0 ?_
  refine lv_lstore_n (lv' := [(1, .long 1873), (0, .ref (x 0))]) hx hb dX5_digest_3 rfl hl (by decide) rfl (fun ls hl => ?_)
  refine lv_iconst (v := nI 0) hx hb dX5_digest_4 (by decide) ?_
  refine lv_istore_n (lv' := [(3, .int (nI 0)), (1, .long 1873), (0, .ref (x 0))]) hx hb dX5_digest_5 rfl hl (by decide) rfl (fun ls hl => ?_)
  have L_6 : ∀ (n_6 : Nat) (k : Nat) (h1 : Int64) (f1 : Nat → Int32) (H : Heap) (locs : List Loc), k ≤ 12 → 12 - k < n_6 → va_P (dC, dI) vwCl ((xO x X) ++ (fO ((fun i => x (1 + i)))) ++ (pW ((fun i => x (2 + i))) cI P) ++ ([(x 6, .inl (cI, 8, .inl Rw))]) ++ (rW ((fun i => x (7 + i))) cI 3 18 No) ++ (rW ((fun i => x (9 + i))) cI 4 24 Ma) ++ (rW ((fun i => x (11 + i))) cI 9 72 Pa) ++ ([(x 15, .inl (cI, 3, .inl f1))])) H → va_D A ((xO x X) ++ (fO ((fun i => x (1 + i)))) ++ (pW ((fun i => x (2 + i))) cI P) ++ ([(x 6, .inl (cI, 8, .inl Rw))]) ++ (rW ((fun i => x (7 + i))) cI 3 18 No) ++ (rW ((fun i => x (9 + i))) cI 4 24 Ma) ++ (rW ((fun i => x (11 + i))) cI 9 72 Pa) ++ ([(x 15, .inl (cI, 3, .inl f1))])) → va_S A s.heap H locs → ∀ (ls : Array Slot), lv_has ls 5 [(3, .int (nI k)), (1, .long h1), (0, .ref (x 0))] → OUT = let3 (F_X5_digest_L6 n_6 X P No Ma Pa k h1 f1) (fun k h1 f1 => let2 (F_X5_digest_L33 7 P 0 h1) (fun i h2 => let2 (F_X5_digest_L91 9 Rw 0 h2) (fun k2 h4 => let1 (F_X4_digestFrom_v3 No h4) (fun r_135 => let1 (F_X4_digestFrom_v4 Ma r_135) (fun r_138 => ((31 * ((31 * r_138) + (Xab X))) + (Xbe X), f1)))))) → W p l e (headSpec wsX5_digest { frames := 3, cells := 0, slots := 0, locals := 67 }).room s m ([.ref (x 0)] : List Value).toArray below meth c H locs 0 0 (MQ below (va_Ql (fun (r : Int64) (u : (Nat → Int32)) => F_X5_digest X P Rw No Ma Pa Rf = (r, u)) (mB (dC, dI) vwCl (xT cI) A (fun u => (xO x X) ++ (fO ((fun i => x (1 + i)))) ++ (pW ((fun i => x (2 + i))) cI P) ++ ([(x 6, .inl (cI, 8, .inl Rw))]) ++ (rW ((fun i => x (7 + i))) cI 3 18 No) ++ (rW ((fun i => x (9 + i))) cI 4 24 Ma) ++ (rW ((fun i => x (11 + i))) cI 9 72 Pa) ++ ([(x 15, .inl (cI, 3, .inl u))]))) A) ([.ref (x 0)] : List Value).toArray s 0 0 A) (F0 m 6 ls []) := by
    intro n_6
    induction n_6 with
    | zero => intro k h1 f1 H locs i0 hmu; exact absurd hmu (Nat.not_lt_zero _)
    | succ n_6 ih_6 =>
      intro k h1 f1 H locs i0 hmu_6 hP hD hS ls hl hF
      rw [F_X5_digest_L6] at hF
      refine lv_iload_n hx hb dX5_digest_6 rfl (lv_at hl 0 rfl) ?_
      refine lv_bipush (v := nI 12) hx hb dX5_digest_7 (by decide) ?_
      refine qv_icmp_ge (tgt := 31) hx hb dX5_digest_9 (by decide) (by omega) (by omega) (fun c_9 => ?_) (fun c_9 => ?_)
      · rw [if_pos c_9] at hF
        rw [let3_mk (k : Nat) (h1 : Int64) (f1 : Nat → Int32)] at hF
        refine lv_iconst (v := nI 0) hx hb dX5_digest_31 (by decide) ?_
        refine lv_istore_n (lv' := [(3, .int (nI 0)), (1, .long h1), (0, .ref (x 0))]) hx hb dX5_digest_32 rfl hl (by decide) rfl (fun ls hl => ?_)
        have L_33 : ∀ (n_33 : Nat) (i : Nat) (h2 : Int64) (H : Heap) (locs : List Loc), i ≤ tN (Psz P) → tN (Psz P) - i < n_33 → va_P (dC, dI) vwCl ((xO x X) ++ (fO ((fun i => x (1 + i)))) ++ (pW ((fun i => x (2 + i))) cI P) ++ ([(x 6, .inl (cI, 8, .inl Rw))]) ++ (rW ((fun i => x (7 + i))) cI 3 18 No) ++ (rW ((fun i => x (9 + i))) cI 4 24 Ma) ++ (rW ((fun i => x (11 + i))) cI 9 72 Pa) ++ ([(x 15, .inl (cI, 3, .inl f1))])) H → va_D A ((xO x X) ++ (fO ((fun i => x (1 + i)))) ++ (pW ((fun i => x (2 + i))) cI P) ++ ([(x 6, .inl (cI, 8, .inl Rw))]) ++ (rW ((fun i => x (7 + i))) cI 3 18 No) ++ (rW ((fun i => x (9 + i))) cI 4 24 Ma) ++ (rW ((fun i => x (11 + i))) cI 9 72 Pa) ++ ([(x 15, .inl (cI, 3, .inl f1))])) → va_S A s.heap H locs → ∀ (ls : Array Slot), lv_has ls 5 [(3, .int (nI i)), (1, .long h2), (0, .ref (x 0))] → OUT = let2 (F_X5_digest_L33 n_33 P i h2) (fun i h2 => let2 (F_X5_digest_L91 9 Rw 0 h2) (fun k2 h4 => let1 (F_X4_digestFrom_v3 No h4) (fun r_135 => let1 (F_X4_digestFrom_v4 Ma r_135) (fun r_138 => ((31 * ((31 * r_138) + (Xab X))) + (Xbe X), f1))))) → W p l e (headSpec wsX5_digest { frames := 3, cells := 0, slots := 0, locals := 67 }).room s m ([.ref (x 0)] : List Value).toArray below meth c H locs 0 0 (MQ below (va_Ql (fun (r : Int64) (u : (Nat → Int32)) => F_X5_digest X P Rw No Ma Pa Rf = (r, u)) (mB (dC, dI) vwCl (xT cI) A (fun u => (xO x X) ++ (fO ((fun i => x (1 + i)))) ++ (pW ((fun i => x (2 + i))) cI P) ++ ([(x 6, .inl (cI, 8, .inl Rw))]) ++ (rW ((fun i => x (7 + i))) cI 3 18 No) ++ (rW ((fun i => x (9 + i))) cI 4 24 Ma) ++ (rW ((fun i => x (11 + i))) cI 9 72 Pa) ++ ([(x 15, .inl (cI, 3, .inl u))]))) A) ([.ref (x 0)] : List Value).toArray s 0 0 A) (F0 m 33 ls []) := by
          intro n_33
          induction n_33 with
          | zero => intro i h2 H locs j0 hmu; exact absurd hmu (Nat.not_lt_zero _)
          | succ n_33 ih_33 =>
            intro i h2 H locs j0 hmu_33 hP hD hS ls hl hF
            rw [F_X5_digest_L33] at hF
            refine lv_iload_n hx hb dX5_digest_33 rfl (lv_at hl 0 rfl) ?_
            refine lv_aload_n hx hb dX5_digest_34 rfl (lv_at hl 2 rfl) ?_
            refine va_get (D := (dC, dI)) (ci := 5) (v := .ref (x 1)) (C := RX5) (T := TX5) (N := 14) hx hb hts hin5 hown hK hP 0 rfl rfl 0 (by decide) lk12 (fun _ h9 => h9) rfl dX5_digest_35 ?_
            refine va_get (D := (dC, dI)) (ci := 1) (v := .ref (x 2)) (C := RX1) (T := TX1) (N := 5) hx hb hts hin1 hown hK hP 1 rfl rfl 0 (by decide) lk74 (fun _ h9 => h9) rfl dX5_digest_38 ?_
            refine va_get (D := (dC, dI)) (ci := 2) (v := .int (Psz P)) (C := RX2) (T := TX2) (N := 8) hx hb hts hin2 hown hK hP 2 rfl rfl 1 (by decide) lk77 (fun _ h9 => h9) rfl dX5_digest_41 ?_
            refine qv_top (e_pz) ?_
            refine qv_icmp_ge (tgt := 89) hx hb dX5_digest_44 (by decide) (by omega) (by omega) (fun c_44 => ?_) (fun c_44 => ?_)
            · rw [if_pos c_44] at hF
              rw [let2_mk (i : Nat) (h2 : Int64)] at hF
              refine lv_iconst (v := nI 0) hx hb dX5_digest_89 (by decide) ?_
              refine lv_istore_n (lv' := [(3, .int (nI 0)), (1, .long h2), (0, .ref (x 0))]) hx hb dX5_digest_90 rfl hl (by decide) rfl (fun ls hl => ?_)
              have L_91 : ∀ (n_91 : Nat) (k2 : Nat) (h4 : Int64) (H : Heap) (locs : List Loc), k2 ≤ 8 → 8 - k2 < n_91 → va_P (dC, dI) vwCl ((xO x X) ++ (fO ((fun i => x (1 + i)))) ++ (pW ((fun i => x (2 + i))) cI P) ++ ([(x 6, .inl (cI, 8, .inl Rw))]) ++ (rW ((fun i => x (7 + i))) cI 3 18 No) ++ (rW ((fun i => x (9 + i))) cI 4 24 Ma) ++ (rW ((fun i => x (11 + i))) cI 9 72 Pa) ++ ([(x 15, .inl (cI, 3, .inl f1))])) H → va_D A ((xO x X) ++ (fO ((fun i => x (1 + i)))) ++ (pW ((fun i => x (2 + i))) cI P) ++ ([(x 6, .inl (cI, 8, .inl Rw))]) ++ (rW ((fun i => x (7 + i))) cI 3 18 No) ++ (rW ((fun i => x (9 + i))) cI 4 24 Ma) ++ (rW ((fun i => x (11 + i))) cI 9 72 Pa) ++ ([(x 15, .inl (cI, 3, .inl f1))])) → va_S A s.heap H locs → ∀ (ls : Array Slot), lv_has ls 5 [(3, .int (nI k2)), (1, .long h4), (0, .ref (x 0))] → OUT = let2 (F_X5_digest_L91 n_91 Rw k2 h4) (fun k2 h4 => let1 (F_X4_digestFrom_v3 No h4) (fun r_135 => let1 (F_X4_digestFrom_v4 Ma r_135) (fun r_138 => ((31 * ((31 * r_138) + (Xab X))) + (Xbe X), f1)))) → W p l e (headSpec wsX5_digest { frames := 3, cells := 0, slots := 0, locals := 67 }).room s m ([.ref (x 0)] : List Value).toArray below meth c H locs 0 0 (MQ below (va_Ql (fun (r : Int64) (u : (Nat → Int32)) => F_X5_digest X P Rw No Ma Pa Rf = (r, u)) (mB (dC, dI) vwCl (xT cI) A (fun u => (xO x X) ++ (fO ((fun i => x (1 + i)))) ++ (pW ((fun i => x (2 + i))) cI P) ++ ([(x 6, .inl (cI, 8, .inl Rw))]) ++ (rW ((fun i => x (7 + i))) cI 3 18 No) ++ (rW ((fun i => x (9 + i))) cI 4 24 Ma) ++ (rW ((fun i => x (11 + i))) cI 9 72 Pa) ++ ([(x 15, .inl (cI, 3, .inl u))]))) A) ([.ref (x 0)] : List Value).toArray s 0 0 A) (F0 m 91 ls []) := by
                intro n_91
                induction n_91 with
                | zero => intro k2 h4 H locs m0 hmu; exact absurd hmu (Nat.not_lt_zero _)
                | succ n_91 ih_91 =>
                  intro k2 h4 H locs m0 hmu_91 hP hD hS ls hl hF
                  rw [F_X5_digest_L91] at hF
                  refine lv_iload_n hx hb dX5_digest_91 rfl (lv_at hl 0 rfl) ?_
                  refine lv_bipush (v := nI 8) hx hb dX5_digest_92 (by decide) ?_
                  refine qv_icmp_ge (tgt := 120) hx hb dX5_digest_94 (by decide) (by omega) (by omega) (fun c_94 => ?_) (fun c_94 => ?_)
                  · rw [if_pos c_94] at hF
                    rw [let2_mk (k2 : Nat) (h4 : Int64)] at hF
                    refine lv_aload_n hx hb dX5_digest_120 rfl (lv_at hl 2 rfl) ?_
                    refine va_get (D := (dC, dI)) (ci := 5) (v := .ref (x 1)) (C := RX5) (T := TX5) (N := 14) hx hb hts hin5 hown hK hP 0 rfl rfl 0 (by decide) lk12 (fun _ h9 => h9) rfl dX5_digest_121 ?_
                    refine va_get (D := (dC, dI)) (ci := 1) (v := .ref (x 9)) (C := RX1) (T := TX1) (N := 5) hx hb hts hin1 hown hK hP 1 rfl rfl 3 (by decide) lk204 (fun _ h9 => h9) rfl dX5_digest_124 ?_
                    refine lv_aload_n hx hb dX5_digest_127 rfl (lv_at hl 2 rfl) ?_
                    refine va_get (D := (dC, dI)) (ci := 5) (v := .ref (x 1)) (C := RX5) (T := TX5) (N := 14) hx hb hts hin5 hown hK hP 0 rfl rfl 0 (by decide) lk12 (fun _ h9 => h9) rfl dX5_digest_128 ?_
                    refine va_get (D := (dC, dI)) (ci := 1) (v := .ref (x 7)) (C := RX1) (T := TX1) (N := 5) hx hb hts hin1 hown hK hP 1 rfl rfl 2 (by decide) lk195 (fun _ h9 => h9) rfl dX5_digest_131 ?_
                    refine lv_lload_n hx hb dX5_digest_134 rfl (lv_at hl 1 rfl) ?_
                    refine qx_Vl (C := RX4) (As := [.long h4]) (rest := [.ref (x 9)]) (ci := 4) (k0 := 7) (wr := (xO x X) ++ (fO ((fun i => x (1 + i)))) ++ (pW ((fun i => x (2 + i))) cI P) ++ ([(x 6, .inl (cI, 8, .inl Rw))]) ++ (rW ((fun i => x (9 + i))) cI 4 24 Ma) ++ (rW ((fun i => x (11 + i))) cI 9 72 Pa) ++ ([(x 15, .inl (cI, 3, .inl f1))])) (ws2 := fun u => (xO x X) ++ (fO ((fun i => x (1 + i)))) ++ (pW ((fun i => x (2 + i))) cI P) ++ ([(x 6, .inl (cI, 8, .inl Rw))]) ++ (rW ((fun i => x (7 + i))) cI 3 18 No) ++ (rW ((fun i => x (9 + i))) cI 4 24 Ma) ++ (rW ((fun i => x (11 + i))) cI 9 72 Pa) ++ ([(x 15, .inl (cI, 3, .inl f1))])) [7, 8] [0, 1, 2, 3, 4, 5, 6, 9, 10, 11, 12, 13] [0, 1, 2, 3, 4, 5, 6, 12, 13, 7, 8, 9, 10, 11] ⟨hx, hb, hml, hown, hts⟩ (c_X4_digestFrom_v3 l dC dI (fun i => x (7 + i)) cI H.size No h4 (pno : inB (Rus No) 18)) (cwV 1 hts gX5_digest_X4_digestFrom rfl rfl rfl (by decide +kernel) ⟨Nat.le_of_ble_eq_true rfl, Nat.le_of_ble_eq_true rfl⟩) (hK.sub [0] rfl) hK hP hD hS hA hN rfl rfl (by decide) (by decide) (by decide) (by decide) (fun _ => rfl) rfl rfl rfl rfl hl.1 rfl (Nat.le_of_ble_eq_true rfl) dX5_digest_135 ⟨Nat.zero_le _, Nat.zero_le _⟩ (fun r_135 u_135 H locs hw_135 hP hD hS => ?_)
                    have hP : va_P (dC, dI) vwCl ((xO x X) ++ (fO ((fun i => x (1 + i)))) ++ (pW ((fun i => x (2 + i))) cI P) ++ ([(x 6, .inl (cI, 8, .inl Rw))]) ++ (rW ((fun i => x (7 + i))) cI 3 18 No) ++ (rW ((fun i => x (9 + i))) cI 4 24 Ma) ++ (rW ((fun i => x (11 + i))) cI 9 72 Pa) ++ ([(x 15, .inl (cI, 3, .inl f1))])) H := hP
                    have hD : va_D A ((xO x X) ++ (fO ((fun i => x (1 + i)))) ++ (pW ((fun i => x (2 + i))) cI P) ++ ([(x 6, .inl (cI, 8, .inl Rw))]) ++ (rW ((fun i => x (7 + i))) cI 3 18 No) ++ (rW ((fun i => x (9 + i))) cI 4 24 Ma) ++ (rW ((fun i => x (11 + i))) cI 9 72 Pa) ++ ([(x 15, .inl (cI, 3, .inl f1))])) := hD
                    rw [hw_135, let1_mk r_135] at hF
                    refine qx_Vl (C := RX4) (As := [.long r_135]) (rest := []) (ci := 4) (k0 := 9) (wr := (xO x X) ++ (fO ((fun i => x (1 + i)))) ++ (pW ((fun i => x (2 + i))) cI P) ++ ([(x 6, .inl (cI, 8, .inl Rw))]) ++ (rW ((fun i => x (7 + i))) cI 3 18 No) ++ (rW ((fun i => x (11 + i))) cI 9 72 Pa) ++ ([(x 15, .inl (cI, 3, .inl f1))])) (ws2 := fun u => (xO x X) ++ (fO ((fun i => x (1 + i)))) ++ (pW ((fun i => x (2 + i))) cI P) ++ ([(x 6, .inl (cI, 8, .inl Rw))]) ++ (rW ((fun i => x (7 + i))) cI 3 18 No) ++ (rW ((fun i => x (9 + i))) cI 4 24 Ma) ++ (rW ((fun i => x (11 + i))) cI 9 72 Pa) ++ ([(x 15, .inl (cI, 3, .inl f1))])) [9, 10] [0, 1, 2, 3, 4, 5, 6, 7, 8, 11, 12, 13] [0, 1, 2, 3, 4, 5, 6, 7, 8, 12, 13, 9, 10, 11] ⟨hx, hb, hml, hown, hts⟩ (c_X4_digestFrom_v4 l dC dI (fun i => x (9 + i)) cI H.size Ma r_135 (pma : inB (Rus Ma) 24)) (cwV 1 hts gX5_digest_X4_digestFrom rfl rfl rfl (by decide +kernel) ⟨Nat.le_of_ble_eq_true rfl, Nat.le_of_ble_eq_true rfl⟩) (hK.sub [0] rfl) hK hP hD hS hA hN rfl rfl (by decide) (by decide) (by decide) (by decide) (fun _ => rfl) rfl rfl rfl rfl hl.1 rfl (Nat.le_of_ble_eq_true rfl) dX5_digest_138 ⟨Nat.zero_le _, Nat.zero_le _⟩ (fun r_138 u_138 H locs hw_138 hP hD hS => ?_)
                    have hP : va_P (dC, dI) vwCl ((xO x X) ++ (fO ((fun i => x (1 + i)))) ++ (pW ((fun i => x (2 + i))) cI P) ++ ([(x 6, .inl (cI, 8, .inl Rw))]) ++ (rW ((fun i => x (7 + i))) cI 3 18 No) ++ (rW ((fun i => x (9 + i))) cI 4 24 Ma) ++ (rW ((fun i => x (11 + i))) cI 9 72 Pa) ++ ([(x 15, .inl (cI, 3, .inl f1))])) H := hP
                    have hD : va_D A ((xO x X) ++ (fO ((fun i => x (1 + i)))) ++ (pW ((fun i => x (2 + i))) cI P) ++ ([(x 6, .inl (cI, 8, .inl Rw))]) ++ (rW ((fun i => x (7 + i))) cI 3 18 No) ++ (rW ((fun i => x (9 + i))) cI 4 24 Ma) ++ (rW ((fun i => x (11 + i))) cI 9 72 Pa) ++ ([(x 15, .inl (cI, 3, .inl f1))])) := hD
                    rw [hw_138, let1_mk r_138] at hF
                    refine lv_lstore_n (lv' := [(1, .long r_138), (3, .int (nI k2)), (0, .ref (x 0))]) hx hb dX5_digest_141 rfl hl (by decide) rfl (fun ls hl => ?_)
                    refine lv_ldc2 (v := 31) hx hb hown (hts (.constantLong RX5 260 31) (by decide +kernel)) dX5_digest_142 ?_
                    refine lv_ldc2 (v := 31) hx hb hown (hts (.constantLong RX5 260 31) (by decide +kernel)) dX5_digest_145 ?_
                    refine lv_lload_n hx hb dX5_digest_148 rfl (lv_at hl 0 rfl) ?_
                    refine lv_lmul hx hb dX5_digest_149 ?_
                    refine lv_aload_n hx hb dX5_digest_150 rfl (lv_at hl 2 rfl) ?_
                    refine va_get (D := (dC, dI)) (ci := 5) (v := .long (Xab X)) (C := RX5) (T := TX5) (N := 14) hx hb hts hin5 hown hK hP 0 rfl rfl 4 (by decide) lk246 (fun _ h9 => h9) rfl dX5_digest_151 ?_
                    refine lv_ladd hx hb dX5_digest_154 ?_
                    refine lv_lmul hx hb dX5_digest_155 ?_
                    refine lv_aload_n hx hb dX5_digest_156 rfl (lv_at hl 2 rfl) ?_
                    refine va_get (D := (dC, dI)) (ci := 5) (v := .long (Xbe X)) (C := RX5) (T := TX5) (N := 14) hx hb hts hin5 hown hK hP 0 rfl rfl 5 (by decide) lk24 (fun _ h9 => h9) rfl dX5_digest_157 ?_
                    refine lv_ladd hx hb dX5_digest_160 ?_
                    have hP9 : va_P (dC, dI) vwCl ((xO x X) ++ (fO ((fun i => x (1 + i)))) ++ (pW ((fun i => x (2 + i))) cI P) ++ ([(x 6, .inl (cI, 8, .inl Rw))]) ++ (rW ((fun i => x (7 + i))) cI 3 18 No) ++ (rW ((fun i => x (9 + i))) cI 4 24 Ma) ++ (rW ((fun i => x (11 + i))) cI 9 72 Pa) ++ ([(x 15, .inl (cI, 3, .inl f1))])) H := hP
                    exact W.lret (v := (31 * ((31 * r_138) + (Xab X))) + (Xbe X)) hx hb hr (fun t ht hW => ⟨⟨_, (f1), rfl, hO.symm.trans hF, by rw [ht]; exact hP9, va_K.moved hW.alike hK, hD⟩, hS.F ht⟩) hS.2.2 dX5_digest_161
                  · rw [if_neg c_94] at hF
                    refine lv_ldc2 (v := 31) hx hb hown (hts (.constantLong RX5 260 31) (by decide +kernel)) dX5_digest_97 ?_
                    refine lv_lload_n hx hb dX5_digest_100 rfl (lv_at hl 1 rfl) ?_
                    refine lv_lmul hx hb dX5_digest_101 ?_
                    refine lv_aload_n hx hb dX5_digest_102 rfl (lv_at hl 2 rfl) ?_
                    refine va_get (D := (dC, dI)) (ci := 5) (v := .ref (x 1)) (C := RX5) (T := TX5) (N := 14) hx hb hts hin5 hown hK hP 0 rfl rfl 0 (by decide) lk12 (fun _ h9 => h9) rfl dX5_digest_103 ?_
                    refine va_get (D := (dC, dI)) (ci := 1) (v := .ref (x 6)) (C := RX1) (T := TX1) (N := 5) hx hb hts hin1 hown hK hP 1 rfl rfl 1 (by decide) lk150 (fun _ h9 => h9) rfl dX5_digest_106 ?_
                    refine lv_iload_n hx hb dX5_digest_109 rfl (lv_at hl 0 rfl) ?_
                    refine qv_ald (v := Rw k2) hx hb hK hP 6 0 rfl rfl (by omega) (by decide) (rfl) dX5_digest_110 ?_
                    refine lv_i2l hx hb dX5_digest_111 rfl ?_
                    refine lv_ladd hx hb dX5_digest_112 ?_
                    refine lv_lstore_n (lv' := [(1, .long ((31 * h4) + ((Rw k2).toInt64))), (3, .int (nI k2)), (0, .ref (x 0))]) hx hb dX5_digest_113 rfl hl (by decide) rfl (fun ls hl => ?_)
                    refine lv_iinc (v := nI (k2 + 1)) (lv' := [(3, .int (nI (k2 + 1))), (1, .long ((31 * h4) + ((Rw k2).toInt64))), (0, .ref (x 0))]) hx hb dX5_digest_114 hl (k := 1) rfl (qn_inc (c := 1) rfl (by omega)) (by decide) rfl (fun ls hl => ?_)
                    refine lv_goto (tgt := 91) hx hb dX5_digest_117 (by decide) ?_
                    exact ih_91 (k2 + 1) ((31 * h4) + ((Rw k2).toInt64)) H locs (by omega) (by omega) hP hD hS ls (lv_sub hl [0, 1, 2] rfl) hF
              exact L_91 9 0 h2 H locs (by omega) (by omega) hP hD hS ls (lv_sub hl [0, 1, 2] rfl) hF
            · rw [if_neg c_44] at hF
              refine lv_iconst (v := nI 0) hx hb dX5_digest_47 (by decide) ?_
              refine lv_istore (lv' := [(4, .int (nI 0)), (3, .int (nI i)), (1, .long h2), (0, .ref (x 0))]) hx hb dX5_digest_48 hl (by decide) rfl (fun ls hl => ?_)
              have L_50 : ∀ (n_50 : Nat) (w0 : Nat) (h3 : Int64) (H : Heap) (locs : List Loc), w0 ≤ 3 → 3 - w0 < n_50 → va_P (dC, dI) vwCl ((xO x X) ++ (fO ((fun i => x (1 + i)))) ++ (pW ((fun i => x (2 + i))) cI P) ++ ([(x 6, .inl (cI, 8, .inl Rw))]) ++ (rW ((fun i => x (7 + i))) cI 3 18 No) ++ (rW ((fun i => x (9 + i))) cI 4 24 Ma) ++ (rW ((fun i => x (11 + i))) cI 9 72 Pa) ++ ([(x 15, .inl (cI, 3, .inl f1))])) H → va_D A ((xO x X) ++ (fO ((fun i => x (1 + i)))) ++ (pW ((fun i => x (2 + i))) cI P) ++ ([(x 6, .inl (cI, 8, .inl Rw))]) ++ (rW ((fun i => x (7 + i))) cI 3 18 No) ++ (rW ((fun i => x (9 + i))) cI 4 24 Ma) ++ (rW ((fun i => x (11 + i))) cI 9 72 Pa) ++ ([(x 15, .inl (cI, 3, .inl f1))])) → va_S A s.heap H locs → ∀ (ls : Array Slot), lv_has ls 5 [(4, .int (nI w0)), (3, .int (nI i)), (1, .long h3), (0, .ref (x 0))] → OUT = let2 (let2 (F_X5_digest_L50 n_50 P i w0 h3) (fun w0 h3 => F_X5_digest_L33 n_33 P (i + 1) h3)) (fun i h2 => let2 (F_X5_digest_L91 9 Rw 0 h2) (fun k2 h4 => let1 (F_X4_digestFrom_v3 No h4) (fun r_135 => let1 (F_X4_digestFrom_v4 Ma r_135) (fun r_138 => ((31 * ((31 * r_138) + (Xab X))) + (Xbe X), f1))))) → W p l e (headSpec wsX5_digest { frames := 3, cells := 0, slots := 0, locals := 67 }).room s m ([.ref (x 0)] : List Value).toArray below meth c H locs 0 0 (MQ below (va_Ql (fun (r : Int64) (u : (Nat → Int32)) => F_X5_digest X P Rw No Ma Pa Rf = (r, u)) (mB (dC, dI) vwCl (xT cI) A (fun u => (xO x X) ++ (fO ((fun i => x (1 + i)))) ++ (pW ((fun i => x (2 + i))) cI P) ++ ([(x 6, .inl (cI, 8, .inl Rw))]) ++ (rW ((fun i => x (7 + i))) cI 3 18 No) ++ (rW ((fun i => x (9 + i))) cI 4 24 Ma) ++ (rW ((fun i => x (11 + i))) cI 9 72 Pa) ++ ([(x 15, .inl (cI, 3, .inl u))]))) A) ([.ref (x 0)] : List Value).toArray s 0 0 A) (F0 m 50 ls []) := by
                intro n_50
                induction n_50 with
                | zero => intro w0 h3 H locs l0 hmu; exact absurd hmu (Nat.not_lt_zero _)
                | succ n_50 ih_50 =>
                  intro w0 h3 H locs l0 hmu_50 hP hD hS ls hl hF
                  rw [F_X5_digest_L50] at hF
                  refine lv_iload hx hb dX5_digest_50 (lv_at hl 0 rfl) ?_
                  refine lv_iconst (v := nI 2) hx hb dX5_digest_52 (by decide) ?_
                  refine qv_icmp_gt (tgt := 83) hx hb dX5_digest_53 (by decide) (by omega) (by omega) (fun c_53 => ?_) (fun c_53 => ?_)
                  · rw [if_pos c_53] at hF
                    rw [let2_mk (w0 : Nat) (h3 : Int64)] at hF
                    refine lv_iinc (v := nI (i + 1)) (lv' := [(3, .int (nI (i + 1))), (4, .int (nI w0)), (1, .long h3), (0, .ref (x 0))]) hx hb dX5_digest_83 hl (k := 1) rfl (qn_inc (c := 1) rfl (by omega)) (by decide) rfl (fun ls hl => ?_)
                    refine lv_goto (tgt := 33) hx hb dX5_digest_86 (by decide) ?_
                    exact ih_33 (i + 1) h3 H locs (by omega) (by omega) hP hD hS ls (lv_sub hl [0, 2, 3] rfl) hF
                  · rw [if_neg c_53] at hF
                    refine lv_ldc2 (v := 31) hx hb hown (hts (.constantLong RX5 260 31) (by decide +kernel)) dX5_digest_56 ?_
                    refine lv_lload_n hx hb dX5_digest_59 rfl (lv_at hl 2 rfl) ?_
                    refine lv_lmul hx hb dX5_digest_60 ?_
                    refine lv_aload_n hx hb dX5_digest_61 rfl (lv_at hl 3 rfl) ?_
                    refine va_get (D := (dC, dI)) (ci := 5) (v := .ref (x 1)) (C := RX5) (T := TX5) (N := 14) hx hb hts hin5 hown hK hP 0 rfl rfl 0 (by decide) lk12 (fun _ h9 => h9) rfl dX5_digest_62 ?_
                    refine va_get (D := (dC, dI)) (ci := 1) (v := .ref (x 2)) (C := RX1) (T := TX1) (N := 5) hx hb hts hin1 hown hK hP 1 rfl rfl 0 (by decide) lk74 (fun _ h9 => h9) rfl dX5_digest_65 ?_
                    refine lv_iload_n hx hb dX5_digest_68 rfl (lv_at hl 1 rfl) ?_
                    refine lv_iload hx hb dX5_digest_69 (lv_at hl 0 rfl) ?_
                    refine qx_Vi (C := RX2) (As := [.int (nI i), .int (nI w0)]) (rest := [.long (31 * h3)]) (ci := 2) (k0 := 2) (wr := (xO x X) ++ (fO ((fun i => x (1 + i)))) ++ ([(x 6, .inl (cI, 8, .inl Rw))]) ++ (rW ((fun i => x (7 + i))) cI 3 18 No) ++ (rW ((fun i => x (9 + i))) cI 4 24 Ma) ++ (rW ((fun i => x (11 + i))) cI 9 72 Pa) ++ ([(x 15, .inl (cI, 3, .inl f1))])) (ws2 := fun u => (xO x X) ++ (fO ((fun i => x (1 + i)))) ++ (pW ((fun i => x (2 + i))) cI P) ++ ([(x 6, .inl (cI, 8, .inl Rw))]) ++ (rW ((fun i => x (7 + i))) cI 3 18 No) ++ (rW ((fun i => x (9 + i))) cI 4 24 Ma) ++ (rW ((fun i => x (11 + i))) cI 9 72 Pa) ++ ([(x 15, .inl (cI, 3, .inl f1))])) [2, 3, 4, 5] [0, 1, 6, 7, 8, 9, 10, 11, 12, 13] [0, 1, 10, 11, 12, 13, 2, 3, 4, 5, 6, 7, 8, 9] ⟨hx, hb, hml, hown, hts⟩ (c_X2_told l dC dI (fun i => x (2 + i)) cI H.size P (nI i) (nI w0) (pz : inB (Psz P) 6)) (cwV 2 hts gX5_digest_X2_told rfl rfl rfl (by decide +kernel) ⟨Nat.le_of_ble_eq_true rfl, Nat.le_of_ble_eq_true rfl⟩) (hK.sub [0] rfl) hK hP hD hS hA hN rfl rfl (by decide) (by decide) (by decide) (by decide) (fun _ => rfl) rfl rfl rfl rfl hl.1 rfl (Nat.le_of_ble_eq_true rfl) dX5_digest_71 ⟨Nat.zero_le _, Nat.zero_le _⟩ (fun r_71 u_71 H locs hw_71 hP hD hS => ?_)
                    have hP : va_P (dC, dI) vwCl ((xO x X) ++ (fO ((fun i => x (1 + i)))) ++ (pW ((fun i => x (2 + i))) cI P) ++ ([(x 6, .inl (cI, 8, .inl Rw))]) ++ (rW ((fun i => x (7 + i))) cI 3 18 No) ++ (rW ((fun i => x (9 + i))) cI 4 24 Ma) ++ (rW ((fun i => x (11 + i))) cI 9 72 Pa) ++ ([(x 15, .inl (cI, 3, .inl f1))])) H := hP
                    have hD : va_D A ((xO x X) ++ (fO ((fun i => x (1 + i)))) ++ (pW ((fun i => x (2 + i))) cI P) ++ ([(x 6, .inl (cI, 8, .inl Rw))]) ++ (rW ((fun i => x (7 + i))) cI 3 18 No) ++ (rW ((fun i => x (9 + i))) cI 4 24 Ma) ++ (rW ((fun i => x (11 + i))) cI 9 72 Pa) ++ ([(x 15, .inl (cI, 3, .inl f1))])) := hD
                    rw [hw_71, let1_mk r_71] at hF
                    refine lv_i2l hx hb dX5_digest_74 rfl ?_
                    refine lv_ladd hx hb dX5_digest_75 ?_
                    refine lv_lstore_n (lv' := [(1, .long ((31 * h3) + r_71.toInt64)), (4, .int (nI w0)), (3, .int (nI i)), (0, .ref (x 0))]) hx hb dX5_digest_76 rfl hl (by decide) rfl (fun ls hl => ?_)
                    refine lv_iinc (v := nI (w0 + 1)) (lv' := [(4, .int (nI (w0 + 1))), (1, .long ((31 * h3) + r_71.toInt64)), (3, .int (nI i)), (0, .ref (x 0))]) hx hb dX5_digest_77 hl (k := 1) rfl (qn_inc (c := 1) rfl (by omega)) (by decide) rfl (fun ls hl => ?_)
                    refine lv_goto (tgt := 50) hx hb dX5_digest_80 (by decide) ?_
                    exact ih_50 (w0 + 1) ((31 * h3) + r_71.toInt64) H locs (by omega) (by omega) hP hD hS ls (lv_sub hl [0, 2, 1, 3] rfl) hF
              exact L_50 4 0 h2 H locs (by omega) (by omega) hP hD hS ls (lv_sub hl [0, 1, 2, 3] rfl) hF
        exact L_33 7 0 h1 H locs (by omega) (by omega) hP hD hS ls (lv_sub hl [0, 1, 2] rfl) hF
      · rw [if_neg c_9] at hF
        refine lv_ldc2 (v := 31) hx hb hown (hts (.constantLong RX5 260 31) (by decide +kernel)) dX5_digest_12 ?_
        refine lv_lload_n hx hb dX5_digest_15 rfl (lv_at hl 1 rfl) ?_
        refine lv_lmul hx hb dX5_digest_16 ?_
        refine lv_aload_n hx hb dX5_digest_17 rfl (lv_at hl 2 rfl) ?_
        refine lv_iload_n hx hb dX5_digest_18 rfl (lv_at hl 0 rfl) ?_
        refine qx_Vi (C := RX5) (As := [.int (nI k)]) (rest := [.long (31 * h1)]) (ci := 5) (k0 := 0) (wr := ([(x 6, .inl (cI, 8, .inl Rw))])) (ws2 := fun u => (xO x X) ++ (fO ((fun i => x (1 + i)))) ++ (pW ((fun i => x (2 + i))) cI P) ++ ([(x 6, .inl (cI, 8, .inl Rw))]) ++ (rW ((fun i => x (7 + i))) cI 3 18 No) ++ (rW ((fun i => x (9 + i))) cI 4 24 Ma) ++ (rW ((fun i => x (11 + i))) cI 9 72 Pa) ++ ([(x 15, .inl (cI, 3, .inl u))])) [0, 1, 2, 3, 4, 5, 7, 8, 9, 10, 11, 12, 13] [6] [1, 2, 3, 4, 5, 6, 0, 7, 8, 9, 10, 11, 12, 13] ⟨hx, hb, hml, hown, hts⟩ (c_X5_count l dC dI x cI H.size X P No Ma Pa f1 (nI k) (pz : inB (Psz P) 6) (pno : inB (Rus No) 18) (pma : inB (Rus Ma) 24) (ppa : inB (Rus Pa) 72)) (cwV 1 hts gX5_digest_X5_count rfl rfl rfl (by decide +kernel) ⟨Nat.le_of_ble_eq_true rfl, Nat.le_of_ble_eq_true rfl⟩) (hK.sub [0] rfl) hK hP hD hS hA hN rfl rfl (by decide) (by decide) (by decide) (by decide) (fun _ => rfl) rfl rfl rfl rfl hl.1 rfl (Nat.le_of_ble_eq_true rfl) dX5_digest_19 ⟨Nat.zero_le _, Nat.zero_le _⟩ (fun r_19 u_19 H locs hw_19 hP hD hS => ?_)
        obtain ⟨Rf_19, rfl⟩ : ∃ z, z = u_19 := ⟨_, rfl⟩
        have hP : va_P (dC, dI) vwCl ((xO x X) ++ (fO ((fun i => x (1 + i)))) ++ (pW ((fun i => x (2 + i))) cI P) ++ ([(x 6, .inl (cI, 8, .inl Rw))]) ++ (rW ((fun i => x (7 + i))) cI 3 18 No) ++ (rW ((fun i => x (9 + i))) cI 4 24 Ma) ++ (rW ((fun i => x (11 + i))) cI 9 72 Pa) ++ ([(x 15, .inl (cI, 3, .inl Rf_19))])) H := hP
        have hD : va_D A ((xO x X) ++ (fO ((fun i => x (1 + i)))) ++ (pW ((fun i => x (2 + i))) cI P) ++ ([(x 6, .inl (cI, 8, .inl Rw))]) ++ (rW ((fun i => x (7 + i))) cI 3 18 No) ++ (rW ((fun i => x (9 + i))) cI 4 24 Ma) ++ (rW ((fun i => x (11 + i))) cI 9 72 Pa) ++ ([(x 15, .inl (cI, 3, .inl Rf_19))])) := hD
        rw [hw_19, let2_mk r_19 Rf_19] at hF
        refine lv_i2l hx hb dX5_digest_22 rfl ?_
        refine lv_ladd hx hb dX5_digest_23 ?_
        refine lv_lstore_n (lv' := [(1, .long ((31 * h1) + r_19.toInt64)), (3, .int (nI k)), (0, .ref (x 0))]) hx hb dX5_digest_24 rfl hl (by decide) rfl (fun ls hl => ?_)
        refine lv_iinc (v := nI (k + 1)) (lv' := [(3, .int (nI (k + 1))), (1, .long ((31 * h1) + r_19.toInt64)), (0, .ref (x 0))]) hx hb dX5_digest_25 hl (k := 1) rfl (qn_inc (c := 1) rfl (by omega)) (by decide) rfl (fun ls hl => ?_)
        refine lv_goto (tgt := 6) hx hb dX5_digest_28 (by decide) ?_
        exact ih_6 (k + 1) ((31 * h1) + r_19.toInt64) Rf_19 H locs (by omega) (by omega) hP hD hS ls (lv_sub hl [0, 1, 2] rfl) hF
  exact L_6 13 0 1873 Rf s.heap [] (by omega) (by omega) hP hD hS ls (lv_sub hl [0, 1, 2] rfl) hF
theorem ball_at {P P' : pS} {h r : Int32} (e : F_X2_ball P h = (r, P')) : Psz P' = Psz P := by
  unfold F_X2_ball at e
  simp only [let1, let2] at e
  have g := runBall_at (P := P) (n := F_X2_postsBy P h) (r := (F_X2_runBall P (F_X2_postsBy P h)).1) (P' := (F_X2_runBall P (F_X2_postsBy P h)).2) rfl
  rw [← (Prod.mk.inj e).2]
  exact g.1
def F_X5_days_L50 : Nat → (Int32) → (Int64) → (Int32) → (Nat) → (pS) → (Int64) × (Int32) × (Nat) × (pS)
  | 0, _, x1, gn, k, T1 => (x1, gn, k, T1)
  | n_50 + 1, n, x1, gn, k, T1 => if tN n ≤ k then (x1, gn, k, T1) else let1 (F_X2_isDone T1) (fun z_60 => if z_60 = true then (x1, gn, k, T1) else let2 (F_X2_ball T1 ((((((x1 * 1103515245) + 12345) - ((x1 * 1103515245) + 12345) / 2147483648 * 2147483648) / 65536) - ((((x1 * 1103515245) + 12345) - ((x1 * 1103515245) + 12345) / 2147483648 * 2147483648) / 65536) / 10 * 10).toInt32)) (fun r_96 Tr_96 => F_X5_days_L50 n_50 n (((x1 * 1103515245) + 12345) - ((x1 * 1103515245) + 12345) / 2147483648 * 2147483648) (gn + r_96) (k + 1) Tr_96))
def F_X5_days (P : pS) (Rf : Nat → Int32) (Tr : pS) (sd : Int32) (n : Int32) : Int32 × (pS) × (Nat → Int32) := if (F_X5_within sd (nI 0) 999999) = true then (if (F_X5_within n (nI 0) (nI 60)) = true then let1 (F_X2_copy Tr P) (fun Tr_38 => let4 (F_X5_days_L50 61 n sd.toInt64 (nI 0) 0 Tr_38) (fun x1 gn k T1 => (gn, T1, Rf))) else let2 (F_X5_refuse Rf ((-2))) (fun r_23 Rf_23 => (r_23, Tr, Rf_23))) else let2 (F_X5_refuse Rf ((-2))) (fun r_23 Rf_23 => (r_23, Tr, Rf_23))
set_option maxHeartbeats 4000000 in
set_option maxRecDepth 100000 in
theorem c_X5_days (l : Launch) (dC : Nat → ClassId) (dI : Nat → Nat → Nat) (x : Nat → Nat) (cI : ClassId) (sz : Nat) (X : xS) (P : pS) (Rf : Nat → Int32) (Tr : pS) (sd : Int32) (n : Int32) (pz : inB (Psz P) 6) : Met l yX5_days wsX5_days { frames := 4, cells := 0, slots := 0, locals := 88 } (xPc (dC, dI) vwCl (xT cI) ((xO x X) ++ (fO ((fun i => x (1 + i)))) ++ (pW ((fun i => x (2 + i))) cI P) ++ ([(x 15, .inl (cI, 3, .inl Rf))]) ++ (pW ((fun i => x (51 + i))) cI Tr)) sz [.ref (x 0), .int sd, .int n]) (va_Qi (fun (r : Int32) (u : (pS) × (Nat → Int32)) => F_X5_days P Rf Tr sd n = (r, u)) (mB (dC, dI) vwCl (xT cI) (va_A ((xO x X) ++ (fO ((fun i => x (1 + i)))) ++ (pW ((fun i => x (2 + i))) cI P) ++ ([(x 15, .inl (cI, 3, .inl Rf))]) ++ (pW ((fun i => x (51 + i))) cI Tr)) sz) (fun u => (xO x X) ++ (fO ((fun i => x (1 + i)))) ++ (pW ((fun i => x (2 + i))) cI P) ++ ([(x 15, .inl (cI, 3, .inl (u.2)))]) ++ (pW ((fun i => x (51 + i))) cI (u.1)))) (va_A ((xO x X) ++ (fO ((fun i => x (1 + i)))) ++ (pW ((fun i => x (2 + i))) cI P) ++ ([(x 15, .inl (cI, 3, .inl Rf))]) ++ (pW ((fun i => x (51 + i))) cI Tr)) sz)) 0 0 (va_A ((xO x X) ++ (fO ((fun i => x (1 + i)))) ++ (pW ((fun i => x (2 + i))) cI P) ++ ([(x 15, .inl (cI, 3, .inl Rf))]) ++ (pW ((fun i => x (51 + i))) cI Tr)) sz) := by
  refine Met.ofW (cc := cX5_days) (maxL := 7) (ret := (some .int)) (by decide) rfl ?_
  intro p e s m args below meth c s₁ B hml hv
  obtain ⟨rfl, hsz, hP, hK, hD0, hN⟩ := hv
  have hx := B.exec
  have hb := B.bytes
  have hr := B.returns
  have hts := atoms_spec (ws := wsX5_days) B.pre
  have hown : s.vm.findClass RX5 = some m.cls := findClass_of_methodNamed B.named
  have hlocks := B.notSynchronized
  subst hsz
  have hD := hD0.self (sz := s.heap.size)
  generalize hAe : va_A ((xO x X) ++ (fO ((fun i => x (1 + i)))) ++ (pW ((fun i => x (2 + i))) cI P) ++ ([(x 15, .inl (cI, 3, .inl Rf))]) ++ (pW ((fun i => x (51 + i))) cI Tr)) s.heap.size = A at hD ⊢
  have hA : ∀ q : Nat, s.heap.size ≤ q → A q := fun q h => by rw [← hAe]; exact Or.inr h
  have hS : va_S A s.heap s.heap [] := va_S.rf
  have hin1 : ∀ w ∈ wsX10, w ∈ wsX5_days := by decide +kernel
  have hin5 : ∀ w ∈ wsX50, w ∈ wsX5_days := by decide +kernel
  have lk12 := hts (.fieldLink RX5 12 "PostRounders" "now" "LPostRounders$Field;") (by decide +kernel)
  have lk48 := hts (.fieldLink RX5 48 "PostRounders" "trial" "LPostRounders$Play;") (by decide +kernel)
  have lk74 := hts (.fieldLink RX5 74 "PostRounders$Field" "play" "LPostRounders$Play;") (by decide +kernel)
  have hl := lv_entry ([.ref (x 0), .int sd, .int n]) (n := 7) (Nat.le_of_ble_eq_true rfl)
  rw [lg_entry_eq]
  generalize (lg_sl ([.ref (x 0), .int sd, .int n]) ++ List.replicate (7 - (lg_sl ([.ref (x 0), .int sd, .int n])).length) Slot.unset).toArray = ls at hl ⊢
  have hl : lv_has ls 7 [(0, .ref (x 0)), (1, .int sd), (2, .int n)] := hl
  obtain ⟨OUT, hO⟩ : ∃ z, z = F_X5_days P Rf Tr sd n := ⟨_, rfl⟩
  have hF := hO
  unfold F_X5_days at hF
  have e_pz := tN_eq pz.1
  have b_pz := pz.2
  refine lv_iload_n hx hb dX5_days_0 rfl (lv_at hl 1 rfl) ?_
  refine lv_iconst (v := nI 0) hx hb dX5_days_1 (by decide) ?_
  refine lv_ldc (v := 999999) hx hb hown (hts (.constant RX5 235 999999) (by decide +kernel)) dX5_days_2 ?_
  refine qc_Si (As := [.int sd, .int (nI 0), .int 999999]) (rest := []) ⟨hx, hb, hml, hown, hts⟩ (c_X5_within l sd (nI 0) 999999) (va_cwS 3 hts gX5_days_X5_within rfl rfl rfl (by decide +kernel) ⟨Nat.le_of_ble_eq_true rfl, Nat.le_of_ble_eq_true rfl⟩) rfl hl.1 rfl (Nat.le_of_ble_eq_true rfl) dX5_days_4 ⟨Nat.zero_le _, Nat.zero_le _⟩ (fun r_4 hw_4 => ?_)
  subst hw_4
  refine qv_zif_eq (tgt := 20) hx hb dX5_days_7 (by decide) (fun c_7 => ?_) (fun c_7 => ?_)
  · rw [if_neg c_7] at hF
    refine lv_aload_n hx hb dX5_days_20 rfl (lv_at hl 0 rfl) ?_
    refine lv_bipush (v := (-2)) hx hb dX5_days_21 (by decide) ?_
    refine qx_Vi (C := RX5) (As := [.int ((-2))]) (rest := []) (ci := 5) (k0 := 0) (wr := (fO ((fun i => x (1 + i)))) ++ (pW ((fun i => x (2 + i))) cI P) ++ (pW ((fun i => x (51 + i))) cI Tr)) (ws2 := fun u => (xO x X) ++ (fO ((fun i => x (1 + i)))) ++ (pW ((fun i => x (2 + i))) cI P) ++ ([(x 15, .inl (cI, 3, .inl u))]) ++ (pW ((fun i => x (51 + i))) cI Tr)) [0, 6] [1, 2, 3, 4, 5, 7, 8, 9, 10] [9, 0, 1, 2, 3, 4, 10, 5, 6, 7, 8] ⟨hx, hb, hml, hown, hts⟩ (c_X5_refuse l dC dI x cI s.heap.size X Rf ((-2)) ) (cwV 1 hts gX5_days_X5_refuse rfl rfl rfl (by decide +kernel) ⟨Nat.le_of_ble_eq_true rfl, Nat.le_of_ble_eq_true rfl⟩) (hK.sub [0] rfl) hK hP hD hS hA hN rfl rfl (by decide) (by decide) (by decide) (by decide) (fun _ => rfl) rfl rfl rfl rfl hl.1 rfl (Nat.le_of_ble_eq_true rfl) dX5_days_23 ⟨Nat.zero_le _, Nat.zero_le _⟩ (fun r_23 u_23 H locs hw_23 hP hD hS => ?_)
    obtain ⟨Rf_23, rfl⟩ : ∃ z, z = u_23 := ⟨_, rfl⟩
    have hP : va_P (dC, dI) vwCl ((xO x X) ++ (fO ((fun i => x (1 + i)))) ++ (pW ((fun i => x (2 + i))) cI P) ++ ([(x 15, .inl (cI, 3, .inl Rf_23))]) ++ (pW ((fun i => x (51 + i))) cI Tr)) H := hP
    have hD : va_D A ((xO x X) ++ (fO ((fun i => x (1 + i)))) ++ (pW ((fun i => x (2 + i))) cI P) ++ ([(x 15, .inl (cI, 3, .inl Rf_23))]) ++ (pW ((fun i => x (51 + i))) cI Tr)) := hD
    rw [hw_23, let2_mk r_23 Rf_23] at hF
    have hP9 : va_P (dC, dI) vwCl ((xO x X) ++ (fO ((fun i => x (1 + i)))) ++ (pW ((fun i => x (2 + i))) cI P) ++ ([(x 15, .inl (cI, 3, .inl Rf_23))]) ++ (pW ((fun i => x (51 + i))) cI Tr)) H := hP
    exact W.iret (v := r_23) hx hb hr (fun t ht hW => ⟨⟨_, ((Tr, Rf_23)), rfl, hO.symm.trans hF, by rw [ht]; exact hP9, va_K.moved hW.alike hK, hD⟩, hS.F ht⟩) hS.2.2 dX5_days_26
  · rw [if_pos c_7] at hF
    refine lv_iload_n hx hb dX5_days_10 rfl (lv_at hl 2 rfl) ?_
    refine lv_iconst (v := nI 0) hx hb dX5_days_11 (by decide) ?_
    refine lv_bipush (v := nI 60) hx hb dX5_days_12 (by decide) ?_
    refine qc_Si (As := [.int n, .int (nI 0), .int (nI 60)]) (rest := []) ⟨hx, hb, hml, hown, hts⟩ (c_X5_within l n (nI 0) (nI 60)) (va_cwS 3 hts gX5_days_X5_within rfl rfl rfl (by decide +kernel) ⟨Nat.le_of_ble_eq_true rfl, Nat.le_of_ble_eq_true rfl⟩) rfl hl.1 rfl (Nat.le_of_ble_eq_true rfl) dX5_days_14 ⟨Nat.zero_le _, Nat.zero_le _⟩ (fun r_14 hw_14 => ?_)
    subst hw_14
    refine qv_zif_ne (tgt := 27) hx hb dX5_days_17 (by decide) (fun c_17 => ?_) (fun c_17 => ?_)
    · rw [if_pos c_17] at hF
      obtain ⟨f_n, fa_n, fb_n⟩ := within_nat (by decide) (by decide) c_17
      have e_n := tN_eq f_n
      refine lv_aload_n hx hb dX5_days_27 rfl (lv_at hl 0 rfl) ?_
      refine va_get (D := (dC, dI)) (ci := 5) (v := .ref (x 51)) (C := RX5) (T := TX5) (N := 14) hx hb hts hin5 hown hK hP 0 rfl rfl 9 (by decide) lk48 (fun _ h9 => h9) rfl dX5_days_28 ?_
      refine lv_aload_n hx hb dX5_days_31 rfl (lv_at hl 0 rfl) ?_
      refine va_get (D := (dC, dI)) (ci := 5) (v := .ref (x 1)) (C := RX5) (T := TX5) (N := 14) hx hb hts hin5 hown hK hP 0 rfl rfl 0 (by decide) lk12 (fun _ h9 => h9) rfl dX5_days_32 ?_
      refine va_get (D := (dC, dI)) (ci := 1) (v := .ref (x 2)) (C := RX1) (T := TX1) (N := 5) hx hb hts hin1 hown hK hP 1 rfl rfl 0 (by decide) lk74 (fun _ h9 => h9) rfl dX5_days_35 ?_
      refine qx_Vv (C := RX2) (As := [.ref (x 2)]) (rest := []) (ci := 2) (k0 := 7) (wr := (xO x X) ++ (fO ((fun i => x (1 + i)))) ++ ([(x 15, .inl (cI, 3, .inl Rf))])) (ws2 := fun u => (xO x X) ++ (fO ((fun i => x (1 + i)))) ++ (pW ((fun i => x (2 + i))) cI P) ++ ([(x 15, .inl (cI, 3, .inl Rf))]) ++ (pW ((fun i => x (51 + i))) cI u)) [7, 8, 9, 10, 2, 3, 4, 5] [0, 1, 6] [0, 1, 7, 8, 9, 10, 2, 3, 4, 5, 6] ⟨hx, hb, hml, hown, hts⟩ (c_X2_copy l dC dI (fun i => x (51 + i)) (fun i => x (2 + i)) cI s.heap.size Tr P  ) (cwV 1 hts gX5_days_X2_copy rfl rfl rfl (by decide +kernel) ⟨Nat.le_of_ble_eq_true rfl, Nat.le_of_ble_eq_true rfl⟩) (hK.sub [0] rfl) hK hP hD hS hA hN rfl rfl (by decide) (by decide) (by decide) (by decide) (fun _ => rfl) rfl rfl rfl rfl hl.1 rfl (Nat.le_of_ble_eq_true rfl) dX5_days_38 ⟨Nat.zero_le _, Nat.zero_le _⟩ (fun u_38 H locs hw_38 hP hD hS => ?_)
      obtain ⟨Tr_38, rfl⟩ : ∃ z, z = u_38 := ⟨_, rfl⟩
      have hP : va_P (dC, dI) vwCl ((xO x X) ++ (fO ((fun i => x (1 + i)))) ++ (pW ((fun i => x (2 + i))) cI P) ++ ([(x 15, .inl (cI, 3, .inl Rf))]) ++ (pW ((fun i => x (51 + i))) cI Tr_38)) H := hP
      have hD : va_D A ((xO x X) ++ (fO ((fun i => x (1 + i)))) ++ (pW ((fun i => x (2 + i))) cI P) ++ ([(x 15, .inl (cI, 3, .inl Rf))]) ++ (pW ((fun i => x (51 + i))) cI Tr_38)) := hD
      have v_38 : Psz Tr_38 = Psz P := by rw [← hw_38]; rfl
      rw [hw_38, let1_mk Tr_38] at hF
      refine lv_iload_n hx hb dX5_days_41 rfl (lv_at hl 1 rfl) ?_
      refine lv_i2l hx hb dX5_days_42 rfl ?_
      refine lv_lstore_n (lv' := [(3, .long sd.toInt64), (0, .ref (x 0)), (1, .int sd), (2, .int n)]) hx hb dX5_days_43 rfl hl (by decide) rfl (fun ls hl => ?_)
      refine lv_iconst (v := nI 0) hx hb dX5_days_44 (by decide) ?_
      refine lv_istore (lv' := [(5, .int (nI 0)), (3, .long sd.toInt64), (0, .ref (x 0)), (1, .int sd), (2, .int n)]) hx hb dX5_days_45 hl (by decide) rfl (fun ls hl => ?_)
      refine lv_iconst (v := nI 0) hx hb dX5_days_47 (by decide) ?_
      refine lv_istore (lv' := [(6, .int (nI 0)), (5, .int (nI 0)), (3, .long sd.toInt64), (0, .ref (x 0)), (1, .int sd), (2, .int n)]) hx hb dX5_days_48 hl (by decide) rfl (fun ls hl => ?_)
      have L_50 : ∀ (n_50 : Nat) (x1 : Int64) (gn : Int32) (k : Nat) (T1 : pS) (H : Heap) (locs : List Loc), k ≤ tN n → inB (Psz T1) 6 → tN n - k < n_50 → va_P (dC, dI) vwCl ((xO x X) ++ (fO ((fun i => x (1 + i)))) ++ (pW ((fun i => x (2 + i))) cI P) ++ ([(x 15, .inl (cI, 3, .inl Rf))]) ++ (pW ((fun i => x (51 + i))) cI T1)) H → va_D A ((xO x X) ++ (fO ((fun i => x (1 + i)))) ++ (pW ((fun i => x (2 + i))) cI P) ++ ([(x 15, .inl (cI, 3, .inl Rf))]) ++ (pW ((fun i => x (51 + i))) cI T1)) → va_S A s.heap H locs → ∀ (ls : Array Slot), lv_has ls 7 [(6, .int (nI k)), (5, .int gn), (3, .long x1), (0, .ref (x 0)), (1, .int sd), (2, .int n)] → OUT = let4 (F_X5_days_L50 n_50 n x1 gn k T1) (fun x1 gn k T1 => (gn, T1, Rf)) → W p l e (headSpec wsX5_days { frames := 4, cells := 0, slots := 0, locals := 88 }).room s m ([.ref (x 0), .int sd, .int n] : List Value).toArray below meth c H locs 0 0 (MQ below (va_Qi (fun (r : Int32) (u : (pS) × (Nat → Int32)) => F_X5_days P Rf Tr sd n = (r, u)) (mB (dC, dI) vwCl (xT cI) A (fun u => (xO x X) ++ (fO ((fun i => x (1 + i)))) ++ (pW ((fun i => x (2 + i))) cI P) ++ ([(x 15, .inl (cI, 3, .inl (u.2)))]) ++ (pW ((fun i => x (51 + i))) cI (u.1)))) A) ([.ref (x 0), .int sd, .int n] : List Value).toArray s 0 0 A) (F0 m 50 ls []) := by
        intro n_50
        induction n_50 with
        | zero => intro x1 gn k T1 H locs i0 i1 hmu; exact absurd hmu (Nat.not_lt_zero _)
        | succ n_50 ih_50 =>
          intro x1 gn k T1 H locs i0 i1 hmu_50 hP hD hS ls hl hF
          rw [F_X5_days_L50] at hF
          refine lv_iload hx hb dX5_days_50 (lv_at hl 0 rfl) ?_
          refine lv_iload_n hx hb dX5_days_52 rfl (lv_at hl 5 rfl) ?_
          refine qv_top (e_n) ?_
          refine qv_icmp_ge (tgt := 108) hx hb dX5_days_53 (by decide) (by omega) (by omega) (fun c_53 => ?_) (fun c_53 => ?_)
          · rw [if_pos c_53] at hF
            rw [let4_mk (x1 : Int64) (gn : Int32) (k : Nat) (T1 : pS)] at hF
            refine lv_iload hx hb dX5_days_108 (lv_at hl 1 rfl) ?_
            have hP9 : va_P (dC, dI) vwCl ((xO x X) ++ (fO ((fun i => x (1 + i)))) ++ (pW ((fun i => x (2 + i))) cI P) ++ ([(x 15, .inl (cI, 3, .inl Rf))]) ++ (pW ((fun i => x (51 + i))) cI T1)) H := hP
            exact W.iret (v := gn) hx hb hr (fun t ht hW => ⟨⟨_, ((T1, Rf)), rfl, hO.symm.trans hF, by rw [ht]; exact hP9, va_K.moved hW.alike hK, hD⟩, hS.F ht⟩) hS.2.2 dX5_days_110
          · rw [if_neg c_53] at hF
            refine lv_aload_n hx hb dX5_days_56 rfl (lv_at hl 3 rfl) ?_
            refine va_get (D := (dC, dI)) (ci := 5) (v := .ref (x 51)) (C := RX5) (T := TX5) (N := 14) hx hb hts hin5 hown hK hP 0 rfl rfl 9 (by decide) lk48 (fun _ h9 => h9) rfl dX5_days_57 ?_
            refine qx_Vi (C := RX2) (As := []) (rest := []) (ci := 2) (k0 := 7) (wr := (xO x X) ++ (fO ((fun i => x (1 + i)))) ++ (pW ((fun i => x (2 + i))) cI P) ++ ([(x 15, .inl (cI, 3, .inl Rf))])) (ws2 := fun u => (xO x X) ++ (fO ((fun i => x (1 + i)))) ++ (pW ((fun i => x (2 + i))) cI P) ++ ([(x 15, .inl (cI, 3, .inl Rf))]) ++ (pW ((fun i => x (51 + i))) cI T1)) [7, 8, 9, 10] [0, 1, 2, 3, 4, 5, 6] [0, 1, 2, 3, 4, 5, 6, 7, 8, 9, 10] ⟨hx, hb, hml, hown, hts⟩ (c_X2_isDone l dC dI (fun i => x (51 + i)) cI H.size T1  ) (cwV 0 hts gX5_days_X2_isDone rfl rfl rfl (by decide +kernel) ⟨Nat.le_of_ble_eq_true rfl, Nat.le_of_ble_eq_true rfl⟩) (hK.sub [0] rfl) hK hP hD hS hA hN rfl rfl (by decide) (by decide) (by decide) (by decide) (fun _ => rfl) rfl rfl rfl rfl hl.1 rfl (Nat.le_of_ble_eq_true rfl) dX5_days_60 ⟨Nat.zero_le _, Nat.zero_le _⟩ (fun r_60 u_60 H locs hw_60 hP hD hS => ?_)
            have hP : va_P (dC, dI) vwCl ((xO x X) ++ (fO ((fun i => x (1 + i)))) ++ (pW ((fun i => x (2 + i))) cI P) ++ ([(x 15, .inl (cI, 3, .inl Rf))]) ++ (pW ((fun i => x (51 + i))) cI T1)) H := hP
            have hD : va_D A ((xO x X) ++ (fO ((fun i => x (1 + i)))) ++ (pW ((fun i => x (2 + i))) cI P) ++ ([(x 15, .inl (cI, 3, .inl Rf))]) ++ (pW ((fun i => x (51 + i))) cI T1)) := hD
            obtain ⟨z_60, hw_60, rfl⟩ := hw_60
            rw [hw_60, let1_mk z_60] at hF
            refine qv_zif_ne (tgt := 108) hx hb dX5_days_63 (by decide) (fun c_63 => ?_) (fun c_63 => ?_)
            · rw [if_pos c_63] at hF
              rw [let4_mk (x1 : Int64) (gn : Int32) (k : Nat) (T1 : pS)] at hF
              refine lv_iload hx hb dX5_days_108 (lv_at hl 1 rfl) ?_
              have hP9 : va_P (dC, dI) vwCl ((xO x X) ++ (fO ((fun i => x (1 + i)))) ++ (pW ((fun i => x (2 + i))) cI P) ++ ([(x 15, .inl (cI, 3, .inl Rf))]) ++ (pW ((fun i => x (51 + i))) cI T1)) H := hP
              exact W.iret (v := gn) hx hb hr (fun t ht hW => ⟨⟨_, ((T1, Rf)), rfl, hO.symm.trans hF, by rw [ht]; exact hP9, va_K.moved hW.alike hK, hD⟩, hS.F ht⟩) hS.2.2 dX5_days_110
            · rw [if_neg c_63] at hF
              refine lv_lload_n hx hb dX5_days_66 rfl (lv_at hl 2 rfl) ?_
              refine lv_ldc2 (v := 1103515245) hx hb hown (hts (.constantLong RX5 236 1103515245) (by decide +kernel)) dX5_days_67 ?_
              refine lv_lmul hx hb dX5_days_70 ?_
              refine lv_ldc2 (v := 12345) hx hb hown (hts (.constantLong RX5 238 12345) (by decide +kernel)) dX5_days_71 ?_
              refine lv_ladd hx hb dX5_days_74 ?_
              refine lv_ldc2 (v := 2147483648) hx hb hown (hts (.constantLong RX5 240 2147483648) (by decide +kernel)) dX5_days_75 ?_
              refine lv_lrem hx hb dX5_days_78 (by decide) ?_
              refine lv_lstore_n (lv' := [(3, .long (((x1 * 1103515245) + 12345) - ((x1 * 1103515245) + 12345) / 2147483648 * 2147483648)), (6, .int (nI k)), (5, .int gn), (0, .ref (x 0)), (1, .int sd), (2, .int n)]) hx hb dX5_days_79 rfl hl (by decide) rfl (fun ls hl => ?_)
              refine lv_iload hx hb dX5_days_80 (lv_at hl 2 rfl) ?_
              refine lv_aload_n hx hb dX5_days_82 rfl (lv_at hl 3 rfl) ?_
              refine va_get (D := (dC, dI)) (ci := 5) (v := .ref (x 51)) (C := RX5) (T := TX5) (N := 14) hx hb hts hin5 hown hK hP 0 rfl rfl 9 (by decide) lk48 (fun _ h9 => h9) rfl dX5_days_83 ?_
              refine lv_lload_n hx hb dX5_days_86 rfl (lv_at hl 0 rfl) ?_
              refine lv_ldc2 (v := 65536) hx hb hown (hts (.constantLong RX5 242 65536) (by decide +kernel)) dX5_days_87 ?_
              refine lv_ldiv hx hb dX5_days_90 (by decide) ?_
              refine lv_ldc2 (v := 10) hx hb hown (hts (.constantLong RX5 244 10) (by decide +kernel)) dX5_days_91 ?_
              refine lv_lrem hx hb dX5_days_94 (by decide) ?_
              refine lv_l2i hx hb dX5_days_95 rfl ?_
              refine qx_Vi (C := RX2) (As := [.int ((((((x1 * 1103515245) + 12345) - ((x1 * 1103515245) + 12345) / 2147483648 * 2147483648) / 65536) - ((((x1 * 1103515245) + 12345) - ((x1 * 1103515245) + 12345) / 2147483648 * 2147483648) / 65536) / 10 * 10).toInt32)]) (rest := [.int gn]) (ci := 2) (k0 := 7) (wr := (xO x X) ++ (fO ((fun i => x (1 + i)))) ++ (pW ((fun i => x (2 + i))) cI P) ++ ([(x 15, .inl (cI, 3, .inl Rf))])) (ws2 := fun u => (xO x X) ++ (fO ((fun i => x (1 + i)))) ++ (pW ((fun i => x (2 + i))) cI P) ++ ([(x 15, .inl (cI, 3, .inl Rf))]) ++ (pW ((fun i => x (51 + i))) cI u)) [7, 8, 9, 10] [0, 1, 2, 3, 4, 5, 6] [0, 1, 2, 3, 4, 5, 6, 7, 8, 9, 10] ⟨hx, hb, hml, hown, hts⟩ (c_X2_ball l dC dI (fun i => x (51 + i)) cI H.size T1 ((((((x1 * 1103515245) + 12345) - ((x1 * 1103515245) + 12345) / 2147483648 * 2147483648) / 65536) - ((((x1 * 1103515245) + 12345) - ((x1 * 1103515245) + 12345) / 2147483648 * 2147483648) / 65536) / 10 * 10).toInt32) (i1 : inB (Psz T1) 6)) (cwV 1 hts gX5_days_X2_ball rfl rfl rfl (by decide +kernel) ⟨Nat.le_of_ble_eq_true rfl, Nat.le_of_ble_eq_true rfl⟩) (hK.sub [0] rfl) hK hP hD hS hA hN rfl rfl (by decide) (by decide) (by decide) (by decide) (fun _ => rfl) rfl rfl rfl rfl hl.1 rfl (Nat.le_of_ble_eq_true rfl) dX5_days_96 ⟨Nat.zero_le _, Nat.zero_le _⟩ (fun r_96 u_96 H locs hw_96 hP hD hS => ?_)
              obtain ⟨Tr_96, rfl⟩ : ∃ z, z = u_96 := ⟨_, rfl⟩
              have hP : va_P (dC, dI) vwCl ((xO x X) ++ (fO ((fun i => x (1 + i)))) ++ (pW ((fun i => x (2 + i))) cI P) ++ ([(x 15, .inl (cI, 3, .inl Rf))]) ++ (pW ((fun i => x (51 + i))) cI Tr_96)) H := hP
              have hD : va_D A ((xO x X) ++ (fO ((fun i => x (1 + i)))) ++ (pW ((fun i => x (2 + i))) cI P) ++ ([(x 15, .inl (cI, 3, .inl Rf))]) ++ (pW ((fun i => x (51 + i))) cI Tr_96)) := hD
              have a_96 := ball_at hw_96
              rw [hw_96, let2_mk r_96 Tr_96] at hF
              refine lv_iadd hx hb dX5_days_99 ?_
              refine lv_istore (lv' := [(5, .int (gn + r_96)), (3, .long (((x1 * 1103515245) + 12345) - ((x1 * 1103515245) + 12345) / 2147483648 * 2147483648)), (6, .int (nI k)), (0, .ref (x 0)), (1, .int sd), (2, .int n)]) hx hb dX5_days_100 hl (by decide) rfl (fun ls hl => ?_)
              refine lv_iinc (v := nI (k + 1)) (lv' := [(6, .int (nI (k + 1))), (5, .int (gn + r_96)), (3, .long (((x1 * 1103515245) + 12345) - ((x1 * 1103515245) + 12345) / 2147483648 * 2147483648)), (0, .ref (x 0)), (1, .int sd), (2, .int n)]) hx hb dX5_days_102 hl (k := 2) rfl (qn_inc (c := 1) rfl (by omega)) (by decide) rfl (fun ls hl => ?_)
              refine lv_goto (tgt := 50) hx hb dX5_days_105 (by decide) ?_
              exact ih_50 (((x1 * 1103515245) + 12345) - ((x1 * 1103515245) + 12345) / 2147483648 * 2147483648) (gn + r_96) (k + 1) Tr_96 H locs (by omega) (by rw [show Psz Tr_96 = Psz T1 from a_96]; exact (i1 : inB (Psz T1) 6)) (by omega) hP hD hS ls (lv_sub hl [0, 1, 2, 3, 4, 5] rfl) hF
      exact L_50 61 sd.toInt64 (nI 0) 0 Tr_38 H locs (by omega) (by rw [show Psz Tr_38 = Psz P from v_38]; exact (pz : inB (Psz P) 6)) (by omega) hP hD hS ls (lv_sub hl [0, 1, 2, 3, 4, 5] rfl) hF
    · rw [if_neg c_17] at hF
      refine lv_aload_n hx hb dX5_days_20 rfl (lv_at hl 0 rfl) ?_
      refine lv_bipush (v := (-2)) hx hb dX5_days_21 (by decide) ?_
      refine qx_Vi (C := RX5) (As := [.int ((-2))]) (rest := []) (ci := 5) (k0 := 0) (wr := (fO ((fun i => x (1 + i)))) ++ (pW ((fun i => x (2 + i))) cI P) ++ (pW ((fun i => x (51 + i))) cI Tr)) (ws2 := fun u => (xO x X) ++ (fO ((fun i => x (1 + i)))) ++ (pW ((fun i => x (2 + i))) cI P) ++ ([(x 15, .inl (cI, 3, .inl u))]) ++ (pW ((fun i => x (51 + i))) cI Tr)) [0, 6] [1, 2, 3, 4, 5, 7, 8, 9, 10] [9, 0, 1, 2, 3, 4, 10, 5, 6, 7, 8] ⟨hx, hb, hml, hown, hts⟩ (c_X5_refuse l dC dI x cI s.heap.size X Rf ((-2)) ) (cwV 1 hts gX5_days_X5_refuse rfl rfl rfl (by decide +kernel) ⟨Nat.le_of_ble_eq_true rfl, Nat.le_of_ble_eq_true rfl⟩) (hK.sub [0] rfl) hK hP hD hS hA hN rfl rfl (by decide) (by decide) (by decide) (by decide) (fun _ => rfl) rfl rfl rfl rfl hl.1 rfl (Nat.le_of_ble_eq_true rfl) dX5_days_23 ⟨Nat.zero_le _, Nat.zero_le _⟩ (fun r_23 u_23 H locs hw_23 hP hD hS => ?_)
      obtain ⟨Rf_23, rfl⟩ : ∃ z, z = u_23 := ⟨_, rfl⟩
      have hP : va_P (dC, dI) vwCl ((xO x X) ++ (fO ((fun i => x (1 + i)))) ++ (pW ((fun i => x (2 + i))) cI P) ++ ([(x 15, .inl (cI, 3, .inl Rf_23))]) ++ (pW ((fun i => x (51 + i))) cI Tr)) H := hP
      have hD : va_D A ((xO x X) ++ (fO ((fun i => x (1 + i)))) ++ (pW ((fun i => x (2 + i))) cI P) ++ ([(x 15, .inl (cI, 3, .inl Rf_23))]) ++ (pW ((fun i => x (51 + i))) cI Tr)) := hD
      rw [hw_23, let2_mk r_23 Rf_23] at hF
      have hP9 : va_P (dC, dI) vwCl ((xO x X) ++ (fO ((fun i => x (1 + i)))) ++ (pW ((fun i => x (2 + i))) cI P) ++ ([(x 15, .inl (cI, 3, .inl Rf_23))]) ++ (pW ((fun i => x (51 + i))) cI Tr)) H := hP
      exact W.iret (v := r_23) hx hb hr (fun t ht hW => ⟨⟨_, ((Tr, Rf_23)), rfl, hO.symm.trans hF, by rw [ht]; exact hP9, va_K.moved hW.alike hK, hD⟩, hS.F ht⟩) hS.2.2 dX5_days_26
def F_X5_commonDivisor_L3 : Nat →  (Nat) → (Int64) → (Int64) → (Nat) × (Int64) × (Int64)
  | 0, k, a1, b1 => (k, a1, b1)
  | n_3 + 1, k, a1, b1 => if 100 ≤ k then (k, a1, b1) else (if (lg_cmp b1 0) = 0 then (k, a1, b1) else F_X5_commonDivisor_L3 n_3  (k + 1) b1 (a1 - a1 / b1 * b1))
def F_X5_commonDivisor (a : Int64) (b : Int64) : Int64 := let3 (F_X5_commonDivisor_L3 101  0 a b) (fun k a1 b1 => a1)
set_option maxHeartbeats 4000000 in
set_option maxRecDepth 100000 in
theorem c_X5_commonDivisor (l : Launch) (a : Int64) (b : Int64) : Met l yX5_commonDivisor wsX5_commonDivisor { frames := 0, cells := 0, slots := 0, locals := 0 } (va_Pc [.long a, .long b] (fun _ => True)) (vp_Sl (fun r => F_X5_commonDivisor a b = r)) 0 0 (fun _ => False) := by
  refine Met.ofW (cc := cX5_commonDivisor) (maxL := 7) (ret := (some .long)) (by decide) rfl ?_
  intro p e s m args below meth c s₁ B hml hv
  obtain ⟨rfl, -⟩ := hv
  have hx := B.exec
  have hb := B.bytes
  have hr := B.returns
  have hts := atoms_spec (ws := wsX5_commonDivisor) B.pre
  have hown : s.vm.findClass RX5 = some m.cls := findClass_of_methodNamed B.named
  have hlocks := B.notSynchronized
  have hl := lv_entry ([.long a, .long b]) (n := 7) (Nat.le_of_ble_eq_true rfl)
  rw [lg_entry_eq]
  generalize (lg_sl ([.long a, .long b]) ++ List.replicate (7 - (lg_sl ([.long a, .long b])).length) Slot.unset).toArray = ls at hl ⊢
  have hl : lv_has ls 7 [(0, .long a), (2, .long b)] := hl
  obtain ⟨OUT, hO⟩ : ∃ z, z = F_X5_commonDivisor a b := ⟨_, rfl⟩
  have hF := hO
  unfold F_X5_commonDivisor at hF
  refine lv_iconst (v := nI 0) hx hb dX5_commonDivisor_0 (by decide) ?_
  refine lv_istore (lv' := [(4, .int (nI 0)), (0, .long a), (2, .long b)]) hx hb dX5_commonDivisor_1 hl (by decide) rfl (fun ls hl => ?_)
  have L_3 : ∀ (n_3 : Nat) (k : Nat) (a1 : Int64) (b1 : Int64), k ≤ 100 → 100 - k < n_3 → ∀ (ls : Array Slot), lv_has ls 7 [(4, .int (nI k)), (0, .long a1), (2, .long b1)] → OUT = let3 (F_X5_commonDivisor_L3 n_3  k a1 b1) (fun k a1 b1 => a1) → W p l e (headSpec wsX5_commonDivisor { frames := 0, cells := 0, slots := 0, locals := 0 }).room s m ([.long a, .long b] : List Value).toArray below meth c s.heap [] 0 0 (MQ below (vp_Sl (fun r => F_X5_commonDivisor a b = r)) ([.long a, .long b] : List Value).toArray s 0 0 (fun _ => False)) (F0 m 3 ls []) := by
    intro n_3
    induction n_3 with
    | zero => intro k a1 b1 i0 hmu; exact absurd hmu (Nat.not_lt_zero _)
    | succ n_3 ih_3 =>
      intro k a1 b1 i0 hmu_3 ls hl hF
      rw [F_X5_commonDivisor_L3] at hF
      refine lv_iload hx hb dX5_commonDivisor_3 (lv_at hl 0 rfl) ?_
      refine lv_bipush (v := nI 100) hx hb dX5_commonDivisor_5 (by decide) ?_
      refine qv_icmp_ge (tgt := 32) hx hb dX5_commonDivisor_7 (by decide) (by omega) (by omega) (fun c_7 => ?_) (fun c_7 => ?_)
      · rw [if_pos c_7] at hF
        rw [let3_mk (k : Nat) (a1 : Int64) (b1 : Int64)] at hF
        refine lv_lload_n hx hb dX5_commonDivisor_32 rfl (lv_at hl 1 rfl) ?_
        exact W.lret (v := a1) hx hb hr (fun t ht hW => ⟨_, rfl, hO.symm.trans hF, ht⟩) (fun _ h => by cases h) dX5_commonDivisor_33
      · rw [if_neg c_7] at hF
        refine lv_lload_n hx hb dX5_commonDivisor_10 rfl (lv_at hl 2 rfl) ?_
        refine lv_lconst (v := 0) hx hb dX5_commonDivisor_11 (by decide) ?_
        refine W.lcmp hx hb dX5_commonDivisor_12 ?_
        refine lv_if_eq (tgt := 32) hx hb dX5_commonDivisor_13 (by decide) (fun c_13 => ?_) (fun c_13 => ?_)
        · rw [if_pos c_13] at hF
          rw [let3_mk (k : Nat) (a1 : Int64) (b1 : Int64)] at hF
          refine lv_lload_n hx hb dX5_commonDivisor_32 rfl (lv_at hl 1 rfl) ?_
          exact W.lret (v := a1) hx hb hr (fun t ht hW => ⟨_, rfl, hO.symm.trans hF, ht⟩) (fun _ h => by cases h) dX5_commonDivisor_33
        · rw [if_neg c_13] at hF
          refine lv_lload_n hx hb dX5_commonDivisor_16 rfl (lv_at hl 1 rfl) ?_
          refine lv_lload_n hx hb dX5_commonDivisor_17 rfl (lv_at hl 2 rfl) ?_
          refine lv_lrem hx hb dX5_commonDivisor_18 (lg_ne0 c_13) ?_
          refine lv_lstore (lv' := [(5, .long (a1 - a1 / b1 * b1)), (4, .int (nI k)), (0, .long a1), (2, .long b1)]) hx hb dX5_commonDivisor_19 hl (by decide) rfl (fun ls hl => ?_)
          refine lv_lload_n hx hb dX5_commonDivisor_21 rfl (lv_at hl 3 rfl) ?_
          refine lv_lstore_n (lv' := [(0, .long b1), (5, .long (a1 - a1 / b1 * b1)), (4, .int (nI k)), (2, .long b1)]) hx hb dX5_commonDivisor_22 rfl hl (by decide) rfl (fun ls hl => ?_)
          refine lv_lload hx hb dX5_commonDivisor_23 (lv_at hl 1 rfl) ?_
          refine lv_lstore_n (lv' := [(2, .long (a1 - a1 / b1 * b1)), (0, .long b1), (5, .long (a1 - a1 / b1 * b1)), (4, .int (nI k))]) hx hb dX5_commonDivisor_25 rfl hl (by decide) rfl (fun ls hl => ?_)
          refine lv_iinc (v := nI (k + 1)) (lv' := [(4, .int (nI (k + 1))), (2, .long (a1 - a1 / b1 * b1)), (0, .long b1), (5, .long (a1 - a1 / b1 * b1))]) hx hb dX5_commonDivisor_26 hl (k := 3) rfl (qn_inc (c := 1) rfl (by omega)) (by decide) rfl (fun ls hl => ?_)
          refine lv_goto (tgt := 3) hx hb dX5_commonDivisor_29 (by decide) ?_
          exact ih_3 (k + 1) b1 (a1 - a1 / b1 * b1) (by omega) (by omega) ls (lv_sub hl [0, 2, 1] rfl) hF
  exact L_3 101 0 a b (by omega) (by omega) ls (lv_sub hl [0, 1, 2] rfl) hF
def F_X5_keepFraction (X : xS) (up : Int64) (dn : Int64) : (xS) := if 0 ≤ (lg_cmp (F_X5_commonDivisor up dn) 1) then ((Xtl X, up / (F_X5_commonDivisor up dn), dn / (F_X5_commonDivisor up dn))) else ((Xtl X, up / 1, dn / 1))
set_option maxHeartbeats 4000000 in
set_option maxRecDepth 100000 in
theorem c_X5_keepFraction (l : Launch) (dC : Nat → ClassId) (dI : Nat → Nat → Nat) (x : Nat → Nat) (cI : ClassId) (sz : Nat) (X : xS) (up : Int64) (dn : Int64) : Met l yX5_keepFraction wsX5_keepFraction { frames := 1, cells := 0, slots := 0, locals := 26 } (xPc (dC, dI) vwCl (xT cI) (xO x X) sz [.ref (x 0), .long up, .long dn]) (va_Qv (fun (u : (xS)) => F_X5_keepFraction X up dn = u) (mB (dC, dI) vwCl (xT cI) (va_A (xO x X) sz) (fun u => xO x u)) (va_A (xO x X) sz)) 0 0 (va_A (xO x X) sz) := by
  refine Met.ofW (cc := cX5_keepFraction) (maxL := 7) (ret := none) (by decide) rfl ?_
  intro p e s m args below meth c s₁ B hml hv
  obtain ⟨rfl, hsz, hP, hK, hD0, hN⟩ := hv
  have hx := B.exec
  have hb := B.bytes
  have hr := B.returns
  have hts := atoms_spec (ws := wsX5_keepFraction) B.pre
  have hown : s.vm.findClass RX5 = some m.cls := findClass_of_methodNamed B.named
  have hlocks := B.notSynchronized
  subst hsz
  have hD := hD0.self (sz := s.heap.size)
  generalize hAe : va_A (xO x X) s.heap.size = A at hD ⊢
  have hA : ∀ q : Nat, s.heap.size ≤ q → A q := fun q h => by rw [← hAe]; exact Or.inr h
  have hS : va_S A s.heap s.heap [] := va_S.rf
  have hin5 : ∀ w ∈ wsX50, w ∈ wsX5_keepFraction := by decide +kernel
  have lk24 := hts (.fieldLink RX5 24 "PostRounders" "below" "J") (by decide +kernel)
  have lk246 := hts (.fieldLink RX5 246 "PostRounders" "above" "J") (by decide +kernel)
  have hl := lv_entry ([.ref (x 0), .long up, .long dn]) (n := 7) (Nat.le_of_ble_eq_true rfl)
  rw [lg_entry_eq]
  generalize (lg_sl ([.ref (x 0), .long up, .long dn]) ++ List.replicate (7 - (lg_sl ([.ref (x 0), .long up, .long dn])).length) Slot.unset).toArray = ls at hl ⊢
  have hl : lv_has ls 7 [(0, .ref (x 0)), (1, .long up), (3, .long dn)] := hl
  obtain ⟨OUT, hO⟩ : ∃ z, z = F_X5_keepFraction X up dn := ⟨_, rfl⟩
  have hF := hO
  unfold F_X5_keepFraction at hF
  refine lv_lload_n hx hb dX5_keepFraction_0 rfl (lv_at hl 1 rfl) ?_
  refine lv_lload_n hx hb dX5_keepFraction_1 rfl (lv_at hl 2 rfl) ?_
  refine qc_Sl (As := [.long up, .long dn]) (rest := []) ⟨hx, hb, hml, hown, hts⟩ (c_X5_commonDivisor l up dn) (va_cwS 2 hts gX5_keepFraction_X5_commonDivisor rfl rfl rfl (by decide +kernel) ⟨Nat.le_of_ble_eq_true rfl, Nat.le_of_ble_eq_true rfl⟩) rfl hl.1 rfl (Nat.le_of_ble_eq_true rfl) dX5_keepFraction_2 ⟨Nat.zero_le _, Nat.zero_le _⟩ (fun r_2 hw_2 => ?_)
  subst hw_2
  refine lv_lstore (lv' := [(5, .long (F_X5_commonDivisor up dn)), (0, .ref (x 0)), (1, .long up), (3, .long dn)]) hx hb dX5_keepFraction_5 hl (by decide) rfl (fun ls hl => ?_)
  refine lv_lload hx hb dX5_keepFraction_7 (lv_at hl 0 rfl) ?_
  refine lv_lconst (v := 1) hx hb dX5_keepFraction_9 (by decide) ?_
  refine W.lcmp hx hb dX5_keepFraction_10 ?_
  refine lv_if_ge (tgt := 17) hx hb dX5_keepFraction_11 (by decide) (fun c_11 => ?_) (fun c_11 => ?_)
  · rw [if_pos c_11] at hF
    refine lv_aload_n hx hb dX5_keepFraction_17 rfl (lv_at hl 1 rfl) ?_
    refine lv_lload_n hx hb dX5_keepFraction_18 rfl (lv_at hl 2 rfl) ?_
    refine lv_lload hx hb dX5_keepFraction_19 (lv_at hl 0 rfl) ?_
    refine lv_ldiv hx hb dX5_keepFraction_21 (lg_ge1 c_11) ?_
    refine va_put (D := (dC, dI)) (ci := 5) (v := .long (up / (F_X5_commonDivisor up dn))) (ty := .long) (C := RX5) (T := TX5) (N := 14) hx hb hts hin5 tyX5 tyX5_ok nmX5 hown hK hP hD hS 0 rfl rfl 4 (by decide) lk246 (fun _ h9 => h9) rfl (by decide +kernel) rfl rfl (Nat.le_of_ble_eq_true rfl) dX5_keepFraction_22 (fun H locs hP hD hS => ?_)
    have hP : va_P (dC, dI) vwCl (xO x ((Xtl X, up / (F_X5_commonDivisor up dn), Xbe X))) H := hP
    have hD : va_D A (xO x ((Xtl X, up / (F_X5_commonDivisor up dn), Xbe X))) := hD
    refine lv_aload_n hx hb dX5_keepFraction_25 rfl (lv_at hl 1 rfl) ?_
    refine lv_lload_n hx hb dX5_keepFraction_26 rfl (lv_at hl 3 rfl) ?_
    refine lv_lload hx hb dX5_keepFraction_27 (lv_at hl 0 rfl) ?_
    refine lv_ldiv hx hb dX5_keepFraction_29 (lg_ge1 c_11) ?_
    refine va_put (D := (dC, dI)) (ci := 5) (v := .long (dn / (F_X5_commonDivisor up dn))) (ty := .long) (C := RX5) (T := TX5) (N := 14) hx hb hts hin5 tyX5 tyX5_ok nmX5 hown hK hP hD hS 0 rfl rfl 5 (by decide) lk24 (fun _ h9 => h9) rfl (by decide +kernel) rfl rfl (Nat.le_of_ble_eq_true rfl) dX5_keepFraction_30 (fun H locs hP hD hS => ?_)
    have hP : va_P (dC, dI) vwCl (xO x ((Xtl X, up / (F_X5_commonDivisor up dn), dn / (F_X5_commonDivisor up dn)))) H := hP
    have hD : va_D A (xO x ((Xtl X, up / (F_X5_commonDivisor up dn), dn / (F_X5_commonDivisor up dn)))) := hD
    have hP9 : va_P (dC, dI) vwCl (xO x ((Xtl X, up / (F_X5_commonDivisor up dn), dn / (F_X5_commonDivisor up dn)))) H := hP
    exact W.vret hx hb hr (fun t ht hW => ⟨⟨((Xtl X, up / (F_X5_commonDivisor up dn), dn / (F_X5_commonDivisor up dn))), rfl, hO.symm.trans hF, by rw [ht]; exact hP9, va_K.moved hW.alike hK, hD⟩, hS.F ht⟩) hS.2.2 dX5_keepFraction_33
  · rw [if_neg c_11] at hF
    refine lv_lconst (v := 1) hx hb dX5_keepFraction_14 (by decide) ?_
    refine lv_lstore (lv' := [(5, .long 1), (0, .ref (x 0)), (1, .long up), (3, .long dn)]) hx hb dX5_keepFraction_15 hl (by decide) rfl (fun ls hl => ?_)
    refine lv_aload_n hx hb dX5_keepFraction_17 rfl (lv_at hl 1 rfl) ?_
    refine lv_lload_n hx hb dX5_keepFraction_18 rfl (lv_at hl 2 rfl) ?_
    refine lv_lload hx hb dX5_keepFraction_19 (lv_at hl 0 rfl) ?_
    refine lv_ldiv hx hb dX5_keepFraction_21 (by decide) ?_
    refine va_put (D := (dC, dI)) (ci := 5) (v := .long (up / 1)) (ty := .long) (C := RX5) (T := TX5) (N := 14) hx hb hts hin5 tyX5 tyX5_ok nmX5 hown hK hP hD hS 0 rfl rfl 4 (by decide) lk246 (fun _ h9 => h9) rfl (by decide +kernel) rfl rfl (Nat.le_of_ble_eq_true rfl) dX5_keepFraction_22 (fun H locs hP hD hS => ?_)
    have hP : va_P (dC, dI) vwCl (xO x ((Xtl X, up / 1, Xbe X))) H := hP
    have hD : va_D A (xO x ((Xtl X, up / 1, Xbe X))) := hD
    refine lv_aload_n hx hb dX5_keepFraction_25 rfl (lv_at hl 1 rfl) ?_
    refine lv_lload_n hx hb dX5_keepFraction_26 rfl (lv_at hl 3 rfl) ?_
    refine lv_lload hx hb dX5_keepFraction_27 (lv_at hl 0 rfl) ?_
    refine lv_ldiv hx hb dX5_keepFraction_29 (by decide) ?_
    refine va_put (D := (dC, dI)) (ci := 5) (v := .long (dn / 1)) (ty := .long) (C := RX5) (T := TX5) (N := 14) hx hb hts hin5 tyX5 tyX5_ok nmX5 hown hK hP hD hS 0 rfl rfl 5 (by decide) lk24 (fun _ h9 => h9) rfl (by decide +kernel) rfl rfl (Nat.le_of_ble_eq_true rfl) dX5_keepFraction_30 (fun H locs hP hD hS => ?_)
    have hP : va_P (dC, dI) vwCl (xO x ((Xtl X, up / 1, dn / 1))) H := hP
    have hD : va_D A (xO x ((Xtl X, up / 1, dn / 1))) := hD
    have hP9 : va_P (dC, dI) vwCl (xO x ((Xtl X, up / 1, dn / 1))) H := hP
    exact W.vret hx hb hr (fun t ht hW => ⟨⟨((Xtl X, up / 1, dn / 1)), rfl, hO.symm.trans hF, by rw [ht]; exact hP9, va_K.moved hW.alike hK, hD⟩, hS.F ht⟩) hS.2.2 dX5_keepFraction_33
def F_X5_swapTurn (Tu : Nat → Int32) (a : Nat) (b : Nat) : (Nat → Int32) := (upd (upd Tu a (Tu b)) b (Tu a))
set_option maxHeartbeats 4000000 in
set_option maxRecDepth 100000 in
theorem c_X5_swapTurn (l : Launch) (dC : Nat → ClassId) (dI : Nat → Nat → Nat) (x : Nat → Nat) (cI : ClassId) (sz : Nat) (X : xS) (Tu : Nat → Int32) (a : Nat) (b : Nat) (h1 : a < 6) (h2 : b < 6) : Met l yX5_swapTurn wsX5_swapTurn { frames := 0, cells := 0, slots := 0, locals := 0 } (xPc (dC, dI) vwCl (xT cI) ((xO x X) ++ ([(x 55, .inl (cI, 6, .inl Tu))])) sz [.ref (x 0), .int (nI a), .int (nI b)]) (va_Qv (fun (u : (Nat → Int32)) => F_X5_swapTurn Tu a b = u) (mB (dC, dI) vwCl (xT cI) (va_A ((xO x X) ++ ([(x 55, .inl (cI, 6, .inl Tu))])) sz) (fun u => (xO x X) ++ ([(x 55, .inl (cI, 6, .inl u))]))) (va_A ((xO x X) ++ ([(x 55, .inl (cI, 6, .inl Tu))])) sz)) 0 0 (va_A ((xO x X) ++ ([(x 55, .inl (cI, 6, .inl Tu))])) sz) := by
  refine Met.ofW (cc := cX5_swapTurn) (maxL := 4) (ret := none) (by decide) rfl ?_
  intro p e s m args below meth c s₁ B hml hv
  obtain ⟨rfl, hsz, hP, hK, hD0, hN⟩ := hv
  have hx := B.exec
  have hb := B.bytes
  have hr := B.returns
  have hts := atoms_spec (ws := wsX5_swapTurn) B.pre
  have hown : s.vm.findClass RX5 = some m.cls := findClass_of_methodNamed B.named
  have hlocks := B.notSynchronized
  subst hsz
  have hD := hD0.self (sz := s.heap.size)
  generalize hAe : va_A ((xO x X) ++ ([(x 55, .inl (cI, 6, .inl Tu))])) s.heap.size = A at hD ⊢
  have hA : ∀ q : Nat, s.heap.size ≤ q → A q := fun q h => by rw [← hAe]; exact Or.inr h
  have hS : va_S A s.heap s.heap [] := va_S.rf
  have hin5 : ∀ w ∈ wsX50, w ∈ wsX5_swapTurn := by decide +kernel
  have lk52 := hts (.fieldLink RX5 52 "PostRounders" "turn" "[I") (by decide +kernel)
  have hl := lv_entry ([.ref (x 0), .int (nI a), .int (nI b)]) (n := 4) (Nat.le_of_ble_eq_true rfl)
  rw [lg_entry_eq]
  generalize (lg_sl ([.ref (x 0), .int (nI a), .int (nI b)]) ++ List.replicate (4 - (lg_sl ([.ref (x 0), .int (nI a), .int (nI b)])).length) Slot.unset).toArray = ls at hl ⊢
  have hl : lv_has ls 4 [(0, .ref (x 0)), (1, .int (nI a)), (2, .int (nI b))] := hl
  obtain ⟨OUT, hO⟩ : ∃ z, z = F_X5_swapTurn Tu a b := ⟨_, rfl⟩
  have hF := hO
  unfold F_X5_swapTurn at hF
  refine lv_aload_n hx hb dX5_swapTurn_0 rfl (lv_at hl 0 rfl) ?_
  refine va_get (D := (dC, dI)) (ci := 5) (v := .ref (x 55)) (C := RX5) (T := TX5) (N := 14) hx hb hts hin5 hown hK hP 0 rfl rfl 10 (by decide) lk52 (fun _ h9 => h9) rfl dX5_swapTurn_1 ?_
  refine lv_iload_n hx hb dX5_swapTurn_4 rfl (lv_at hl 1 rfl) ?_
  refine qv_ald (v := Tu a) hx hb hK hP 1 0 rfl rfl (by omega) (by decide) (rfl) dX5_swapTurn_5 ?_
  refine lv_istore_n (lv' := [(3, .int (Tu a)), (0, .ref (x 0)), (1, .int (nI a)), (2, .int (nI b))]) hx hb dX5_swapTurn_6 rfl hl (by decide) rfl (fun ls hl => ?_)
  refine lv_aload_n hx hb dX5_swapTurn_7 rfl (lv_at hl 1 rfl) ?_
  refine va_get (D := (dC, dI)) (ci := 5) (v := .ref (x 55)) (C := RX5) (T := TX5) (N := 14) hx hb hts hin5 hown hK hP 0 rfl rfl 10 (by decide) lk52 (fun _ h9 => h9) rfl dX5_swapTurn_8 ?_
  refine lv_iload_n hx hb dX5_swapTurn_11 rfl (lv_at hl 2 rfl) ?_
  refine lv_aload_n hx hb dX5_swapTurn_12 rfl (lv_at hl 1 rfl) ?_
  refine va_get (D := (dC, dI)) (ci := 5) (v := .ref (x 55)) (C := RX5) (T := TX5) (N := 14) hx hb hts hin5 hown hK hP 0 rfl rfl 10 (by decide) lk52 (fun _ h9 => h9) rfl dX5_swapTurn_13 ?_
  refine lv_iload_n hx hb dX5_swapTurn_16 rfl (lv_at hl 3 rfl) ?_
  refine qv_ald (v := Tu b) hx hb hK hP 1 0 rfl rfl (by omega) (by decide) (rfl) dX5_swapTurn_17 ?_
  refine qv_ast (ws' := (xO x X) ++ ([(x 55, .inl (cI, 6, .inl (upd Tu a (Tu b))))])) hx hb hK hP hD hS 1 0 rfl rfl (by omega) (by decide) dX5_swapTurn_18 rfl (fun H locs hP hD hS => ?_)
  refine lv_aload_n hx hb dX5_swapTurn_19 rfl (lv_at hl 1 rfl) ?_
  refine va_get (D := (dC, dI)) (ci := 5) (v := .ref (x 55)) (C := RX5) (T := TX5) (N := 14) hx hb hts hin5 hown hK hP 0 rfl rfl 10 (by decide) lk52 (fun _ h9 => h9) rfl dX5_swapTurn_20 ?_
  refine lv_iload_n hx hb dX5_swapTurn_23 rfl (lv_at hl 3 rfl) ?_
  refine lv_iload_n hx hb dX5_swapTurn_24 rfl (lv_at hl 0 rfl) ?_
  refine qv_ast (ws' := (xO x X) ++ ([(x 55, .inl (cI, 6, .inl (upd (upd Tu a (Tu b)) b (Tu a))))])) hx hb hK hP hD hS 1 0 rfl rfl (by omega) (by decide) dX5_swapTurn_25 rfl (fun H locs hP hD hS => ?_)
  have hP9 : va_P (dC, dI) vwCl ((xO x X) ++ ([(x 55, .inl (cI, 6, .inl (upd (upd Tu a (Tu b)) b (Tu a))))])) H := hP
  exact W.vret hx hb hr (fun t ht hW => ⟨⟨(upd (upd Tu a (Tu b)) b (Tu a)), rfl, hO.symm.trans hF, by rw [ht]; exact hP9, va_K.moved hW.alike hK, hD⟩, hS.F ht⟩) hS.2.2 dX5_swapTurn_26
def F_X5_riseTurn_L83 : Nat →  (Nat) → (Nat) → (Nat → Int32) → (Nat) × (Nat) × (Nat → Int32)
  | 0, a, b, l2 => (a, b, l2)
  | n_83 + 1, a, b, l2 => if b ≤ a then (a, b, l2) else let1 (F_X5_swapTurn l2 a b) (fun Tu_95 => F_X5_riseTurn_L83 n_83  (a + 1) ((b - 1)) Tu_95)
def F_X5_riseTurn_L41 : Nat → (Nat → Int32) → (Nat) → (Nat) → (Nat)
  | 0, _, _, jj => jj
  | n_41 + 1, Tu, kk, jj => if jj ≤ (kk - 2) then jj else (if (Tu ((kk - 2))) ≤ (Tu jj) then jj else F_X5_riseTurn_L41 n_41 Tu kk ((jj - 1)))
def F_X5_riseTurn_L4 : Nat → (Nat → Int32) → (Nat) → (Nat)
  | 0, _, kk => kk
  | n_4 + 1, Tu, kk => if ((nI kk) - (nI 2)) < 0 then kk else (if (Tu ((kk - 2))) ≤ (Tu ((kk - 2) + 1)) then kk else F_X5_riseTurn_L4 n_4 Tu ((kk - 1)))
def F_X5_riseTurn (Tu : Nat → Int32) (n : Nat) : Bool × (Nat → Int32) := let1 (F_X5_riseTurn_L4 7 Tu n) (fun kk => if 0 ≤ ((nI kk) - (nI 2)) then let1 (F_X5_riseTurn_L41 7 Tu kk ((n - 1))) (fun jj => let1 (F_X5_swapTurn Tu ((kk - 2)) jj) (fun Tu_70 => let3 (F_X5_riseTurn_L83 7  ((kk - 2) + 1) ((n - 1)) Tu_70) (fun a b l2 => (true, l2)))) else (false, Tu))
set_option maxHeartbeats 4000000 in
set_option maxRecDepth 100000 in
theorem c_X5_riseTurn (l : Launch) (dC : Nat → ClassId) (dI : Nat → Nat → Nat) (x : Nat → Nat) (cI : ClassId) (sz : Nat) (X : xS) (Tu : Nat → Int32) (n : Nat) (h2 : n ≤ 6) : Met l yX5_riseTurn wsX5_riseTurn { frames := 1, cells := 0, slots := 0, locals := 23 } (xPc (dC, dI) vwCl (xT cI) ((xO x X) ++ ([(x 55, .inl (cI, 6, .inl Tu))])) sz [.ref (x 0), .int (nI n)]) (va_Qi (fun (r : Int32) (u : (Nat → Int32)) => ∃ z : Bool, F_X5_riseTurn Tu n = (z, u) ∧ r = if z = true then 1 else 0) (mB (dC, dI) vwCl (xT cI) (va_A ((xO x X) ++ ([(x 55, .inl (cI, 6, .inl Tu))])) sz) (fun u => (xO x X) ++ ([(x 55, .inl (cI, 6, .inl u))]))) (va_A ((xO x X) ++ ([(x 55, .inl (cI, 6, .inl Tu))])) sz)) 0 0 (va_A ((xO x X) ++ ([(x 55, .inl (cI, 6, .inl Tu))])) sz) := by
  refine Met.ofW (cc := cX5_riseTurn) (maxL := 6) (ret := (some .boolean)) (by decide) rfl ?_
  intro p e s m args below meth c s₁ B hml hv
  obtain ⟨rfl, hsz, hP, hK, hD0, hN⟩ := hv
  have hx := B.exec
  have hb := B.bytes
  have hr := B.returns
  have hts := atoms_spec (ws := wsX5_riseTurn) B.pre
  have hown : s.vm.findClass RX5 = some m.cls := findClass_of_methodNamed B.named
  have hlocks := B.notSynchronized
  subst hsz
  have hD := hD0.self (sz := s.heap.size)
  generalize hAe : va_A ((xO x X) ++ ([(x 55, .inl (cI, 6, .inl Tu))])) s.heap.size = A at hD ⊢
  have hA : ∀ q : Nat, s.heap.size ≤ q → A q := fun q h => by rw [← hAe]; exact Or.inr h
  have hS : va_S A s.heap s.heap [] := va_S.rf
  have hin5 : ∀ w ∈ wsX50, w ∈ wsX5_riseTurn := by decide +kernel
  have lk52 := hts (.fieldLink RX5 52 "PostRounders" "turn" "[I") (by decide +kernel)
  have hl := lv_entry ([.ref (x 0), .int (nI n)]) (n := 6) (Nat.le_of_ble_eq_true rfl)
  rw [lg_entry_eq]
  generalize (lg_sl ([.ref (x 0), .int (nI n)]) ++ List.replicate (6 - (lg_sl ([.ref (x 0), .int (nI n)])).length) Slot.unset).toArray = ls at hl ⊢
  have hl : lv_has ls 6 [(0, .ref (x 0)), (1, .int (nI n))] := hl
  obtain ⟨OUT, hO⟩ : ∃ z, z = F_X5_riseTurn Tu n := ⟨_, rfl⟩
  have hF := hO
  unfold F_X5_riseTurn at hF
  refine lv_iload_n hx hb dX5_riseTurn_0 rfl (lv_at hl 1 rfl) ?_
  refine lv_iconst (v := nI 2) hx hb dX5_riseTurn_1 (by decide) ?_
  refine lv_isub hx hb dX5_riseTurn_2 ?_
  refine lv_istore_n (lv' := [(2, .int ((nI n) - (nI 2))), (0, .ref (x 0)), (1, .int (nI n))]) hx hb dX5_riseTurn_3 rfl hl (by decide) rfl (fun ls hl => ?_)
  have L_4 : ∀ (n_4 : Nat) (kk : Nat) (H : Heap) (locs : List Loc), kk ≤ n → kk < n_4 → va_P (dC, dI) vwCl ((xO x X) ++ ([(x 55, .inl (cI, 6, .inl Tu))])) H → va_D A ((xO x X) ++ ([(x 55, .inl (cI, 6, .inl Tu))])) → va_S A s.heap H locs → ∀ (ls : Array Slot), lv_has ls 6 [(2, .int ((nI kk) - (nI 2))), (0, .ref (x 0)), (1, .int (nI n))] → OUT = let1 (F_X5_riseTurn_L4 n_4 Tu kk) (fun kk => if 0 ≤ ((nI kk) - (nI 2)) then let1 (F_X5_riseTurn_L41 7 Tu kk ((n - 1))) (fun jj => let1 (F_X5_swapTurn Tu ((kk - 2)) jj) (fun Tu_70 => let3 (F_X5_riseTurn_L83 7  ((kk - 2) + 1) ((n - 1)) Tu_70) (fun a b l2 => (true, l2)))) else (false, Tu)) → W p l e (headSpec wsX5_riseTurn { frames := 1, cells := 0, slots := 0, locals := 23 }).room s m ([.ref (x 0), .int (nI n)] : List Value).toArray below meth c H locs 0 0 (MQ below (va_Qi (fun (r : Int32) (u : (Nat → Int32)) => ∃ z : Bool, F_X5_riseTurn Tu n = (z, u) ∧ r = if z = true then 1 else 0) (mB (dC, dI) vwCl (xT cI) A (fun u => (xO x X) ++ ([(x 55, .inl (cI, 6, .inl u))]))) A) ([.ref (x 0), .int (nI n)] : List Value).toArray s 0 0 A) (F0 m 4 ls []) := by
    intro n_4
    induction n_4 with
    | zero => intro kk H locs i0 hmu; exact absurd hmu (Nat.not_lt_zero _)
    | succ n_4 ih_4 =>
      intro kk H locs i0 hmu_4 hP hD hS ls hl hF
      rw [F_X5_riseTurn_L4] at hF
      refine lv_iload_n hx hb dX5_riseTurn_4 rfl (lv_at hl 0 rfl) ?_
      refine lv_if_lt (tgt := 31) hx hb dX5_riseTurn_5 (by decide) (fun c_5 => ?_) (fun c_5 => ?_)
      · rw [if_pos c_5] at hF
        rw [let1_mk (kk : Nat)] at hF
        refine lv_iload_n hx hb dX5_riseTurn_31 rfl (lv_at hl 0 rfl) ?_
        refine lv_if_ge (tgt := 37) hx hb dX5_riseTurn_32 (by decide) (fun c_32 => absurd c_32 (pred2_no c_5)) (fun _ => ?_)
        rw [if_neg (pred2_no c_5)] at hF
        refine lv_iconst (v := nI 0) hx hb dX5_riseTurn_35 (by decide) ?_
        have hP9 : va_P (dC, dI) vwCl ((xO x X) ++ ([(x 55, .inl (cI, 6, .inl Tu))])) H := hP
        exact W.zret (v := nI 0) hx hb hr (by rfl) (fun t ht hW => ⟨⟨_, (Tu), rfl, ⟨false, hO.symm.trans hF, rfl⟩, by rw [ht]; exact hP9, va_K.moved hW.alike hK, hD⟩, hS.F ht⟩) hS.2.2 dX5_riseTurn_36
      · rw [if_neg c_5] at hF
        have g_k := pred2_pos c_5
        refine lv_aload_n hx hb dX5_riseTurn_8 rfl (lv_at hl 1 rfl) ?_
        refine va_get (D := (dC, dI)) (ci := 5) (v := .ref (x 55)) (C := RX5) (T := TX5) (N := 14) hx hb hts hin5 hown hK hP 0 rfl rfl 10 (by decide) lk52 (fun _ h9 => h9) rfl dX5_riseTurn_9 ?_
        refine lv_iload_n hx hb dX5_riseTurn_12 rfl (lv_at hl 0 rfl) ?_
        refine qv_top (pred2_eq g_k) ?_
        refine qv_ald (v := Tu ((kk - 2))) hx hb hK hP 1 0 rfl rfl (by omega) (by decide) (rfl) dX5_riseTurn_13 ?_
        refine lv_aload_n hx hb dX5_riseTurn_14 rfl (lv_at hl 1 rfl) ?_
        refine va_get (D := (dC, dI)) (ci := 5) (v := .ref (x 55)) (C := RX5) (T := TX5) (N := 14) hx hb hts hin5 hown hK hP 0 rfl rfl 10 (by decide) lk52 (fun _ h9 => h9) rfl dX5_riseTurn_15 ?_
        refine lv_iload_n hx hb dX5_riseTurn_18 rfl (lv_at hl 0 rfl) ?_
        refine qv_top (pred2_eq g_k) ?_
        refine lv_iconst (v := nI 1) hx hb dX5_riseTurn_19 (by decide) ?_
        refine qv_iadd hx hb ((kk - 2) + 1) dX5_riseTurn_20 (by omega) ?_
        refine qv_ald (v := Tu ((kk - 2) + 1)) hx hb hK hP 1 0 rfl rfl (by omega) (by decide) (rfl) dX5_riseTurn_21 ?_
        refine lv_icmp_le (tgt := 31) hx hb dX5_riseTurn_22 (by decide) (fun c_22 => ?_) (fun c_22 => ?_)
        · rw [if_pos c_22] at hF
          rw [let1_mk (kk : Nat)] at hF
          refine lv_iload_n hx hb dX5_riseTurn_31 rfl (lv_at hl 0 rfl) ?_
          refine lv_if_ge (tgt := 37) hx hb dX5_riseTurn_32 (by decide) (fun c_32 => ?_) (fun c_32 => ?_)
          · rw [if_pos c_32] at hF
            refine lv_iload_n hx hb dX5_riseTurn_37 rfl (lv_at hl 2 rfl) ?_
            refine lv_iconst (v := nI 1) hx hb dX5_riseTurn_38 (by decide) ?_
            refine qv_isub hx hb (n - 1) dX5_riseTurn_39 (by omega) ?_
            refine lv_istore_n (lv' := [(3, .int (nI ((n - 1)))), (2, .int ((nI kk) - (nI 2))), (0, .ref (x 0)), (1, .int (nI n))]) hx hb dX5_riseTurn_40 rfl hl (by decide) rfl (fun ls hl => ?_)
            have L_41 : ∀ (n_41 : Nat) (jj : Nat) (H : Heap) (locs : List Loc), jj ≤ n - 1 → kk - 2 ≤ jj → jj < n_41 → va_P (dC, dI) vwCl ((xO x X) ++ ([(x 55, .inl (cI, 6, .inl Tu))])) H → va_D A ((xO x X) ++ ([(x 55, .inl (cI, 6, .inl Tu))])) → va_S A s.heap H locs → ∀ (ls : Array Slot), lv_has ls 6 [(3, .int (nI jj)), (2, .int ((nI kk) - (nI 2))), (0, .ref (x 0)), (1, .int (nI n))] → OUT = let1 (F_X5_riseTurn_L41 n_41 Tu kk jj) (fun jj => let1 (F_X5_swapTurn Tu ((kk - 2)) jj) (fun Tu_70 => let3 (F_X5_riseTurn_L83 7  ((kk - 2) + 1) ((n - 1)) Tu_70) (fun a b l2 => (true, l2)))) → W p l e (headSpec wsX5_riseTurn { frames := 1, cells := 0, slots := 0, locals := 23 }).room s m ([.ref (x 0), .int (nI n)] : List Value).toArray below meth c H locs 0 0 (MQ below (va_Qi (fun (r : Int32) (u : (Nat → Int32)) => ∃ z : Bool, F_X5_riseTurn Tu n = (z, u) ∧ r = if z = true then 1 else 0) (mB (dC, dI) vwCl (xT cI) A (fun u => (xO x X) ++ ([(x 55, .inl (cI, 6, .inl u))]))) A) ([.ref (x 0), .int (nI n)] : List Value).toArray s 0 0 A) (F0 m 41 ls []) := by
              intro n_41
              induction n_41 with
              | zero => intro jj H locs j0 j1 hmu; exact absurd hmu (Nat.not_lt_zero _)
              | succ n_41 ih_41 =>
                intro jj H locs j0 j1 hmu_41 hP hD hS ls hl hF
                rw [F_X5_riseTurn_L41] at hF
                refine lv_iload_n hx hb dX5_riseTurn_41 rfl (lv_at hl 0 rfl) ?_
                refine lv_iload_n hx hb dX5_riseTurn_42 rfl (lv_at hl 1 rfl) ?_
                refine qv_top (pred2_eq g_k) ?_
                refine qv_icmp_le (tgt := 67) hx hb dX5_riseTurn_43 (by decide) (by omega) (by omega) (fun c_43 => ?_) (fun c_43 => ?_)
                · rw [if_pos c_43] at hF
                  rw [let1_mk (jj : Nat)] at hF
                  refine lv_aload_n hx hb dX5_riseTurn_67 rfl (lv_at hl 2 rfl) ?_
                  refine lv_iload_n hx hb dX5_riseTurn_68 rfl (lv_at hl 1 rfl) ?_
                  refine qv_top (pred2_eq g_k) ?_
                  refine lv_iload_n hx hb dX5_riseTurn_69 rfl (lv_at hl 0 rfl) ?_
                  refine qx_Vv (C := RX5) (As := [.int (nI ((kk - 2))), .int (nI jj)]) (rest := []) (ci := 5) (k0 := 0) (wr := []) (ws2 := fun u => (xO x X) ++ ([(x 55, .inl (cI, 6, .inl u))])) [0, 1] [] [0, 1] ⟨hx, hb, hml, hown, hts⟩ (c_X5_swapTurn l dC dI x cI H.size X Tu ((kk - 2)) jj (by omega) (by omega)) (cwV 2 hts gX5_riseTurn_X5_swapTurn rfl rfl rfl (by decide +kernel) ⟨Nat.le_of_ble_eq_true rfl, Nat.le_of_ble_eq_true rfl⟩) (hK.sub [0] rfl) hK hP hD hS hA hN rfl rfl (by decide) (by decide) (by decide) (by decide) (fun _ => rfl) rfl rfl rfl rfl hl.1 rfl (Nat.le_of_ble_eq_true rfl) dX5_riseTurn_70 ⟨Nat.zero_le _, Nat.zero_le _⟩ (fun u_70 H locs hw_70 hP hD hS => ?_)
                  obtain ⟨Tu_70, rfl⟩ : ∃ z, z = u_70 := ⟨_, rfl⟩
                  have hP : va_P (dC, dI) vwCl ((xO x X) ++ ([(x 55, .inl (cI, 6, .inl Tu_70))])) H := hP
                  have hD : va_D A ((xO x X) ++ ([(x 55, .inl (cI, 6, .inl Tu_70))])) := hD
                  rw [hw_70, let1_mk Tu_70] at hF
                  refine lv_iload_n hx hb dX5_riseTurn_73 rfl (lv_at hl 1 rfl) ?_
                  refine qv_top (pred2_eq g_k) ?_
                  refine lv_iconst (v := nI 1) hx hb dX5_riseTurn_74 (by decide) ?_
                  refine qv_iadd hx hb ((kk - 2) + 1) dX5_riseTurn_75 (by omega) ?_
                  refine lv_istore (lv' := [(4, .int (nI ((kk - 2) + 1))), (3, .int (nI jj)), (2, .int ((nI kk) - (nI 2))), (0, .ref (x 0)), (1, .int (nI n))]) hx hb dX5_riseTurn_76 hl (by decide) rfl (fun ls hl => ?_)
                  refine lv_iload_n hx hb dX5_riseTurn_78 rfl (lv_at hl 4 rfl) ?_
                  refine lv_iconst (v := nI 1) hx hb dX5_riseTurn_79 (by decide) ?_
                  refine qv_isub hx hb (n - 1) dX5_riseTurn_80 (by omega) ?_
                  refine lv_istore (lv' := [(5, .int (nI ((n - 1)))), (4, .int (nI ((kk - 2) + 1))), (3, .int (nI jj)), (2, .int ((nI kk) - (nI 2))), (0, .ref (x 0)), (1, .int (nI n))]) hx hb dX5_riseTurn_81 hl (by decide) rfl (fun ls hl => ?_)
                  have L_83 : ∀ (n_83 : Nat) (a : Nat) (b : Nat) (l2 : Nat → Int32) (H : Heap) (locs : List Loc), a ≤ 6 → b ≤ 5 → b - a < n_83 → va_P (dC, dI) vwCl ((xO x X) ++ ([(x 55, .inl (cI, 6, .inl l2))])) H → va_D A ((xO x X) ++ ([(x 55, .inl (cI, 6, .inl l2))])) → va_S A s.heap H locs → ∀ (ls : Array Slot), lv_has ls 6 [(5, .int (nI b)), (4, .int (nI a)), (3, .int (nI jj)), (2, .int ((nI kk) - (nI 2))), (0, .ref (x 0)), (1, .int (nI n))] → OUT = let3 (F_X5_riseTurn_L83 n_83  a b l2) (fun a b l2 => (true, l2)) → W p l e (headSpec wsX5_riseTurn { frames := 1, cells := 0, slots := 0, locals := 23 }).room s m ([.ref (x 0), .int (nI n)] : List Value).toArray below meth c H locs 0 0 (MQ below (va_Qi (fun (r : Int32) (u : (Nat → Int32)) => ∃ z : Bool, F_X5_riseTurn Tu n = (z, u) ∧ r = if z = true then 1 else 0) (mB (dC, dI) vwCl (xT cI) A (fun u => (xO x X) ++ ([(x 55, .inl (cI, 6, .inl u))]))) A) ([.ref (x 0), .int (nI n)] : List Value).toArray s 0 0 A) (F0 m 83 ls []) := by
                    intro n_83
                    induction n_83 with
                    | zero => intro a b l2 H locs l0 l1 hmu; exact absurd hmu (Nat.not_lt_zero _)
                    | succ n_83 ih_83 =>
                      intro a b l2 H locs l0 l1 hmu_83 hP hD hS ls hl hF
                      rw [F_X5_riseTurn_L83] at hF
                      refine lv_iload hx hb dX5_riseTurn_83 (lv_at hl 1 rfl) ?_
                      refine lv_iload hx hb dX5_riseTurn_85 (lv_at hl 0 rfl) ?_
                      refine qv_icmp_ge (tgt := 107) hx hb dX5_riseTurn_87 (by decide) (by omega) (by omega) (fun c_87 => ?_) (fun c_87 => ?_)
                      · rw [if_pos c_87] at hF
                        rw [let3_mk (a : Nat) (b : Nat) (l2 : Nat → Int32)] at hF
                        refine lv_iconst (v := nI 1) hx hb dX5_riseTurn_107 (by decide) ?_
                        have hP9 : va_P (dC, dI) vwCl ((xO x X) ++ ([(x 55, .inl (cI, 6, .inl l2))])) H := hP
                        exact W.zret (v := nI 1) hx hb hr (by rfl) (fun t ht hW => ⟨⟨_, (l2), rfl, ⟨true, hO.symm.trans hF, rfl⟩, by rw [ht]; exact hP9, va_K.moved hW.alike hK, hD⟩, hS.F ht⟩) hS.2.2 dX5_riseTurn_108
                      · rw [if_neg c_87] at hF
                        refine lv_aload_n hx hb dX5_riseTurn_90 rfl (lv_at hl 4 rfl) ?_
                        refine lv_iload hx hb dX5_riseTurn_91 (lv_at hl 1 rfl) ?_
                        refine lv_iload hx hb dX5_riseTurn_93 (lv_at hl 0 rfl) ?_
                        refine qx_Vv (C := RX5) (As := [.int (nI a), .int (nI b)]) (rest := []) (ci := 5) (k0 := 0) (wr := []) (ws2 := fun u => (xO x X) ++ ([(x 55, .inl (cI, 6, .inl u))])) [0, 1] [] [0, 1] ⟨hx, hb, hml, hown, hts⟩ (c_X5_swapTurn l dC dI x cI H.size X l2 a b (by omega) (by omega)) (cwV 2 hts gX5_riseTurn_X5_swapTurn rfl rfl rfl (by decide +kernel) ⟨Nat.le_of_ble_eq_true rfl, Nat.le_of_ble_eq_true rfl⟩) (hK.sub [0] rfl) hK hP hD hS hA hN rfl rfl (by decide) (by decide) (by decide) (by decide) (fun _ => rfl) rfl rfl rfl rfl hl.1 rfl (Nat.le_of_ble_eq_true rfl) dX5_riseTurn_95 ⟨Nat.zero_le _, Nat.zero_le _⟩ (fun u_95 H locs hw_95 hP hD hS => ?_)
                        obtain ⟨Tu_95, rfl⟩ : ∃ z, z = u_95 := ⟨_, rfl⟩
                        have hP : va_P (dC, dI) vwCl ((xO x X) ++ ([(x 55, .inl (cI, 6, .inl Tu_95))])) H := hP
                        have hD : va_D A ((xO x X) ++ ([(x 55, .inl (cI, 6, .inl Tu_95))])) := hD
                        rw [hw_95, let1_mk Tu_95] at hF
                        refine lv_iinc (v := nI (a + 1)) (lv' := [(4, .int (nI (a + 1))), (5, .int (nI b)), (3, .int (nI jj)), (2, .int ((nI kk) - (nI 2))), (0, .ref (x 0)), (1, .int (nI n))]) hx hb dX5_riseTurn_98 hl (k := 1) rfl (qn_inc (c := 1) rfl (by omega)) (by decide) rfl (fun ls hl => ?_)
                        refine lv_iinc (v := nI ((b - 1))) (lv' := [(5, .int (nI ((b - 1)))), (4, .int (nI (a + 1))), (3, .int (nI jj)), (2, .int ((nI kk) - (nI 2))), (0, .ref (x 0)), (1, .int (nI n))]) hx hb dX5_riseTurn_101 hl (k := 1) rfl (qn_dec (by omega)) (by decide) rfl (fun ls hl => ?_)
                        refine lv_goto (tgt := 83) hx hb dX5_riseTurn_104 (by decide) ?_
                        exact ih_83 (a + 1) ((b - 1)) Tu_95 H locs (by omega) (by omega) (by omega) hP hD hS ls (lv_sub hl [0, 1, 2, 3, 4, 5] rfl) hF
                  exact L_83 7 ((kk - 2) + 1) ((n - 1)) Tu_70 H locs (by omega) (by omega) (by omega) hP hD hS ls (lv_sub hl [0, 1, 2, 3, 4, 5] rfl) hF
                · rw [if_neg c_43] at hF
                  refine lv_aload_n hx hb dX5_riseTurn_46 rfl (lv_at hl 2 rfl) ?_
                  refine va_get (D := (dC, dI)) (ci := 5) (v := .ref (x 55)) (C := RX5) (T := TX5) (N := 14) hx hb hts hin5 hown hK hP 0 rfl rfl 10 (by decide) lk52 (fun _ h9 => h9) rfl dX5_riseTurn_47 ?_
                  refine lv_iload_n hx hb dX5_riseTurn_50 rfl (lv_at hl 0 rfl) ?_
                  refine qv_ald (v := Tu jj) hx hb hK hP 1 0 rfl rfl (by omega) (by decide) (rfl) dX5_riseTurn_51 ?_
                  refine lv_aload_n hx hb dX5_riseTurn_52 rfl (lv_at hl 2 rfl) ?_
                  refine va_get (D := (dC, dI)) (ci := 5) (v := .ref (x 55)) (C := RX5) (T := TX5) (N := 14) hx hb hts hin5 hown hK hP 0 rfl rfl 10 (by decide) lk52 (fun _ h9 => h9) rfl dX5_riseTurn_53 ?_
                  refine lv_iload_n hx hb dX5_riseTurn_56 rfl (lv_at hl 1 rfl) ?_
                  refine qv_top (pred2_eq g_k) ?_
                  refine qv_ald (v := Tu ((kk - 2))) hx hb hK hP 1 0 rfl rfl (by omega) (by decide) (rfl) dX5_riseTurn_57 ?_
                  refine lv_icmp_ge (tgt := 67) hx hb dX5_riseTurn_58 (by decide) (fun c_58 => ?_) (fun c_58 => ?_)
                  · rw [if_pos c_58] at hF
                    rw [let1_mk (jj : Nat)] at hF
                    refine lv_aload_n hx hb dX5_riseTurn_67 rfl (lv_at hl 2 rfl) ?_
                    refine lv_iload_n hx hb dX5_riseTurn_68 rfl (lv_at hl 1 rfl) ?_
                    refine qv_top (pred2_eq g_k) ?_
                    refine lv_iload_n hx hb dX5_riseTurn_69 rfl (lv_at hl 0 rfl) ?_
                    refine qx_Vv (C := RX5) (As := [.int (nI ((kk - 2))), .int (nI jj)]) (rest := []) (ci := 5) (k0 := 0) (wr := []) (ws2 := fun u => (xO x X) ++ ([(x 55, .inl (cI, 6, .inl u))])) [0, 1] [] [0, 1] ⟨hx, hb, hml, hown, hts⟩ (c_X5_swapTurn l dC dI x cI H.size X Tu ((kk - 2)) jj (by omega) (by omega)) (cwV 2 hts gX5_riseTurn_X5_swapTurn rfl rfl rfl (by decide +kernel) ⟨Nat.le_of_ble_eq_true rfl, Nat.le_of_ble_eq_true rfl⟩) (hK.sub [0] rfl) hK hP hD hS hA hN rfl rfl (by decide) (by decide) (by decide) (by decide) (fun _ => rfl) rfl rfl rfl rfl hl.1 rfl (Nat.le_of_ble_eq_true rfl) dX5_riseTurn_70 ⟨Nat.zero_le _, Nat.zero_le _⟩ (fun u_70 H locs hw_70 hP hD hS => ?_)
                    obtain ⟨Tu_70, rfl⟩ : ∃ z, z = u_70 := ⟨_, rfl⟩
                    have hP : va_P (dC, dI) vwCl ((xO x X) ++ ([(x 55, .inl (cI, 6, .inl Tu_70))])) H := hP
                    have hD : va_D A ((xO x X) ++ ([(x 55, .inl (cI, 6, .inl Tu_70))])) := hD
                    rw [hw_70, let1_mk Tu_70] at hF
                    refine lv_iload_n hx hb dX5_riseTurn_73 rfl (lv_at hl 1 rfl) ?_
                    refine qv_top (pred2_eq g_k) ?_
                    refine lv_iconst (v := nI 1) hx hb dX5_riseTurn_74 (by decide) ?_
                    refine qv_iadd hx hb ((kk - 2) + 1) dX5_riseTurn_75 (by omega) ?_
                    refine lv_istore (lv' := [(4, .int (nI ((kk - 2) + 1))), (3, .int (nI jj)), (2, .int ((nI kk) - (nI 2))), (0, .ref (x 0)), (1, .int (nI n))]) hx hb dX5_riseTurn_76 hl (by decide) rfl (fun ls hl => ?_)
                    refine lv_iload_n hx hb dX5_riseTurn_78 rfl (lv_at hl 4 rfl) ?_
                    refine lv_iconst (v := nI 1) hx hb dX5_riseTurn_79 (by decide) ?_
                    refine qv_isub hx hb (n - 1) dX5_riseTurn_80 (by omega) ?_
                    refine lv_istore (lv' := [(5, .int (nI ((n - 1)))), (4, .int (nI ((kk - 2) + 1))), (3, .int (nI jj)), (2, .int ((nI kk) - (nI 2))), (0, .ref (x 0)), (1, .int (nI n))]) hx hb dX5_riseTurn_81 hl (by decide) rfl (fun ls hl => ?_)
                    have L_83 : ∀ (n_83 : Nat) (a : Nat) (b : Nat) (l2 : Nat → Int32) (H : Heap) (locs : List Loc), a ≤ 6 → b ≤ 5 → b - a < n_83 → va_P (dC, dI) vwCl ((xO x X) ++ ([(x 55, .inl (cI, 6, .inl l2))])) H → va_D A ((xO x X) ++ ([(x 55, .inl (cI, 6, .inl l2))])) → va_S A s.heap H locs → ∀ (ls : Array Slot), lv_has ls 6 [(5, .int (nI b)), (4, .int (nI a)), (3, .int (nI jj)), (2, .int ((nI kk) - (nI 2))), (0, .ref (x 0)), (1, .int (nI n))] → OUT = let3 (F_X5_riseTurn_L83 n_83  a b l2) (fun a b l2 => (true, l2)) → W p l e (headSpec wsX5_riseTurn { frames := 1, cells := 0, slots := 0, locals := 23 }).room s m ([.ref (x 0), .int (nI n)] : List Value).toArray below meth c H locs 0 0 (MQ below (va_Qi (fun (r : Int32) (u : (Nat → Int32)) => ∃ z : Bool, F_X5_riseTurn Tu n = (z, u) ∧ r = if z = true then 1 else 0) (mB (dC, dI) vwCl (xT cI) A (fun u => (xO x X) ++ ([(x 55, .inl (cI, 6, .inl u))]))) A) ([.ref (x 0), .int (nI n)] : List Value).toArray s 0 0 A) (F0 m 83 ls []) := by
                      intro n_83
                      induction n_83 with
                      | zero => intro a b l2 H locs l0 l1 hmu; exact absurd hmu (Nat.not_lt_zero _)
                      | succ n_83 ih_83 =>
                        intro a b l2 H locs l0 l1 hmu_83 hP hD hS ls hl hF
                        rw [F_X5_riseTurn_L83] at hF
                        refine lv_iload hx hb dX5_riseTurn_83 (lv_at hl 1 rfl) ?_
                        refine lv_iload hx hb dX5_riseTurn_85 (lv_at hl 0 rfl) ?_
                        refine qv_icmp_ge (tgt := 107) hx hb dX5_riseTurn_87 (by decide) (by omega) (by omega) (fun c_87 => ?_) (fun c_87 => ?_)
                        · rw [if_pos c_87] at hF
                          rw [let3_mk (a : Nat) (b : Nat) (l2 : Nat → Int32)] at hF
                          refine lv_iconst (v := nI 1) hx hb dX5_riseTurn_107 (by decide) ?_
                          have hP9 : va_P (dC, dI) vwCl ((xO x X) ++ ([(x 55, .inl (cI, 6, .inl l2))])) H := hP
                          exact W.zret (v := nI 1) hx hb hr (by rfl) (fun t ht hW => ⟨⟨_, (l2), rfl, ⟨true, hO.symm.trans hF, rfl⟩, by rw [ht]; exact hP9, va_K.moved hW.alike hK, hD⟩, hS.F ht⟩) hS.2.2 dX5_riseTurn_108
                        · rw [if_neg c_87] at hF
                          refine lv_aload_n hx hb dX5_riseTurn_90 rfl (lv_at hl 4 rfl) ?_
                          refine lv_iload hx hb dX5_riseTurn_91 (lv_at hl 1 rfl) ?_
                          refine lv_iload hx hb dX5_riseTurn_93 (lv_at hl 0 rfl) ?_
                          refine qx_Vv (C := RX5) (As := [.int (nI a), .int (nI b)]) (rest := []) (ci := 5) (k0 := 0) (wr := []) (ws2 := fun u => (xO x X) ++ ([(x 55, .inl (cI, 6, .inl u))])) [0, 1] [] [0, 1] ⟨hx, hb, hml, hown, hts⟩ (c_X5_swapTurn l dC dI x cI H.size X l2 a b (by omega) (by omega)) (cwV 2 hts gX5_riseTurn_X5_swapTurn rfl rfl rfl (by decide +kernel) ⟨Nat.le_of_ble_eq_true rfl, Nat.le_of_ble_eq_true rfl⟩) (hK.sub [0] rfl) hK hP hD hS hA hN rfl rfl (by decide) (by decide) (by decide) (by decide) (fun _ => rfl) rfl rfl rfl rfl hl.1 rfl (Nat.le_of_ble_eq_true rfl) dX5_riseTurn_95 ⟨Nat.zero_le _, Nat.zero_le _⟩ (fun u_95 H locs hw_95 hP hD hS => ?_)
                          obtain ⟨Tu_95, rfl⟩ : ∃ z, z = u_95 := ⟨_, rfl⟩
                          have hP : va_P (dC, dI) vwCl ((xO x X) ++ ([(x 55, .inl (cI, 6, .inl Tu_95))])) H := hP
                          have hD : va_D A ((xO x X) ++ ([(x 55, .inl (cI, 6, .inl Tu_95))])) := hD
                          rw [hw_95, let1_mk Tu_95] at hF
                          refine lv_iinc (v := nI (a + 1)) (lv' := [(4, .int (nI (a + 1))), (5, .int (nI b)), (3, .int (nI jj)), (2, .int ((nI kk) - (nI 2))), (0, .ref (x 0)), (1, .int (nI n))]) hx hb dX5_riseTurn_98 hl (k := 1) rfl (qn_inc (c := 1) rfl (by omega)) (by decide) rfl (fun ls hl => ?_)
                          refine lv_iinc (v := nI ((b - 1))) (lv' := [(5, .int (nI ((b - 1)))), (4, .int (nI (a + 1))), (3, .int (nI jj)), (2, .int ((nI kk) - (nI 2))), (0, .ref (x 0)), (1, .int (nI n))]) hx hb dX5_riseTurn_101 hl (k := 1) rfl (qn_dec (by omega)) (by decide) rfl (fun ls hl => ?_)
                          refine lv_goto (tgt := 83) hx hb dX5_riseTurn_104 (by decide) ?_
                          exact ih_83 (a + 1) ((b - 1)) Tu_95 H locs (by omega) (by omega) (by omega) hP hD hS ls (lv_sub hl [0, 1, 2, 3, 4, 5] rfl) hF
                    exact L_83 7 ((kk - 2) + 1) ((n - 1)) Tu_70 H locs (by omega) (by omega) (by omega) hP hD hS ls (lv_sub hl [0, 1, 2, 3, 4, 5] rfl) hF
                  · rw [if_neg c_58] at hF
                    refine lv_iinc (v := nI ((jj - 1))) (lv' := [(3, .int (nI ((jj - 1)))), (2, .int ((nI kk) - (nI 2))), (0, .ref (x 0)), (1, .int (nI n))]) hx hb dX5_riseTurn_61 hl (k := 0) rfl (qn_dec (by omega)) (by decide) rfl (fun ls hl => ?_)
                    refine lv_goto (tgt := 41) hx hb dX5_riseTurn_64 (by decide) ?_
                    exact ih_41 ((jj - 1)) H locs (by omega) (by omega) (by omega) hP hD hS ls (lv_sub hl [0, 1, 2, 3] rfl) hF
            exact L_41 7 ((n - 1)) H locs (by omega) (by omega) (by omega) hP hD hS ls (lv_sub hl [0, 1, 2, 3] rfl) hF
          · rw [if_neg c_32] at hF
            refine lv_iconst (v := nI 0) hx hb dX5_riseTurn_35 (by decide) ?_
            have hP9 : va_P (dC, dI) vwCl ((xO x X) ++ ([(x 55, .inl (cI, 6, .inl Tu))])) H := hP
            exact W.zret (v := nI 0) hx hb hr (by rfl) (fun t ht hW => ⟨⟨_, (Tu), rfl, ⟨false, hO.symm.trans hF, rfl⟩, by rw [ht]; exact hP9, va_K.moved hW.alike hK, hD⟩, hS.F ht⟩) hS.2.2 dX5_riseTurn_36
        · rw [if_neg c_22] at hF
          refine lv_iinc (v := (nI ((kk - 1))) - (nI 2)) (lv' := [(2, .int ((nI ((kk - 1))) - (nI 2))), (0, .ref (x 0)), (1, .int (nI n))]) hx hb dX5_riseTurn_25 hl (k := 0) rfl (qn_pdec2 (by omega)) (by decide) rfl (fun ls hl => ?_)
          refine lv_goto (tgt := 4) hx hb dX5_riseTurn_28 (by decide) ?_
          exact ih_4 ((kk - 1)) H locs (by omega) (by omega) hP hD hS ls (lv_sub hl [0, 1, 2] rfl) hF
  exact L_4 7 n s.heap [] (by omega) (by omega) hP hD hS ls (lv_sub hl [0, 1, 2] rfl) hF
theorem L_lineUp (O : pS) (Od : Nat → Int32) : ∀ (f k : Nat) (P1 : pS), inB (Psz P1) 6 → inB (Psz (F_X2_lineUp_L18 f O Od k P1).2) 6
  | 0, _, _, h => h
  | f + 1, k, P1, h => by
    rw [F_X2_lineUp_L18]
    split
    · exact h
    · split
      · exact h
      · split
        · simp only [let2]
          exact L_lineUp O Od f (k + 1) _ (join_at (P := P1) (k := (Pkd O) (tN (Od k))) (lg := (Plg O) (tN (Od k))) (r := (F_X2_join P1 ((Pkd O) (tN (Od k))) ((Plg O) (tN (Od k)))).1) (P' := (F_X2_join P1 ((Pkd O) (tN (Od k))) ((Plg O) (tN (Od k)))).2) rfl h).1
        · exact L_lineUp O Od f (k + 1) P1 h
theorem lineUp_at {P P' O : pS} {Od : Nat → Int32} (e : F_X2_lineUp P O Od = P') (h : inB (Psz O) 6) : inB (Psz P') 6 := by
  rw [← e]
  unfold F_X2_lineUp
  simp only [let1, let2]
  exact L_lineUp O Od 7 0 _ (inB_nI (by decide) (by decide))
def F_X5_findBestTurn_L41 : Nat → (Nat) → (pS) → (Nat → Int32) → (Nat) → (Int32) → (pS) → (Nat → Int32) → (Nat → Int32) → (Nat) × (Int32) × (pS) × (Nat → Int32) × (Nat → Int32)
  | 0, _, _, _, td, ms, T1, u1, b1 => (td, ms, T1, u1, b1)
  | n_41 + 1, n, P, Rw, td, ms, T1, u1, b1 => if 720 ≤ td then (td, ms, T1, u1, b1) else let1 (F_X2_lineUp T1 P u1) (fun Tr_64 => let2 (F_X2_playHits Tr_64 Rw n) (fun r_79 Tr_79 => if r_79 ≤ ms then let2 (F_X5_riseTurn u1 (tN (Psz P))) (fun z_110 Tu_110 => if z_110 = true then F_X5_findBestTurn_L41 n_41 n P Rw (td + 1) ms Tr_79 Tu_110 b1 else (td, ms, Tr_79, Tu_110, b1)) else let2 (F_X5_riseTurn u1 (tN (Psz P))) (fun z_110 Tu_110 => if z_110 = true then F_X5_findBestTurn_L41 n_41 n P Rw (td + 1) r_79 Tr_79 Tu_110 (va_cpy u1 b1 0 0 6) else (td, r_79, Tr_79, Tu_110, va_cpy u1 b1 0 0 6))))
def F_X5_findBestTurn_L16 : Nat →  (Nat) → (Nat → Int32) → (Nat) × (Nat → Int32)
  | 0, k, u0 => (k, u0)
  | n_16 + 1, k, u0 => if 6 ≤ k then (k, u0) else F_X5_findBestTurn_L16 n_16  (k + 1) (upd u0 k (nI k))
def F_X5_findBestTurn (P : pS) (Rw : Nat → Int32) (Tr : pS) (Tu : Nat → Int32) (Be : Nat → Int32) (n : Nat) : Int32 × (pS) × (Nat → Int32) × (Nat → Int32) := let2 (F_X5_findBestTurn_L16 7  0 Tu) (fun k u0 => let5 (F_X5_findBestTurn_L41 721 n P Rw 0 ((-1)) Tr u0 Be) (fun td ms T1 u1 b1 => (ms, T1, u1, b1)))
set_option maxHeartbeats 4000000 in
set_option maxRecDepth 100000 in
theorem c_X5_findBestTurn (l : Launch) (dC : Nat → ClassId) (dI : Nat → Nat → Nat) (x : Nat → Nat) (cI : ClassId) (sz : Nat) (X : xS) (P : pS) (Rw : Nat → Int32) (Tr : pS) (Tu : Nat → Int32) (Be : Nat → Int32) (n : Nat) (pz : inB (Psz P) 6) (hn : n < 2 ^ 31) : Met l yX5_findBestTurn wsX5_findBestTurn { frames := 4, cells := 0, slots := 0, locals := 91 } (xPc (dC, dI) vwCl (xT cI) ((xO x X) ++ (fO ((fun i => x (1 + i)))) ++ (pW ((fun i => x (2 + i))) cI P) ++ ([(x 6, .inl (cI, 8, .inl Rw))]) ++ (pW ((fun i => x (51 + i))) cI Tr) ++ ([(x 55, .inl (cI, 6, .inl Tu))]) ++ ([(x 56, .inl (cI, 6, .inl Be))])) sz [.ref (x 0), .int (nI n)]) (va_Qi (fun (r : Int32) (u : (pS) × (Nat → Int32) × (Nat → Int32)) => F_X5_findBestTurn P Rw Tr Tu Be n = (r, u)) (mB (dC, dI) vwCl (xT cI) (va_A ((xO x X) ++ (fO ((fun i => x (1 + i)))) ++ (pW ((fun i => x (2 + i))) cI P) ++ ([(x 6, .inl (cI, 8, .inl Rw))]) ++ (pW ((fun i => x (51 + i))) cI Tr) ++ ([(x 55, .inl (cI, 6, .inl Tu))]) ++ ([(x 56, .inl (cI, 6, .inl Be))])) sz) (fun u => (xO x X) ++ (fO ((fun i => x (1 + i)))) ++ (pW ((fun i => x (2 + i))) cI P) ++ ([(x 6, .inl (cI, 8, .inl Rw))]) ++ (pW ((fun i => x (51 + i))) cI (u.1)) ++ ([(x 55, .inl (cI, 6, .inl (u.2.1)))]) ++ ([(x 56, .inl (cI, 6, .inl (u.2.2)))]))) (va_A ((xO x X) ++ (fO ((fun i => x (1 + i)))) ++ (pW ((fun i => x (2 + i))) cI P) ++ ([(x 6, .inl (cI, 8, .inl Rw))]) ++ (pW ((fun i => x (51 + i))) cI Tr) ++ ([(x 55, .inl (cI, 6, .inl Tu))]) ++ ([(x 56, .inl (cI, 6, .inl Be))])) sz)) 0 0 (va_A ((xO x X) ++ (fO ((fun i => x (1 + i)))) ++ (pW ((fun i => x (2 + i))) cI P) ++ ([(x 6, .inl (cI, 8, .inl Rw))]) ++ (pW ((fun i => x (51 + i))) cI Tr) ++ ([(x 55, .inl (cI, 6, .inl Tu))]) ++ ([(x 56, .inl (cI, 6, .inl Be))])) sz) := by
  refine Met.ofW (cc := cX5_findBestTurn) (maxL := 6) (ret := (some .int)) (by decide) rfl ?_
  intro p e s m args below meth c s₁ B hml hv
  obtain ⟨rfl, hsz, hP, hK, hD0, hN⟩ := hv
  have hx := B.exec
  have hb := B.bytes
  have hr := B.returns
  have hts := atoms_spec (ws := wsX5_findBestTurn) B.pre
  have hown : s.vm.findClass RX5 = some m.cls := findClass_of_methodNamed B.named
  have hlocks := B.notSynchronized
  subst hsz
  have hD := hD0.self (sz := s.heap.size)
  generalize hAe : va_A ((xO x X) ++ (fO ((fun i => x (1 + i)))) ++ (pW ((fun i => x (2 + i))) cI P) ++ ([(x 6, .inl (cI, 8, .inl Rw))]) ++ (pW ((fun i => x (51 + i))) cI Tr) ++ ([(x 55, .inl (cI, 6, .inl Tu))]) ++ ([(x 56, .inl (cI, 6, .inl Be))])) s.heap.size = A at hD ⊢
  have hA : ∀ q : Nat, s.heap.size ≤ q → A q := fun q h => by rw [← hAe]; exact Or.inr h
  have hS : va_S A s.heap s.heap [] := va_S.rf
  have hin1 : ∀ w ∈ wsX10, w ∈ wsX5_findBestTurn := by decide +kernel
  have hin2 : ∀ w ∈ wsX20, w ∈ wsX5_findBestTurn := by decide +kernel
  have hin5 : ∀ w ∈ wsX50, w ∈ wsX5_findBestTurn := by decide +kernel
  have lk12 := hts (.fieldLink RX5 12 "PostRounders" "now" "LPostRounders$Field;") (by decide +kernel)
  have lk48 := hts (.fieldLink RX5 48 "PostRounders" "trial" "LPostRounders$Play;") (by decide +kernel)
  have lk52 := hts (.fieldLink RX5 52 "PostRounders" "turn" "[I") (by decide +kernel)
  have lk55 := hts (.fieldLink RX5 55 "PostRounders" "bestTurn" "[I") (by decide +kernel)
  have lk74 := hts (.fieldLink RX5 74 "PostRounders$Field" "play" "LPostRounders$Play;") (by decide +kernel)
  have lk77 := hts (.fieldLink RX5 77 "PostRounders$Play" "size" "I") (by decide +kernel)
  have lk150 := hts (.fieldLink RX5 150 "PostRounders$Field" "rowHits" "[I") (by decide +kernel)
  have hl := lv_entry ([.ref (x 0), .int (nI n)]) (n := 6) (Nat.le_of_ble_eq_true rfl)
  rw [lg_entry_eq]
  generalize (lg_sl ([.ref (x 0), .int (nI n)]) ++ List.replicate (6 - (lg_sl ([.ref (x 0), .int (nI n)])).length) Slot.unset).toArray = ls at hl ⊢
  have hl : lv_has ls 6 [(0, .ref (x 0)), (1, .int (nI n))] := hl
  obtain ⟨OUT, hO⟩ : ∃ z, z = F_X5_findBestTurn P Rw Tr Tu Be n := ⟨_, rfl⟩
  have hF := hO
  unfold F_X5_findBestTurn at hF
  have e_pz := tN_eq pz.1
  have b_pz := pz.2
  refine lv_aload_n hx hb dX5_findBestTurn_0 rfl (lv_at hl 0 rfl) ?_
  refine va_get (D := (dC, dI)) (ci := 5) (v := .ref (x 1)) (C := RX5) (T := TX5) (N := 14) hx hb hts hin5 hown hK hP 0 rfl rfl 0 (by decide) lk12 (fun _ h9 => h9) rfl dX5_findBestTurn_1 ?_
  refine va_get (D := (dC, dI)) (ci := 1) (v := .ref (x 2)) (C := RX1) (T := TX1) (N := 5) hx hb hts hin1 hown hK hP 1 rfl rfl 0 (by decide) lk74 (fun _ h9 => h9) rfl dX5_findBestTurn_4 ?_
  refine va_get (D := (dC, dI)) (ci := 2) (v := .int (Psz P)) (C := RX2) (T := TX2) (N := 8) hx hb hts hin2 hown hK hP 2 rfl rfl 1 (by decide) lk77 (fun _ h9 => h9) rfl dX5_findBestTurn_7 ?_
  refine qv_top (e_pz) ?_
  refine lv_istore_n (lv' := [(2, .int (nI (tN (Psz P)))), (0, .ref (x 0)), (1, .int (nI n))]) hx hb dX5_findBestTurn_10 rfl hl (by decide) rfl (fun ls hl => ?_)
  refine lv_iconst (v := (-1)) hx hb dX5_findBestTurn_11 (by decide) ?_
  refine lv_istore_n (lv' := [(3, .int ((-1))), (2, .int (nI (tN (Psz P)))), (0, .ref (x 0)), (1, .int (nI n))]) hx hb dX5_findBestTurn_12 rfl hl (by decide) rfl (fun ls hl => ?_)
  refine lv_iconst (v := nI 0) hx hb dX5_findBestTurn_13 (by decide) ?_
  refine lv_istore (lv' := [(4, .int (nI 0)), (3, .int ((-1))), (2, .int (nI (tN (Psz P)))), (0, .ref (x 0)), (1, .int (nI n))]) hx hb dX5_findBestTurn_14 hl (by decide) rfl (fun ls hl => ?_)
  have L_16 : ∀ (n_16 : Nat) (k : Nat) (u0 : Nat → Int32) (H : Heap) (locs : List Loc), k ≤ 6 → 6 - k < n_16 → va_P (dC, dI) vwCl ((xO x X) ++ (fO ((fun i => x (1 + i)))) ++ (pW ((fun i => x (2 + i))) cI P) ++ ([(x 6, .inl (cI, 8, .inl Rw))]) ++ (pW ((fun i => x (51 + i))) cI Tr) ++ ([(x 55, .inl (cI, 6, .inl u0))]) ++ ([(x 56, .inl (cI, 6, .inl Be))])) H → va_D A ((xO x X) ++ (fO ((fun i => x (1 + i)))) ++ (pW ((fun i => x (2 + i))) cI P) ++ ([(x 6, .inl (cI, 8, .inl Rw))]) ++ (pW ((fun i => x (51 + i))) cI Tr) ++ ([(x 55, .inl (cI, 6, .inl u0))]) ++ ([(x 56, .inl (cI, 6, .inl Be))])) → va_S A s.heap H locs → ∀ (ls : Array Slot), lv_has ls 6 [(4, .int (nI k)), (3, .int ((-1))), (2, .int (nI (tN (Psz P)))), (0, .ref (x 0)), (1, .int (nI n))] → OUT = let2 (F_X5_findBestTurn_L16 n_16  k u0) (fun k u0 => let5 (F_X5_findBestTurn_L41 721 n P Rw 0 ((-1)) Tr u0 Be) (fun td ms T1 u1 b1 => (ms, T1, u1, b1))) → W p l e (headSpec wsX5_findBestTurn { frames := 4, cells := 0, slots := 0, locals := 91 }).room s m ([.ref (x 0), .int (nI n)] : List Value).toArray below meth c H locs 0 0 (MQ below (va_Qi (fun (r : Int32) (u : (pS) × (Nat → Int32) × (Nat → Int32)) => F_X5_findBestTurn P Rw Tr Tu Be n = (r, u)) (mB (dC, dI) vwCl (xT cI) A (fun u => (xO x X) ++ (fO ((fun i => x (1 + i)))) ++ (pW ((fun i => x (2 + i))) cI P) ++ ([(x 6, .inl (cI, 8, .inl Rw))]) ++ (pW ((fun i => x (51 + i))) cI (u.1)) ++ ([(x 55, .inl (cI, 6, .inl (u.2.1)))]) ++ ([(x 56, .inl (cI, 6, .inl (u.2.2)))]))) A) ([.ref (x 0), .int (nI n)] : List Value).toArray s 0 0 A) (F0 m 16 ls []) := by
    intro n_16
    induction n_16 with
    | zero => intro k u0 H locs i0 hmu; exact absurd hmu (Nat.not_lt_zero _)
    | succ n_16 ih_16 =>
      intro k u0 H locs i0 hmu_16 hP hD hS ls hl hF
      rw [F_X5_findBestTurn_L16] at hF
      refine lv_iload hx hb dX5_findBestTurn_16 (lv_at hl 0 rfl) ?_
      refine lv_bipush (v := nI 6) hx hb dX5_findBestTurn_18 (by decide) ?_
      refine qv_icmp_ge (tgt := 38) hx hb dX5_findBestTurn_20 (by decide) (by omega) (by omega) (fun c_20 => ?_) (fun c_20 => ?_)
      · rw [if_pos c_20] at hF
        rw [let2_mk (k : Nat) (u0 : Nat → Int32)] at hF
        refine lv_iconst (v := nI 0) hx hb dX5_findBestTurn_38 (by decide) ?_
        refine lv_istore (lv' := [(4, .int (nI 0)), (3, .int ((-1))), (2, .int (nI (tN (Psz P)))), (0, .ref (x 0)), (1, .int (nI n))]) hx hb dX5_findBestTurn_39 hl (by decide) rfl (fun ls hl => ?_)
        have L_41 : ∀ (n_41 : Nat) (td : Nat) (ms : Int32) (T1 : pS) (u1 : Nat → Int32) (b1 : Nat → Int32) (H : Heap) (locs : List Loc), td ≤ 720 → 720 - td < n_41 → va_P (dC, dI) vwCl ((xO x X) ++ (fO ((fun i => x (1 + i)))) ++ (pW ((fun i => x (2 + i))) cI P) ++ ([(x 6, .inl (cI, 8, .inl Rw))]) ++ (pW ((fun i => x (51 + i))) cI T1) ++ ([(x 55, .inl (cI, 6, .inl u1))]) ++ ([(x 56, .inl (cI, 6, .inl b1))])) H → va_D A ((xO x X) ++ (fO ((fun i => x (1 + i)))) ++ (pW ((fun i => x (2 + i))) cI P) ++ ([(x 6, .inl (cI, 8, .inl Rw))]) ++ (pW ((fun i => x (51 + i))) cI T1) ++ ([(x 55, .inl (cI, 6, .inl u1))]) ++ ([(x 56, .inl (cI, 6, .inl b1))])) → va_S A s.heap H locs → ∀ (ls : Array Slot), lv_has ls 6 [(4, .int (nI td)), (3, .int ms), (2, .int (nI (tN (Psz P)))), (0, .ref (x 0)), (1, .int (nI n))] → OUT = let5 (F_X5_findBestTurn_L41 n_41 n P Rw td ms T1 u1 b1) (fun td ms T1 u1 b1 => (ms, T1, u1, b1)) → W p l e (headSpec wsX5_findBestTurn { frames := 4, cells := 0, slots := 0, locals := 91 }).room s m ([.ref (x 0), .int (nI n)] : List Value).toArray below meth c H locs 0 0 (MQ below (va_Qi (fun (r : Int32) (u : (pS) × (Nat → Int32) × (Nat → Int32)) => F_X5_findBestTurn P Rw Tr Tu Be n = (r, u)) (mB (dC, dI) vwCl (xT cI) A (fun u => (xO x X) ++ (fO ((fun i => x (1 + i)))) ++ (pW ((fun i => x (2 + i))) cI P) ++ ([(x 6, .inl (cI, 8, .inl Rw))]) ++ (pW ((fun i => x (51 + i))) cI (u.1)) ++ ([(x 55, .inl (cI, 6, .inl (u.2.1)))]) ++ ([(x 56, .inl (cI, 6, .inl (u.2.2)))]))) A) ([.ref (x 0), .int (nI n)] : List Value).toArray s 0 0 A) (F0 m 41 ls []) := by
          intro n_41
          induction n_41 with
          | zero => intro td ms T1 u1 b1 H locs j0 hmu; exact absurd hmu (Nat.not_lt_zero _)
          | succ n_41 ih_41 =>
            intro td ms T1 u1 b1 H locs j0 hmu_41 hP hD hS ls hl hF
            rw [F_X5_findBestTurn_L41] at hF
            refine lv_iload hx hb dX5_findBestTurn_41 (lv_at hl 0 rfl) ?_
            refine lv_sipush (v := nI 720) hx hb dX5_findBestTurn_43 (by decide) ?_
            refine qv_icmp_ge (tgt := 125) hx hb dX5_findBestTurn_46 (by decide) (by omega) (by omega) (fun c_46 => ?_) (fun c_46 => ?_)
            · rw [if_pos c_46] at hF
              rw [let5_mk (td : Nat) (ms : Int32) (T1 : pS) (u1 : Nat → Int32) (b1 : Nat → Int32)] at hF
              refine lv_iload_n hx hb dX5_findBestTurn_125 rfl (lv_at hl 1 rfl) ?_
              have hP9 : va_P (dC, dI) vwCl ((xO x X) ++ (fO ((fun i => x (1 + i)))) ++ (pW ((fun i => x (2 + i))) cI P) ++ ([(x 6, .inl (cI, 8, .inl Rw))]) ++ (pW ((fun i => x (51 + i))) cI T1) ++ ([(x 55, .inl (cI, 6, .inl u1))]) ++ ([(x 56, .inl (cI, 6, .inl b1))])) H := hP
              exact W.iret (v := ms) hx hb hr (fun t ht hW => ⟨⟨_, ((T1, u1, b1)), rfl, hO.symm.trans hF, by rw [ht]; exact hP9, va_K.moved hW.alike hK, hD⟩, hS.F ht⟩) hS.2.2 dX5_findBestTurn_126
            · rw [if_neg c_46] at hF
              refine lv_aload_n hx hb dX5_findBestTurn_49 rfl (lv_at hl 3 rfl) ?_
              refine va_get (D := (dC, dI)) (ci := 5) (v := .ref (x 51)) (C := RX5) (T := TX5) (N := 14) hx hb hts hin5 hown hK hP 0 rfl rfl 9 (by decide) lk48 (fun _ h9 => h9) rfl dX5_findBestTurn_50 ?_
              refine lv_aload_n hx hb dX5_findBestTurn_53 rfl (lv_at hl 3 rfl) ?_
              refine va_get (D := (dC, dI)) (ci := 5) (v := .ref (x 1)) (C := RX5) (T := TX5) (N := 14) hx hb hts hin5 hown hK hP 0 rfl rfl 0 (by decide) lk12 (fun _ h9 => h9) rfl dX5_findBestTurn_54 ?_
              refine va_get (D := (dC, dI)) (ci := 1) (v := .ref (x 2)) (C := RX1) (T := TX1) (N := 5) hx hb hts hin1 hown hK hP 1 rfl rfl 0 (by decide) lk74 (fun _ h9 => h9) rfl dX5_findBestTurn_57 ?_
              refine lv_aload_n hx hb dX5_findBestTurn_60 rfl (lv_at hl 3 rfl) ?_
              refine va_get (D := (dC, dI)) (ci := 5) (v := .ref (x 55)) (C := RX5) (T := TX5) (N := 14) hx hb hts hin5 hown hK hP 0 rfl rfl 10 (by decide) lk52 (fun _ h9 => h9) rfl dX5_findBestTurn_61 ?_
              refine qx_Vv (C := RX2) (As := [.ref (x 2), .ref (x 55)]) (rest := []) (ci := 2) (k0 := 7) (wr := (xO x X) ++ (fO ((fun i => x (1 + i)))) ++ ([(x 6, .inl (cI, 8, .inl Rw))]) ++ ([(x 56, .inl (cI, 6, .inl b1))])) (ws2 := fun u => (xO x X) ++ (fO ((fun i => x (1 + i)))) ++ (pW ((fun i => x (2 + i))) cI P) ++ ([(x 6, .inl (cI, 8, .inl Rw))]) ++ (pW ((fun i => x (51 + i))) cI u) ++ ([(x 55, .inl (cI, 6, .inl u1))]) ++ ([(x 56, .inl (cI, 6, .inl b1))])) [7, 8, 9, 10, 2, 3, 4, 5, 11] [0, 1, 6, 12] [0, 1, 8, 9, 10, 11, 2, 4, 5, 6, 7, 12, 3] ⟨hx, hb, hml, hown, hts⟩ (c_X2_lineUp l dC dI (fun i => x (51 + i)) (fun i => x (2 + i)) (x 55) cI H.size T1 P u1  (pz : inB (Psz P) 6)) (cwV 2 hts gX5_findBestTurn_X2_lineUp rfl rfl rfl (by decide +kernel) ⟨Nat.le_of_ble_eq_true rfl, Nat.le_of_ble_eq_true rfl⟩) (hK.sub [0] rfl) hK hP hD hS hA hN rfl rfl (by decide) (by decide) (by decide) (by decide) (fun _ => rfl) rfl rfl rfl rfl hl.1 rfl (Nat.le_of_ble_eq_true rfl) dX5_findBestTurn_64 ⟨Nat.zero_le _, Nat.zero_le _⟩ (fun u_64 H locs hw_64 hP hD hS => ?_)
              obtain ⟨Tr_64, rfl⟩ : ∃ z, z = u_64 := ⟨_, rfl⟩
              have hP : va_P (dC, dI) vwCl ((xO x X) ++ (fO ((fun i => x (1 + i)))) ++ (pW ((fun i => x (2 + i))) cI P) ++ ([(x 6, .inl (cI, 8, .inl Rw))]) ++ (pW ((fun i => x (51 + i))) cI Tr_64) ++ ([(x 55, .inl (cI, 6, .inl u1))]) ++ ([(x 56, .inl (cI, 6, .inl b1))])) H := hP
              have hD : va_D A ((xO x X) ++ (fO ((fun i => x (1 + i)))) ++ (pW ((fun i => x (2 + i))) cI P) ++ ([(x 6, .inl (cI, 8, .inl Rw))]) ++ (pW ((fun i => x (51 + i))) cI Tr_64) ++ ([(x 55, .inl (cI, 6, .inl u1))]) ++ ([(x 56, .inl (cI, 6, .inl b1))])) := hD
              have v_64 := lineUp_at hw_64 pz
              rw [hw_64, let1_mk Tr_64] at hF
              refine lv_aload_n hx hb dX5_findBestTurn_67 rfl (lv_at hl 3 rfl) ?_
              refine va_get (D := (dC, dI)) (ci := 5) (v := .ref (x 51)) (C := RX5) (T := TX5) (N := 14) hx hb hts hin5 hown hK hP 0 rfl rfl 9 (by decide) lk48 (fun _ h9 => h9) rfl dX5_findBestTurn_68 ?_
              refine lv_aload_n hx hb dX5_findBestTurn_71 rfl (lv_at hl 3 rfl) ?_
              refine va_get (D := (dC, dI)) (ci := 5) (v := .ref (x 1)) (C := RX5) (T := TX5) (N := 14) hx hb hts hin5 hown hK hP 0 rfl rfl 0 (by decide) lk12 (fun _ h9 => h9) rfl dX5_findBestTurn_72 ?_
              refine va_get (D := (dC, dI)) (ci := 1) (v := .ref (x 6)) (C := RX1) (T := TX1) (N := 5) hx hb hts hin1 hown hK hP 1 rfl rfl 1 (by decide) lk150 (fun _ h9 => h9) rfl dX5_findBestTurn_75 ?_
              refine lv_iload_n hx hb dX5_findBestTurn_78 rfl (lv_at hl 4 rfl) ?_
              refine qx_Vi (C := RX2) (As := [.ref (x 6), .int (nI n)]) (rest := []) (ci := 2) (k0 := 7) (wr := (xO x X) ++ (fO ((fun i => x (1 + i)))) ++ (pW ((fun i => x (2 + i))) cI P) ++ ([(x 55, .inl (cI, 6, .inl u1))]) ++ ([(x 56, .inl (cI, 6, .inl b1))])) (ws2 := fun u => (xO x X) ++ (fO ((fun i => x (1 + i)))) ++ (pW ((fun i => x (2 + i))) cI P) ++ ([(x 6, .inl (cI, 8, .inl Rw))]) ++ (pW ((fun i => x (51 + i))) cI u) ++ ([(x 55, .inl (cI, 6, .inl u1))]) ++ ([(x 56, .inl (cI, 6, .inl b1))])) [7, 8, 9, 10, 6] [0, 1, 2, 3, 4, 5, 11, 12] [0, 1, 2, 3, 4, 5, 12, 8, 9, 10, 11, 6, 7] ⟨hx, hb, hml, hown, hts⟩ (c_X2_playHits l dC dI (fun i => x (51 + i)) (x 6) cI H.size Tr_64 Rw n (v_64 : inB (Psz Tr_64) 6) (by omega)) (cwV 2 hts gX5_findBestTurn_X2_playHits rfl rfl rfl (by decide +kernel) ⟨Nat.le_of_ble_eq_true rfl, Nat.le_of_ble_eq_true rfl⟩) (hK.sub [0] rfl) hK hP hD hS hA hN rfl rfl (by decide) (by decide) (by decide) (by decide) (fun _ => rfl) rfl rfl rfl rfl hl.1 rfl (Nat.le_of_ble_eq_true rfl) dX5_findBestTurn_79 ⟨Nat.zero_le _, Nat.zero_le _⟩ (fun r_79 u_79 H locs hw_79 hP hD hS => ?_)
              obtain ⟨Tr_79, rfl⟩ : ∃ z, z = u_79 := ⟨_, rfl⟩
              have hP : va_P (dC, dI) vwCl ((xO x X) ++ (fO ((fun i => x (1 + i)))) ++ (pW ((fun i => x (2 + i))) cI P) ++ ([(x 6, .inl (cI, 8, .inl Rw))]) ++ (pW ((fun i => x (51 + i))) cI Tr_79) ++ ([(x 55, .inl (cI, 6, .inl u1))]) ++ ([(x 56, .inl (cI, 6, .inl b1))])) H := hP
              have hD : va_D A ((xO x X) ++ (fO ((fun i => x (1 + i)))) ++ (pW ((fun i => x (2 + i))) cI P) ++ ([(x 6, .inl (cI, 8, .inl Rw))]) ++ (pW ((fun i => x (51 + i))) cI Tr_79) ++ ([(x 55, .inl (cI, 6, .inl u1))]) ++ ([(x 56, .inl (cI, 6, .inl b1))])) := hD
              rw [hw_79, let2_mk r_79 Tr_79] at hF
              refine lv_istore (lv' := [(5, .int r_79), (4, .int (nI td)), (3, .int ms), (2, .int (nI (tN (Psz P)))), (0, .ref (x 0)), (1, .int (nI n))]) hx hb dX5_findBestTurn_82 hl (by decide) rfl (fun ls hl => ?_)
              refine lv_iload hx hb dX5_findBestTurn_84 (lv_at hl 0 rfl) ?_
              refine lv_iload_n hx hb dX5_findBestTurn_86 rfl (lv_at hl 2 rfl) ?_
              refine lv_icmp_le (tgt := 108) hx hb dX5_findBestTurn_87 (by decide) (fun c_87 => ?_) (fun c_87 => ?_)
              · rw [if_pos c_87] at hF
                refine lv_aload_n hx hb dX5_findBestTurn_108 rfl (lv_at hl 4 rfl) ?_
                refine lv_iload_n hx hb dX5_findBestTurn_109 rfl (lv_at hl 3 rfl) ?_
                refine qx_Vi (C := RX5) (As := [.int (nI (tN (Psz P)))]) (rest := []) (ci := 5) (k0 := 0) (wr := (fO ((fun i => x (1 + i)))) ++ (pW ((fun i => x (2 + i))) cI P) ++ ([(x 6, .inl (cI, 8, .inl Rw))]) ++ (pW ((fun i => x (51 + i))) cI Tr_79) ++ ([(x 56, .inl (cI, 6, .inl b1))])) (ws2 := fun u => (xO x X) ++ (fO ((fun i => x (1 + i)))) ++ (pW ((fun i => x (2 + i))) cI P) ++ ([(x 6, .inl (cI, 8, .inl Rw))]) ++ (pW ((fun i => x (51 + i))) cI Tr_79) ++ ([(x 55, .inl (cI, 6, .inl u))]) ++ ([(x 56, .inl (cI, 6, .inl b1))])) [0, 11] [1, 2, 3, 4, 5, 6, 7, 8, 9, 10, 12] [11, 0, 1, 2, 3, 4, 5, 6, 7, 8, 9, 12, 10] ⟨hx, hb, hml, hown, hts⟩ (c_X5_riseTurn l dC dI x cI H.size X u1 (tN (Psz P)) (by omega)) (cwV 1 hts gX5_findBestTurn_X5_riseTurn rfl rfl rfl (by decide +kernel) ⟨Nat.le_of_ble_eq_true rfl, Nat.le_of_ble_eq_true rfl⟩) (hK.sub [0] rfl) hK hP hD hS hA hN rfl rfl (by decide) (by decide) (by decide) (by decide) (fun _ => rfl) rfl rfl rfl rfl hl.1 rfl (Nat.le_of_ble_eq_true rfl) dX5_findBestTurn_110 ⟨Nat.zero_le _, Nat.zero_le _⟩ (fun r_110 u_110 H locs hw_110 hP hD hS => ?_)
                obtain ⟨Tu_110, rfl⟩ : ∃ z, z = u_110 := ⟨_, rfl⟩
                have hP : va_P (dC, dI) vwCl ((xO x X) ++ (fO ((fun i => x (1 + i)))) ++ (pW ((fun i => x (2 + i))) cI P) ++ ([(x 6, .inl (cI, 8, .inl Rw))]) ++ (pW ((fun i => x (51 + i))) cI Tr_79) ++ ([(x 55, .inl (cI, 6, .inl Tu_110))]) ++ ([(x 56, .inl (cI, 6, .inl b1))])) H := hP
                have hD : va_D A ((xO x X) ++ (fO ((fun i => x (1 + i)))) ++ (pW ((fun i => x (2 + i))) cI P) ++ ([(x 6, .inl (cI, 8, .inl Rw))]) ++ (pW ((fun i => x (51 + i))) cI Tr_79) ++ ([(x 55, .inl (cI, 6, .inl Tu_110))]) ++ ([(x 56, .inl (cI, 6, .inl b1))])) := hD
                obtain ⟨z_110, hw_110, rfl⟩ := hw_110
                rw [hw_110, let2_mk z_110 Tu_110] at hF
                refine qv_zif_ne (tgt := 119) hx hb dX5_findBestTurn_113 (by decide) (fun c_113 => ?_) (fun c_113 => ?_)
                · rw [if_pos c_113] at hF
                  refine lv_iinc (v := nI (td + 1)) (lv' := [(4, .int (nI (td + 1))), (5, .int r_79), (3, .int ms), (2, .int (nI (tN (Psz P)))), (0, .ref (x 0)), (1, .int (nI n))]) hx hb dX5_findBestTurn_119 hl (k := 1) rfl (qn_inc (c := 1) rfl (by omega)) (by decide) rfl (fun ls hl => ?_)
                  refine lv_goto (tgt := 41) hx hb dX5_findBestTurn_122 (by decide) ?_
                  exact ih_41 (td + 1) ms Tr_79 Tu_110 b1 H locs (by omega) (by omega) hP hD hS ls (lv_sub hl [0, 2, 3, 4, 5] rfl) hF
                · rw [if_neg c_113] at hF
                  refine lv_goto (tgt := 125) hx hb dX5_findBestTurn_116 (by decide) ?_
                  rw [let5_mk (td : Nat) (ms : Int32) (Tr_79 : pS) (Tu_110 : Nat → Int32) (b1 : Nat → Int32)] at hF
                  refine lv_iload_n hx hb dX5_findBestTurn_125 rfl (lv_at hl 2 rfl) ?_
                  have hP9 : va_P (dC, dI) vwCl ((xO x X) ++ (fO ((fun i => x (1 + i)))) ++ (pW ((fun i => x (2 + i))) cI P) ++ ([(x 6, .inl (cI, 8, .inl Rw))]) ++ (pW ((fun i => x (51 + i))) cI Tr_79) ++ ([(x 55, .inl (cI, 6, .inl Tu_110))]) ++ ([(x 56, .inl (cI, 6, .inl b1))])) H := hP
                  exact W.iret (v := ms) hx hb hr (fun t ht hW => ⟨⟨_, ((Tr_79, Tu_110, b1)), rfl, hO.symm.trans hF, by rw [ht]; exact hP9, va_K.moved hW.alike hK, hD⟩, hS.F ht⟩) hS.2.2 dX5_findBestTurn_126
              · rw [if_neg c_87] at hF
                refine lv_iload hx hb dX5_findBestTurn_90 (lv_at hl 0 rfl) ?_
                refine lv_istore_n (lv' := [(3, .int r_79), (5, .int r_79), (4, .int (nI td)), (2, .int (nI (tN (Psz P)))), (0, .ref (x 0)), (1, .int (nI n))]) hx hb dX5_findBestTurn_92 rfl hl (by decide) rfl (fun ls hl => ?_)
                refine lv_aload_n hx hb dX5_findBestTurn_93 rfl (lv_at hl 4 rfl) ?_
                refine va_get (D := (dC, dI)) (ci := 5) (v := .ref (x 55)) (C := RX5) (T := TX5) (N := 14) hx hb hts hin5 hown hK hP 0 rfl rfl 10 (by decide) lk52 (fun _ h9 => h9) rfl dX5_findBestTurn_94 ?_
                refine lv_iconst (v := nI 0) hx hb dX5_findBestTurn_97 (by decide) ?_
                refine lv_aload_n hx hb dX5_findBestTurn_98 rfl (lv_at hl 4 rfl) ?_
                refine va_get (D := (dC, dI)) (ci := 5) (v := .ref (x 56)) (C := RX5) (T := TX5) (N := 14) hx hb hts hin5 hown hK hP 0 rfl rfl 11 (by decide) lk55 (fun _ h9 => h9) rfl dX5_findBestTurn_99 ?_
                refine lv_iconst (v := nI 0) hx hb dX5_findBestTurn_102 (by decide) ?_
                refine lv_bipush (v := nI 6) hx hb dX5_findBestTurn_103 (by decide) ?_
                refine qv_cpy (ws' := (xO x X) ++ (fO ((fun i => x (1 + i)))) ++ (pW ((fun i => x (2 + i))) cI P) ++ ([(x 6, .inl (cI, 8, .inl Rw))]) ++ (pW ((fun i => x (51 + i))) cI Tr_79) ++ ([(x 55, .inl (cI, 6, .inl u1))]) ++ ([(x 56, .inl (cI, 6, .inl (va_cpy u1 b1 0 0 6)))])) hx hb (hml.trans hl.1.symm) hown (hts (.methodLink RX5 276 arraycopyName) (by decide +kernel)) (hts (.native arraycopyName) (by decide +kernel)) (hts (.static arraycopyName) (by decide +kernel)) (hts (.initialized "java/lang/System") (by decide +kernel)) hK hP hD hS 11 12 0 rfl rfl rfl (by omega) (by omega) (by decide) (by decide) (Nat.le_of_ble_eq_true rfl) (Nat.le_of_ble_eq_true rfl) dX5_findBestTurn_105 rfl (fun H locs hP hD hS => ?_)
                refine lv_aload_n hx hb dX5_findBestTurn_108 rfl (lv_at hl 4 rfl) ?_
                refine lv_iload_n hx hb dX5_findBestTurn_109 rfl (lv_at hl 3 rfl) ?_
                refine qx_Vi (C := RX5) (As := [.int (nI (tN (Psz P)))]) (rest := []) (ci := 5) (k0 := 0) (wr := (fO ((fun i => x (1 + i)))) ++ (pW ((fun i => x (2 + i))) cI P) ++ ([(x 6, .inl (cI, 8, .inl Rw))]) ++ (pW ((fun i => x (51 + i))) cI Tr_79) ++ ([(x 56, .inl (cI, 6, .inl (va_cpy u1 b1 0 0 6)))])) (ws2 := fun u => (xO x X) ++ (fO ((fun i => x (1 + i)))) ++ (pW ((fun i => x (2 + i))) cI P) ++ ([(x 6, .inl (cI, 8, .inl Rw))]) ++ (pW ((fun i => x (51 + i))) cI Tr_79) ++ ([(x 55, .inl (cI, 6, .inl u))]) ++ ([(x 56, .inl (cI, 6, .inl (va_cpy u1 b1 0 0 6)))])) [0, 11] [1, 2, 3, 4, 5, 6, 7, 8, 9, 10, 12] [11, 0, 1, 2, 3, 4, 5, 6, 7, 8, 9, 12, 10] ⟨hx, hb, hml, hown, hts⟩ (c_X5_riseTurn l dC dI x cI H.size X u1 (tN (Psz P)) (by omega)) (cwV 1 hts gX5_findBestTurn_X5_riseTurn rfl rfl rfl (by decide +kernel) ⟨Nat.le_of_ble_eq_true rfl, Nat.le_of_ble_eq_true rfl⟩) (hK.sub [0] rfl) hK hP hD hS hA hN rfl rfl (by decide) (by decide) (by decide) (by decide) (fun _ => rfl) rfl rfl rfl rfl hl.1 rfl (Nat.le_of_ble_eq_true rfl) dX5_findBestTurn_110 ⟨Nat.zero_le _, Nat.zero_le _⟩ (fun r_110 u_110 H locs hw_110 hP hD hS => ?_)
                obtain ⟨Tu_110, rfl⟩ : ∃ z, z = u_110 := ⟨_, rfl⟩
                have hP : va_P (dC, dI) vwCl ((xO x X) ++ (fO ((fun i => x (1 + i)))) ++ (pW ((fun i => x (2 + i))) cI P) ++ ([(x 6, .inl (cI, 8, .inl Rw))]) ++ (pW ((fun i => x (51 + i))) cI Tr_79) ++ ([(x 55, .inl (cI, 6, .inl Tu_110))]) ++ ([(x 56, .inl (cI, 6, .inl (va_cpy u1 b1 0 0 6)))])) H := hP
                have hD : va_D A ((xO x X) ++ (fO ((fun i => x (1 + i)))) ++ (pW ((fun i => x (2 + i))) cI P) ++ ([(x 6, .inl (cI, 8, .inl Rw))]) ++ (pW ((fun i => x (51 + i))) cI Tr_79) ++ ([(x 55, .inl (cI, 6, .inl Tu_110))]) ++ ([(x 56, .inl (cI, 6, .inl (va_cpy u1 b1 0 0 6)))])) := hD
                obtain ⟨z_110, hw_110, rfl⟩ := hw_110
                rw [hw_110, let2_mk z_110 Tu_110] at hF
                refine qv_zif_ne (tgt := 119) hx hb dX5_findBestTurn_113 (by decide) (fun c_113 => ?_) (fun c_113 => ?_)
                · rw [if_pos c_113] at hF
                  refine lv_iinc (v := nI (td + 1)) (lv' := [(4, .int (nI (td + 1))), (3, .int r_79), (5, .int r_79), (2, .int (nI (tN (Psz P)))), (0, .ref (x 0)), (1, .int (nI n))]) hx hb dX5_findBestTurn_119 hl (k := 2) rfl (qn_inc (c := 1) rfl (by omega)) (by decide) rfl (fun ls hl => ?_)
                  refine lv_goto (tgt := 41) hx hb dX5_findBestTurn_122 (by decide) ?_
                  exact ih_41 (td + 1) r_79 Tr_79 Tu_110 (va_cpy u1 b1 0 0 6) H locs (by omega) (by omega) hP hD hS ls (lv_sub hl [0, 1, 3, 4, 5] rfl) hF
                · rw [if_neg c_113] at hF
                  refine lv_goto (tgt := 125) hx hb dX5_findBestTurn_116 (by decide) ?_
                  rw [let5_mk (td : Nat) (r_79 : Int32) (Tr_79 : pS) (Tu_110 : Nat → Int32) (va_cpy u1 b1 0 0 6 : Nat → Int32)] at hF
                  refine lv_iload_n hx hb dX5_findBestTurn_125 rfl (lv_at hl 0 rfl) ?_
                  have hP9 : va_P (dC, dI) vwCl ((xO x X) ++ (fO ((fun i => x (1 + i)))) ++ (pW ((fun i => x (2 + i))) cI P) ++ ([(x 6, .inl (cI, 8, .inl Rw))]) ++ (pW ((fun i => x (51 + i))) cI Tr_79) ++ ([(x 55, .inl (cI, 6, .inl Tu_110))]) ++ ([(x 56, .inl (cI, 6, .inl (va_cpy u1 b1 0 0 6)))])) H := hP
                  exact W.iret (v := r_79) hx hb hr (fun t ht hW => ⟨⟨_, ((Tr_79, Tu_110, va_cpy u1 b1 0 0 6)), rfl, hO.symm.trans hF, by rw [ht]; exact hP9, va_K.moved hW.alike hK, hD⟩, hS.F ht⟩) hS.2.2 dX5_findBestTurn_126
        exact L_41 721 0 ((-1)) Tr u0 Be H locs (by omega) (by omega) hP hD hS ls (lv_sub hl [0, 1, 2, 3, 4] rfl) hF
      · rw [if_neg c_20] at hF
        refine lv_aload_n hx hb dX5_findBestTurn_23 rfl (lv_at hl 3 rfl) ?_
        refine va_get (D := (dC, dI)) (ci := 5) (v := .ref (x 55)) (C := RX5) (T := TX5) (N := 14) hx hb hts hin5 hown hK hP 0 rfl rfl 10 (by decide) lk52 (fun _ h9 => h9) rfl dX5_findBestTurn_24 ?_
        refine lv_iload hx hb dX5_findBestTurn_27 (lv_at hl 0 rfl) ?_
        refine lv_iload hx hb dX5_findBestTurn_29 (lv_at hl 0 rfl) ?_
        refine qv_ast (ws' := (xO x X) ++ (fO ((fun i => x (1 + i)))) ++ (pW ((fun i => x (2 + i))) cI P) ++ ([(x 6, .inl (cI, 8, .inl Rw))]) ++ (pW ((fun i => x (51 + i))) cI Tr) ++ ([(x 55, .inl (cI, 6, .inl (upd u0 k (nI k))))]) ++ ([(x 56, .inl (cI, 6, .inl Be))])) hx hb hK hP hD hS 11 0 rfl rfl (by omega) (by decide) dX5_findBestTurn_31 rfl (fun H locs hP hD hS => ?_)
        refine lv_iinc (v := nI (k + 1)) (lv' := [(4, .int (nI (k + 1))), (3, .int ((-1))), (2, .int (nI (tN (Psz P)))), (0, .ref (x 0)), (1, .int (nI n))]) hx hb dX5_findBestTurn_32 hl (k := 0) rfl (qn_inc (c := 1) rfl (by omega)) (by decide) rfl (fun ls hl => ?_)
        refine lv_goto (tgt := 16) hx hb dX5_findBestTurn_35 (by decide) ?_
        exact ih_16 (k + 1) (upd u0 k (nI k)) H locs (by omega) (by omega) hP hD hS ls (lv_sub hl [0, 1, 2, 3, 4] rfl) hF
  exact L_16 7 0 Tu s.heap [] (by omega) (by omega) hP hD hS ls (lv_sub hl [0, 1, 2, 3, 4] rfl) hF
def F_X5_order (P : pS) (Rw : Nat → Int32) (Rf : Nat → Int32) (Tr : pS) (Tu : Nat → Int32) (Be : Nat → Int32) (n : Int32) (k : Int32) : Int32 × (pS) × (Nat → Int32) × (Nat → Int32) × (Nat → Int32) := if (F_X5_within n (nI 1) (nI 8)) = true then (if ((-1)) ≤ k then (if k < (nI (tN (Psz P))) then let4 (F_X5_findBestTurn P Rw Tr Tu Be (tN n)) (fun r_44 Tr_44 Tu_44 Be_44 => if 0 ≤ k then (Be_44 (tN k), Tr_44, Tu_44, Be_44, Rf) else (r_44, Tr_44, Tu_44, Be_44, Rf)) else ((-5), Tr, Tu, Be, Rf)) else let2 (F_X5_refuse Rf ((-2))) (fun r_18 Rf_18 => ((-10), Tr, Tu, Be, Rf_18))) else let2 (F_X5_refuse Rf ((-2))) (fun r_18 Rf_18 => ((-10), Tr, Tu, Be, Rf_18))
set_option maxHeartbeats 4000000 in
set_option maxRecDepth 100000 in
theorem c_X5_order (l : Launch) (dC : Nat → ClassId) (dI : Nat → Nat → Nat) (x : Nat → Nat) (cI : ClassId) (sz : Nat) (X : xS) (P : pS) (Rw : Nat → Int32) (Rf : Nat → Int32) (Tr : pS) (Tu : Nat → Int32) (Be : Nat → Int32) (n : Int32) (k : Int32) (pz : inB (Psz P) 6) : Met l yX5_order wsX5_order { frames := 5, cells := 0, slots := 0, locals := 116 } (xPc (dC, dI) vwCl (xT cI) ((xO x X) ++ (fO ((fun i => x (1 + i)))) ++ (pW ((fun i => x (2 + i))) cI P) ++ ([(x 6, .inl (cI, 8, .inl Rw))]) ++ ([(x 15, .inl (cI, 3, .inl Rf))]) ++ (pW ((fun i => x (51 + i))) cI Tr) ++ ([(x 55, .inl (cI, 6, .inl Tu))]) ++ ([(x 56, .inl (cI, 6, .inl Be))])) sz [.ref (x 0), .int n, .int k]) (va_Qi (fun (r : Int32) (u : (pS) × (Nat → Int32) × (Nat → Int32) × (Nat → Int32)) => F_X5_order P Rw Rf Tr Tu Be n k = (r, u)) (mB (dC, dI) vwCl (xT cI) (va_A ((xO x X) ++ (fO ((fun i => x (1 + i)))) ++ (pW ((fun i => x (2 + i))) cI P) ++ ([(x 6, .inl (cI, 8, .inl Rw))]) ++ ([(x 15, .inl (cI, 3, .inl Rf))]) ++ (pW ((fun i => x (51 + i))) cI Tr) ++ ([(x 55, .inl (cI, 6, .inl Tu))]) ++ ([(x 56, .inl (cI, 6, .inl Be))])) sz) (fun u => (xO x X) ++ (fO ((fun i => x (1 + i)))) ++ (pW ((fun i => x (2 + i))) cI P) ++ ([(x 6, .inl (cI, 8, .inl Rw))]) ++ ([(x 15, .inl (cI, 3, .inl (u.2.2.2)))]) ++ (pW ((fun i => x (51 + i))) cI (u.1)) ++ ([(x 55, .inl (cI, 6, .inl (u.2.1)))]) ++ ([(x 56, .inl (cI, 6, .inl (u.2.2.1)))]))) (va_A ((xO x X) ++ (fO ((fun i => x (1 + i)))) ++ (pW ((fun i => x (2 + i))) cI P) ++ ([(x 6, .inl (cI, 8, .inl Rw))]) ++ ([(x 15, .inl (cI, 3, .inl Rf))]) ++ (pW ((fun i => x (51 + i))) cI Tr) ++ ([(x 55, .inl (cI, 6, .inl Tu))]) ++ ([(x 56, .inl (cI, 6, .inl Be))])) sz)) 0 0 (va_A ((xO x X) ++ (fO ((fun i => x (1 + i)))) ++ (pW ((fun i => x (2 + i))) cI P) ++ ([(x 6, .inl (cI, 8, .inl Rw))]) ++ ([(x 15, .inl (cI, 3, .inl Rf))]) ++ (pW ((fun i => x (51 + i))) cI Tr) ++ ([(x 55, .inl (cI, 6, .inl Tu))]) ++ ([(x 56, .inl (cI, 6, .inl Be))])) sz) := by
  refine Met.ofW (cc := cX5_order) (maxL := 4) (ret := (some .int)) (by decide) rfl ?_
  intro p e s m args below meth c s₁ B hml hv
  obtain ⟨rfl, hsz, hP, hK, hD0, hN⟩ := hv
  have hx := B.exec
  have hb := B.bytes
  have hr := B.returns
  have hts := atoms_spec (ws := wsX5_order) B.pre
  have hown : s.vm.findClass RX5 = some m.cls := findClass_of_methodNamed B.named
  have hlocks := B.notSynchronized
  subst hsz
  have hD := hD0.self (sz := s.heap.size)
  generalize hAe : va_A ((xO x X) ++ (fO ((fun i => x (1 + i)))) ++ (pW ((fun i => x (2 + i))) cI P) ++ ([(x 6, .inl (cI, 8, .inl Rw))]) ++ ([(x 15, .inl (cI, 3, .inl Rf))]) ++ (pW ((fun i => x (51 + i))) cI Tr) ++ ([(x 55, .inl (cI, 6, .inl Tu))]) ++ ([(x 56, .inl (cI, 6, .inl Be))])) s.heap.size = A at hD ⊢
  have hA : ∀ q : Nat, s.heap.size ≤ q → A q := fun q h => by rw [← hAe]; exact Or.inr h
  have hS : va_S A s.heap s.heap [] := va_S.rf
  have hin1 : ∀ w ∈ wsX10, w ∈ wsX5_order := by decide +kernel
  have hin2 : ∀ w ∈ wsX20, w ∈ wsX5_order := by decide +kernel
  have hin5 : ∀ w ∈ wsX50, w ∈ wsX5_order := by decide +kernel
  have lk12 := hts (.fieldLink RX5 12 "PostRounders" "now" "LPostRounders$Field;") (by decide +kernel)
  have lk55 := hts (.fieldLink RX5 55 "PostRounders" "bestTurn" "[I") (by decide +kernel)
  have lk74 := hts (.fieldLink RX5 74 "PostRounders$Field" "play" "LPostRounders$Play;") (by decide +kernel)
  have lk77 := hts (.fieldLink RX5 77 "PostRounders$Play" "size" "I") (by decide +kernel)
  have hl := lv_entry ([.ref (x 0), .int n, .int k]) (n := 4) (Nat.le_of_ble_eq_true rfl)
  rw [lg_entry_eq]
  generalize (lg_sl ([.ref (x 0), .int n, .int k]) ++ List.replicate (4 - (lg_sl ([.ref (x 0), .int n, .int k])).length) Slot.unset).toArray = ls at hl ⊢
  have hl : lv_has ls 4 [(0, .ref (x 0)), (1, .int n), (2, .int k)] := hl
  obtain ⟨OUT, hO⟩ : ∃ z, z = F_X5_order P Rw Rf Tr Tu Be n k := ⟨_, rfl⟩
  have hF := hO
  unfold F_X5_order at hF
  have e_pz := tN_eq pz.1
  have b_pz := pz.2
  refine lv_iload_n hx hb dX5_order_0 rfl (lv_at hl 1 rfl) ?_
  refine lv_iconst (v := nI 1) hx hb dX5_order_1 (by decide) ?_
  refine lv_bipush (v := nI 8) hx hb dX5_order_2 (by decide) ?_
  refine qc_Si (As := [.int n, .int (nI 1), .int (nI 8)]) (rest := []) ⟨hx, hb, hml, hown, hts⟩ (c_X5_within l n (nI 1) (nI 8)) (va_cwS 3 hts gX5_order_X5_within rfl rfl rfl (by decide +kernel) ⟨Nat.le_of_ble_eq_true rfl, Nat.le_of_ble_eq_true rfl⟩) rfl hl.1 rfl (Nat.le_of_ble_eq_true rfl) dX5_order_4 ⟨Nat.zero_le _, Nat.zero_le _⟩ (fun r_4 hw_4 => ?_)
  subst hw_4
  refine qv_zif_eq (tgt := 15) hx hb dX5_order_7 (by decide) (fun c_7 => ?_) (fun c_7 => ?_)
  · rw [if_neg c_7] at hF
    refine lv_aload_n hx hb dX5_order_15 rfl (lv_at hl 0 rfl) ?_
    refine lv_bipush (v := (-2)) hx hb dX5_order_16 (by decide) ?_
    refine qx_Vi (C := RX5) (As := [.int ((-2))]) (rest := []) (ci := 5) (k0 := 0) (wr := (fO ((fun i => x (1 + i)))) ++ (pW ((fun i => x (2 + i))) cI P) ++ ([(x 6, .inl (cI, 8, .inl Rw))]) ++ (pW ((fun i => x (51 + i))) cI Tr) ++ ([(x 55, .inl (cI, 6, .inl Tu))]) ++ ([(x 56, .inl (cI, 6, .inl Be))])) (ws2 := fun u => (xO x X) ++ (fO ((fun i => x (1 + i)))) ++ (pW ((fun i => x (2 + i))) cI P) ++ ([(x 6, .inl (cI, 8, .inl Rw))]) ++ ([(x 15, .inl (cI, 3, .inl u))]) ++ (pW ((fun i => x (51 + i))) cI Tr) ++ ([(x 55, .inl (cI, 6, .inl Tu))]) ++ ([(x 56, .inl (cI, 6, .inl Be))])) [0, 7] [1, 2, 3, 4, 5, 6, 8, 9, 10, 11, 12, 13] [12, 0, 1, 2, 3, 4, 5, 13, 6, 7, 8, 9, 10, 11] ⟨hx, hb, hml, hown, hts⟩ (c_X5_refuse l dC dI x cI s.heap.size X Rf ((-2)) ) (cwV 1 hts gX5_order_X5_refuse rfl rfl rfl (by decide +kernel) ⟨Nat.le_of_ble_eq_true rfl, Nat.le_of_ble_eq_true rfl⟩) (hK.sub [0] rfl) hK hP hD hS hA hN rfl rfl (by decide) (by decide) (by decide) (by decide) (fun _ => rfl) rfl rfl rfl rfl hl.1 rfl (Nat.le_of_ble_eq_true rfl) dX5_order_18 ⟨Nat.zero_le _, Nat.zero_le _⟩ (fun r_18 u_18 H locs hw_18 hP hD hS => ?_)
    obtain ⟨Rf_18, rfl⟩ : ∃ z, z = u_18 := ⟨_, rfl⟩
    have hP : va_P (dC, dI) vwCl ((xO x X) ++ (fO ((fun i => x (1 + i)))) ++ (pW ((fun i => x (2 + i))) cI P) ++ ([(x 6, .inl (cI, 8, .inl Rw))]) ++ ([(x 15, .inl (cI, 3, .inl Rf_18))]) ++ (pW ((fun i => x (51 + i))) cI Tr) ++ ([(x 55, .inl (cI, 6, .inl Tu))]) ++ ([(x 56, .inl (cI, 6, .inl Be))])) H := hP
    have hD : va_D A ((xO x X) ++ (fO ((fun i => x (1 + i)))) ++ (pW ((fun i => x (2 + i))) cI P) ++ ([(x 6, .inl (cI, 8, .inl Rw))]) ++ ([(x 15, .inl (cI, 3, .inl Rf_18))]) ++ (pW ((fun i => x (51 + i))) cI Tr) ++ ([(x 55, .inl (cI, 6, .inl Tu))]) ++ ([(x 56, .inl (cI, 6, .inl Be))])) := hD
    rw [hw_18, let2_mk r_18 Rf_18] at hF
    refine lv_pop hx hb dX5_order_21 rfl ?_
    refine lv_bipush (v := (-10)) hx hb dX5_order_22 (by decide) ?_
    have hP9 : va_P (dC, dI) vwCl ((xO x X) ++ (fO ((fun i => x (1 + i)))) ++ (pW ((fun i => x (2 + i))) cI P) ++ ([(x 6, .inl (cI, 8, .inl Rw))]) ++ ([(x 15, .inl (cI, 3, .inl Rf_18))]) ++ (pW ((fun i => x (51 + i))) cI Tr) ++ ([(x 55, .inl (cI, 6, .inl Tu))]) ++ ([(x 56, .inl (cI, 6, .inl Be))])) H := hP
    exact W.iret (v := (-10)) hx hb hr (fun t ht hW => ⟨⟨_, ((Tr, Tu, Be, Rf_18)), rfl, hO.symm.trans hF, by rw [ht]; exact hP9, va_K.moved hW.alike hK, hD⟩, hS.F ht⟩) hS.2.2 dX5_order_24
  · rw [if_pos c_7] at hF
    obtain ⟨f_n, fa_n, fb_n⟩ := within_nat (by decide) (by decide) c_7
    have e_n := tN_eq f_n
    refine lv_iload_n hx hb dX5_order_10 rfl (lv_at hl 2 rfl) ?_
    refine lv_iconst (v := (-1)) hx hb dX5_order_11 (by decide) ?_
    refine lv_icmp_ge (tgt := 25) hx hb dX5_order_12 (by decide) (fun c_12 => ?_) (fun c_12 => ?_)
    · rw [if_pos c_12] at hF
      refine lv_iload_n hx hb dX5_order_25 rfl (lv_at hl 2 rfl) ?_
      refine lv_aload_n hx hb dX5_order_26 rfl (lv_at hl 0 rfl) ?_
      refine va_get (D := (dC, dI)) (ci := 5) (v := .ref (x 1)) (C := RX5) (T := TX5) (N := 14) hx hb hts hin5 hown hK hP 0 rfl rfl 0 (by decide) lk12 (fun _ h9 => h9) rfl dX5_order_27 ?_
      refine va_get (D := (dC, dI)) (ci := 1) (v := .ref (x 2)) (C := RX1) (T := TX1) (N := 5) hx hb hts hin1 hown hK hP 1 rfl rfl 0 (by decide) lk74 (fun _ h9 => h9) rfl dX5_order_30 ?_
      refine va_get (D := (dC, dI)) (ci := 2) (v := .int (Psz P)) (C := RX2) (T := TX2) (N := 8) hx hb hts hin2 hown hK hP 2 rfl rfl 1 (by decide) lk77 (fun _ h9 => h9) rfl dX5_order_33 ?_
      refine qv_top (e_pz) ?_
      refine lv_icmp_lt (tgt := 42) hx hb dX5_order_36 (by decide) (fun c_36 => ?_) (fun c_36 => ?_)
      · rw [if_pos c_36] at hF
        refine lv_aload_n hx hb dX5_order_42 rfl (lv_at hl 0 rfl) ?_
        refine lv_iload_n hx hb dX5_order_43 rfl (lv_at hl 1 rfl) ?_
        refine qv_top (e_n) ?_
        refine qx_Vi (C := RX5) (As := [.int (nI (tN n))]) (rest := []) (ci := 5) (k0 := 0) (wr := ([(x 15, .inl (cI, 3, .inl Rf))])) (ws2 := fun u => (xO x X) ++ (fO ((fun i => x (1 + i)))) ++ (pW ((fun i => x (2 + i))) cI P) ++ ([(x 6, .inl (cI, 8, .inl Rw))]) ++ ([(x 15, .inl (cI, 3, .inl Rf))]) ++ (pW ((fun i => x (51 + i))) cI (u.1)) ++ ([(x 55, .inl (cI, 6, .inl (u.2.1)))]) ++ ([(x 56, .inl (cI, 6, .inl (u.2.2)))])) [0, 1, 2, 3, 4, 5, 6, 8, 9, 10, 11, 12, 13] [7] [1, 2, 3, 4, 5, 6, 7, 0, 8, 9, 10, 11, 12, 13] ⟨hx, hb, hml, hown, hts⟩ (c_X5_findBestTurn l dC dI x cI s.heap.size X P Rw Tr Tu Be (tN n) (pz : inB (Psz P) 6) (by omega)) (cwV 1 hts gX5_order_X5_findBestTurn rfl rfl rfl (by decide +kernel) ⟨Nat.le_of_ble_eq_true rfl, Nat.le_of_ble_eq_true rfl⟩) (hK.sub [0] rfl) hK hP hD hS hA hN rfl rfl (by decide) (by decide) (by decide) (by decide) (fun _ => rfl) rfl rfl rfl rfl hl.1 rfl (Nat.le_of_ble_eq_true rfl) dX5_order_44 ⟨Nat.zero_le _, Nat.zero_le _⟩ (fun r_44 u_44 H locs hw_44 hP hD hS => ?_)
        obtain ⟨Tr_44, Tu_44, Be_44⟩ := u_44
        have hP : va_P (dC, dI) vwCl ((xO x X) ++ (fO ((fun i => x (1 + i)))) ++ (pW ((fun i => x (2 + i))) cI P) ++ ([(x 6, .inl (cI, 8, .inl Rw))]) ++ ([(x 15, .inl (cI, 3, .inl Rf))]) ++ (pW ((fun i => x (51 + i))) cI Tr_44) ++ ([(x 55, .inl (cI, 6, .inl Tu_44))]) ++ ([(x 56, .inl (cI, 6, .inl Be_44))])) H := hP
        have hD : va_D A ((xO x X) ++ (fO ((fun i => x (1 + i)))) ++ (pW ((fun i => x (2 + i))) cI P) ++ ([(x 6, .inl (cI, 8, .inl Rw))]) ++ ([(x 15, .inl (cI, 3, .inl Rf))]) ++ (pW ((fun i => x (51 + i))) cI Tr_44) ++ ([(x 55, .inl (cI, 6, .inl Tu_44))]) ++ ([(x 56, .inl (cI, 6, .inl Be_44))])) := hD
        rw [hw_44, let4_mk r_44 Tr_44 Tu_44 Be_44] at hF
        refine lv_istore_n (lv' := [(3, .int r_44), (0, .ref (x 0)), (1, .int n), (2, .int k)]) hx hb dX5_order_47 rfl hl (by decide) rfl (fun ls hl => ?_)
        refine lv_iload_n hx hb dX5_order_48 rfl (lv_at hl 3 rfl) ?_
        refine lv_if_ge (tgt := 56) hx hb dX5_order_49 (by decide) (fun c_49 => ?_) (fun c_49 => ?_)
        · rw [if_pos c_49] at hF
          have e_k := tN_eq c_49
          have l_k : tN k < tN (Psz P) := by have q := c_36; rw [e_k, nI_ltI (tN_lt _) (tN_lt _)] at q; exact q
          refine lv_aload_n hx hb dX5_order_56 rfl (lv_at hl 1 rfl) ?_
          refine va_get (D := (dC, dI)) (ci := 5) (v := .ref (x 56)) (C := RX5) (T := TX5) (N := 14) hx hb hts hin5 hown hK hP 0 rfl rfl 11 (by decide) lk55 (fun _ h9 => h9) rfl dX5_order_57 ?_
          refine lv_iload_n hx hb dX5_order_60 rfl (lv_at hl 3 rfl) ?_
          refine qv_top (e_k) ?_
          refine qv_ald (v := Be_44 (tN k)) hx hb hK hP 13 0 rfl rfl (by omega) (by decide) (rfl) dX5_order_61 ?_
          have hP9 : va_P (dC, dI) vwCl ((xO x X) ++ (fO ((fun i => x (1 + i)))) ++ (pW ((fun i => x (2 + i))) cI P) ++ ([(x 6, .inl (cI, 8, .inl Rw))]) ++ ([(x 15, .inl (cI, 3, .inl Rf))]) ++ (pW ((fun i => x (51 + i))) cI Tr_44) ++ ([(x 55, .inl (cI, 6, .inl Tu_44))]) ++ ([(x 56, .inl (cI, 6, .inl Be_44))])) H := hP
          exact W.iret (v := Be_44 (tN k)) hx hb hr (fun t ht hW => ⟨⟨_, ((Tr_44, Tu_44, Be_44, Rf)), rfl, hO.symm.trans hF, by rw [ht]; exact hP9, va_K.moved hW.alike hK, hD⟩, hS.F ht⟩) hS.2.2 dX5_order_62
        · rw [if_neg c_49] at hF
          refine lv_iload_n hx hb dX5_order_52 rfl (lv_at hl 0 rfl) ?_
          refine lv_goto (tgt := 62) hx hb dX5_order_53 (by decide) ?_
          have hP9 : va_P (dC, dI) vwCl ((xO x X) ++ (fO ((fun i => x (1 + i)))) ++ (pW ((fun i => x (2 + i))) cI P) ++ ([(x 6, .inl (cI, 8, .inl Rw))]) ++ ([(x 15, .inl (cI, 3, .inl Rf))]) ++ (pW ((fun i => x (51 + i))) cI Tr_44) ++ ([(x 55, .inl (cI, 6, .inl Tu_44))]) ++ ([(x 56, .inl (cI, 6, .inl Be_44))])) H := hP
          exact W.iret (v := r_44) hx hb hr (fun t ht hW => ⟨⟨_, ((Tr_44, Tu_44, Be_44, Rf)), rfl, hO.symm.trans hF, by rw [ht]; exact hP9, va_K.moved hW.alike hK, hD⟩, hS.F ht⟩) hS.2.2 dX5_order_62
      · rw [if_neg c_36] at hF
        refine lv_bipush (v := (-5)) hx hb dX5_order_39 (by decide) ?_
        have hP9 : va_P (dC, dI) vwCl ((xO x X) ++ (fO ((fun i => x (1 + i)))) ++ (pW ((fun i => x (2 + i))) cI P) ++ ([(x 6, .inl (cI, 8, .inl Rw))]) ++ ([(x 15, .inl (cI, 3, .inl Rf))]) ++ (pW ((fun i => x (51 + i))) cI Tr) ++ ([(x 55, .inl (cI, 6, .inl Tu))]) ++ ([(x 56, .inl (cI, 6, .inl Be))])) s.heap := hP
        exact W.iret (v := (-5)) hx hb hr (fun t ht hW => ⟨⟨_, ((Tr, Tu, Be, Rf)), rfl, hO.symm.trans hF, by rw [ht]; exact hP9, va_K.moved hW.alike hK, hD⟩, hS.F ht⟩) hS.2.2 dX5_order_41
    · rw [if_neg c_12] at hF
      refine lv_aload_n hx hb dX5_order_15 rfl (lv_at hl 0 rfl) ?_
      refine lv_bipush (v := (-2)) hx hb dX5_order_16 (by decide) ?_
      refine qx_Vi (C := RX5) (As := [.int ((-2))]) (rest := []) (ci := 5) (k0 := 0) (wr := (fO ((fun i => x (1 + i)))) ++ (pW ((fun i => x (2 + i))) cI P) ++ ([(x 6, .inl (cI, 8, .inl Rw))]) ++ (pW ((fun i => x (51 + i))) cI Tr) ++ ([(x 55, .inl (cI, 6, .inl Tu))]) ++ ([(x 56, .inl (cI, 6, .inl Be))])) (ws2 := fun u => (xO x X) ++ (fO ((fun i => x (1 + i)))) ++ (pW ((fun i => x (2 + i))) cI P) ++ ([(x 6, .inl (cI, 8, .inl Rw))]) ++ ([(x 15, .inl (cI, 3, .inl u))]) ++ (pW ((fun i => x (51 + i))) cI Tr) ++ ([(x 55, .inl (cI, 6, .inl Tu))]) ++ ([(x 56, .inl (cI, 6, .inl Be))])) [0, 7] [1, 2, 3, 4, 5, 6, 8, 9, 10, 11, 12, 13] [12, 0, 1, 2, 3, 4, 5, 13, 6, 7, 8, 9, 10, 11] ⟨hx, hb, hml, hown, hts⟩ (c_X5_refuse l dC dI x cI s.heap.size X Rf ((-2)) ) (cwV 1 hts gX5_order_X5_refuse rfl rfl rfl (by decide +kernel) ⟨Nat.le_of_ble_eq_true rfl, Nat.le_of_ble_eq_true rfl⟩) (hK.sub [0] rfl) hK hP hD hS hA hN rfl rfl (by decide) (by decide) (by decide) (by decide) (fun _ => rfl) rfl rfl rfl rfl hl.1 rfl (Nat.le_of_ble_eq_true rfl) dX5_order_18 ⟨Nat.zero_le _, Nat.zero_le _⟩ (fun r_18 u_18 H locs hw_18 hP hD hS => ?_)
      obtain ⟨Rf_18, rfl⟩ : ∃ z, z = u_18 := ⟨_, rfl⟩
      have hP : va_P (dC, dI) vwCl ((xO x X) ++ (fO ((fun i => x (1 + i)))) ++ (pW ((fun i => x (2 + i))) cI P) ++ ([(x 6, .inl (cI, 8, .inl Rw))]) ++ ([(x 15, .inl (cI, 3, .inl Rf_18))]) ++ (pW ((fun i => x (51 + i))) cI Tr) ++ ([(x 55, .inl (cI, 6, .inl Tu))]) ++ ([(x 56, .inl (cI, 6, .inl Be))])) H := hP
      have hD : va_D A ((xO x X) ++ (fO ((fun i => x (1 + i)))) ++ (pW ((fun i => x (2 + i))) cI P) ++ ([(x 6, .inl (cI, 8, .inl Rw))]) ++ ([(x 15, .inl (cI, 3, .inl Rf_18))]) ++ (pW ((fun i => x (51 + i))) cI Tr) ++ ([(x 55, .inl (cI, 6, .inl Tu))]) ++ ([(x 56, .inl (cI, 6, .inl Be))])) := hD
      rw [hw_18, let2_mk r_18 Rf_18] at hF
      refine lv_pop hx hb dX5_order_21 rfl ?_
      refine lv_bipush (v := (-10)) hx hb dX5_order_22 (by decide) ?_
      have hP9 : va_P (dC, dI) vwCl ((xO x X) ++ (fO ((fun i => x (1 + i)))) ++ (pW ((fun i => x (2 + i))) cI P) ++ ([(x 6, .inl (cI, 8, .inl Rw))]) ++ ([(x 15, .inl (cI, 3, .inl Rf_18))]) ++ (pW ((fun i => x (51 + i))) cI Tr) ++ ([(x 55, .inl (cI, 6, .inl Tu))]) ++ ([(x 56, .inl (cI, 6, .inl Be))])) H := hP
      exact W.iret (v := (-10)) hx hb hr (fun t ht hW => ⟨⟨_, ((Tr, Tu, Be, Rf_18)), rfl, hO.symm.trans hF, by rw [ht]; exact hP9, va_K.moved hW.alike hK, hD⟩, hS.F ht⟩) hS.2.2 dX5_order_24
