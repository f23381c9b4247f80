section QZ
variable {p : Program} {l : Launch} {e : Env} {R : Room} {s : State} {m : MethodId} {args : Array Value} {below : List Frame} {meth : Method} {c : Code} {H : Heap} {locs : List Loc} {cells slots : Nat} {Q : State → Prop}
variable {cc : ByteArray} {pc : Nat} {ls : Array Slot} {rest : List Value} {D : va_G} {cl : List vw_C} {A : Nat → Prop} {a : Nat} {tys : List (ClassId × FieldType)} {ws : va_W} {H0 : Heap}
theorem qv_zld (hexec : p.tables.exec = Jvm.exec) (hb : c.code = cc) (hK : va_K D cl tys s) (hP : va_P D cl ws H) (q0 t0 : Nat) {cA : ClassId} {n : Nat} {f : Nat → Int32} (ha : ws[q0]? = some (a, .inl (cA, n, .inl f))) (ht : tys[t0]? = some (cA, .boolean)) {i : Nat} (hi : i < n) (hn : n < 2 ^ 31) {v : Int32} (hv : f i = v) (hdg : decode cc pc = .ok (.baload, 1))
    (kk : W p l e R s m args below meth c H locs cells slots Q (F0 m (pc + 1) ls (.int v :: rest))) : W p l e R s m args below meth c H locs cells slots Q (F0 m pc ls (.int (nI i) :: .ref a :: rest)) :=
  va_zald hexec hb hK hP q0 t0 ha ht (vp_in_nI hi hn) hdg (by rw [nI_clamp (Nat.lt_trans hi hn), hv]; exact kk)
theorem qv_zst (hexec : p.tables.exec = Jvm.exec) (hb : c.code = cc) (hK : va_K D cl tys s) (hP : va_P D cl ws H) (hD : va_D A ws) (hS : va_S A H0 H locs) (q0 t0 : Nat) {cA : ClassId} {n : Nat} {f : Nat → Int32} (ha : ws[q0]? = some (a, .inl (cA, n, .inl f))) (ht : tys[t0]? = some (cA, .boolean)) {i : Nat} {x : Int32} (hi : i < n) (hn : n < 2 ^ 31) (hdg : decode cc pc = .ok (.bastore, 1)) (hx1 : vp_nar .boolean x = x) {ws' : va_W} (hw : ws.set q0 (a, .inl (cA, n, .inl (upd f i x))) = ws')
    (kk : ∀ (H1 : Heap) (locs1 : List Loc), va_P D cl ws' H1 → va_D A ws' → va_S A H0 H1 locs1 → W p l e R s m args below meth c H1 locs1 cells slots Q (F0 m (pc + 1) ls rest)) : W p l e R s m args below meth c H locs cells slots Q (F0 m pc ls (.int x :: .int (nI i) :: .ref a :: rest)) :=
  va_zast hexec hb hK hP hD hS q0 t0 ha ht (vp_in_nI hi hn) hdg (fun H1 locs1 h1 h2 h3 => by
    rw [nI_clamp (Nat.lt_trans hi hn), hx1, hw] at h1 h2
    exact kk H1 locs1 h1 h2 h3)
end QZ
def F_X6_isBatter (w : Nat → Int32) (i : Int32) : Bool := (F_X6_in i.toInt64 0 (((w 0) - (nI 1)).toInt64))
set_option maxHeartbeats 4000000 in
set_option maxRecDepth 100000 in
theorem c_X6_isBatter (l : Launch) (dC : Nat → ClassId) (dI : Nat → Nat → Nat) (q : Nat → Nat) (cI cZ : ClassId) (sz : Nat) (w : Nat → Int32) (kp : Nat → Int32) (tx : Nat → Int32) (td : Int32) (ab : Int64) (be : Int64) (su : Nat → Int32) (po : Int32) (st : Int32) (nu : Int32) (li : Nat → Int32) (fi : Nat → Int32) (ga : Nat → Int32) (hh : Int64) (i : Int32) : Met l yX6_isBatter wsX6_isBatter { frames := 1, cells := 0, slots := 0, locals := 25 } (mPc (dC, dI) vwCl (mT cI cZ) (mW q cI cZ w kp tx td ab be su po st nu li fi ga hh) sz [.ref (q 0), .int i]) (va_Qi (fun (r : Int32) (u : Unit) => ∃ z : Bool, F_X6_isBatter w i = z ∧ r = if z = true then 1 else 0) (mB (dC, dI) vwCl (mT cI cZ) (va_A (mW q cI cZ w kp tx td ab be su po st nu li fi ga hh) sz) (fun u => mW q cI cZ w kp tx td ab be su po st nu li fi ga hh)) (va_A (mW q cI cZ w kp tx td ab be su po st nu li fi ga hh) sz)) 0 0 (va_A (mW q cI cZ w kp tx td ab be su po st nu li fi ga hh) sz) := by
  refine Met.ofW (cc := cX6_isBatter) (maxL := 2) (ret := (some .boolean)) (by decide) rfl ?_
  intro p e s m args below meth c s₁ B hml hv
  obtain ⟨rfl, hsz, hP, hK, hD0⟩ := hv
  have hx := B.exec
  have hb := B.bytes
  have hr := B.returns
  have hts := atoms_spec (ws := wsX6_isBatter) B.pre
  have hown : s.vm.findClass RX6 = some m.cls := findClass_of_methodNamed B.named
  have hlocks := B.notSynchronized
  subst hsz
  have hD := hD0.self (sz := s.heap.size)
  generalize hAe : va_A (mW q cI cZ w kp tx td ab be su po st nu li fi ga hh) s.heap.size = A at hD ⊢
  have hA : ∀ q : Nat, s.heap.size ≤ q → A q := fun q h => by rw [← hAe]; exact Or.inr h
  have hS : va_S A s.heap s.heap [] := va_S.rf
  have hin : ∀ w ∈ wsX60, w ∈ wsX6_isBatter := by decide +kernel
  have lk7 := hts (.fieldLink RX6 7 "PostRoundersModel" "w" "[I") (by decide +kernel)
  have hl := lv_entry ([.ref (q 0), .int i]) (n := 2) (Nat.le_of_ble_eq_true rfl)
  rw [lg_entry_eq]
  generalize (lg_sl ([.ref (q 0), .int i]) ++ List.replicate (2 - (lg_sl ([.ref (q 0), .int i])).length) Slot.unset).toArray = ls at hl ⊢
  have hl : lv_has ls 2 [(0, .ref (q 0)), (1, .int i)] := hl
  obtain ⟨OUT, hO⟩ : ∃ z, z = F_X6_isBatter w i := ⟨_, rfl⟩
  have hF := hO
  unfold F_X6_isBatter at hF
  refine lv_iload_n hx hb dX6_isBatter_0 rfl (lv_at hl 1 rfl) ?_
  refine lv_i2l hx hb dX6_isBatter_1 rfl ?_
  refine lv_lconst (v := 0) hx hb dX6_isBatter_2 (by decide) ?_
  refine lv_aload_n hx hb dX6_isBatter_3 rfl (lv_at hl 0 rfl) ?_
  refine va_get (D := (dC, dI)) (ci := 6) (v := .ref (q 1)) (C := RX6) (T := TX6) (N := 14) hx hb hts hin hown hK hP 0 rfl rfl 0 (by decide) lk7 (fun _ h9 => h9) rfl dX6_isBatter_4 ?_
  refine lv_iconst (v := nI 0) hx hb dX6_isBatter_7 (by decide) ?_
  refine qv_ald (v := w 0) hx hb hK hP 1 0 rfl rfl (by omega) (by decide) (rfl) dX6_isBatter_8 ?_
  refine lv_iconst (v := nI 1) hx hb dX6_isBatter_9 (by decide) ?_
  refine lv_isub hx hb dX6_isBatter_10 ?_
  refine lv_i2l hx hb dX6_isBatter_11 rfl ?_
  refine qc_Si (As := [.long i.toInt64, .long 0, .long (((w 0) - (nI 1)).toInt64)]) (rest := []) ⟨hx, hb, hml, hown, hts⟩ (c_X6_in l i.toInt64 0 (((w 0) - (nI 1)).toInt64)) (va_cwS 3 hts gX6_isBatter_X6_in rfl rfl rfl (by decide +kernel) ⟨Nat.le_of_ble_eq_true rfl, Nat.le_of_ble_eq_true rfl⟩) rfl hl.1 rfl (Nat.le_of_ble_eq_true rfl) dX6_isBatter_12 ⟨Nat.zero_le _, Nat.zero_le _⟩ (fun r_12 hw_12 => ?_)
  subst hw_12
  have hP9 : va_P (dC, dI) vwCl (mW q cI cZ w kp tx td ab be su po st nu li fi ga hh) s.heap := hP
  exact W.zret (v := if (F_X6_in i.toInt64 0 (((w 0) - (nI 1)).toInt64)) = true then 1 else 0) hx hb hr (zb_nar _) (fun t ht hW => ⟨⟨_, (()), rfl, ⟨(F_X6_in i.toInt64 0 (((w 0) - (nI 1)).toInt64)), hO.symm.trans hF, rfl⟩, by rw [ht]; exact hP9, va_K.moved hW.alike hK, hD⟩, hS.F ht⟩) hS.2.2 dX6_isBatter_15
theorem isBatter_nat {w : Nat → Int32} {i : Int32} {z : Bool} (e : F_X6_isBatter w i = z) (c : z = true) (pB : inB (w 0) 6) : 0 ≤ i ∧ tN i < tN (w 0) := by
  rw [c] at e
  unfold F_X6_isBatter at e
  have h := in_iff.mp e
  have h1 : (0 : Int32) ≤ i := (wide_le 0 i).mp h.1
  have h2 : i ≤ w 0 - nI 1 := (wide_le _ _).mp h.2
  have e0 := tN_eq pB.1
  have b0 := pB.2
  have h1' := Int32.le_iff_toInt_le.mp h1
  have h2' := Int32.le_iff_toInt_le.mp h2
  rw [e0, pk_sub_toInt (by omega) (by decide)] at h2'
  rw [show (0 : Int32).toInt = 0 from rfl] at h1'
  refine ⟨h1, ?_⟩
  show i.toNatClampNeg < _
  have : (i.toNatClampNeg : Int) = i.toInt := by unfold Int32.toNatClampNeg; omega
  omega
def F_X6_field (w : Nat → Int32) (su : Nat → Int32) (kd : Int32) : Int32 × (Nat → Int32) × (Nat → Int32) := if (F_X6_in kd.toInt64 0 5) = true then let1 (F_X6_begins w 0 (nI (tN kd))) (fun w_29 => (w 0, w_29, su)) else let2 (F_X6_bad su ((-2))) (fun r_15 su_15 => (r_15, w, su_15))
set_option maxHeartbeats 4000000 in
set_option maxRecDepth 100000 in
theorem c_X6_field (l : Launch) (dC : Nat → ClassId) (dI : Nat → Nat → Nat) (q : Nat → Nat) (cI cZ : ClassId) (sz : Nat) (w : Nat → Int32) (kp : Nat → Int32) (tx : Nat → Int32) (td : Int32) (ab : Int64) (be : Int64) (su : Nat → Int32) (po : Int32) (st : Int32) (nu : Int32) (li : Nat → Int32) (fi : Nat → Int32) (ga : Nat → Int32) (hh : Int64) (kd : Int32) : Met l yX6_field wsX6_field { frames := 2, cells := 0, slots := 0, locals := 45 } (mPc (dC, dI) vwCl (mT cI cZ) (mW q cI cZ w kp tx td ab be su po st nu li fi ga hh) sz [.ref (q 0), .int kd]) (va_Qi (fun (r : Int32) (u : (Nat → Int32) × (Nat → Int32)) => F_X6_field w su kd = (r, u)) (mB (dC, dI) vwCl (mT cI cZ) (va_A (mW q cI cZ w kp tx td ab be su po st nu li fi ga hh) sz) (fun u => mW q cI cZ u.1 kp tx td ab be u.2 po st nu li fi ga hh)) (va_A (mW q cI cZ w kp tx td ab be su po st nu li fi ga hh) sz)) 0 0 (va_A (mW q cI cZ w kp tx td ab be su po st nu li fi ga hh) sz) := by
  refine Met.ofW (cc := cX6_field) (maxL := 3) (ret := (some .int)) (by decide) rfl ?_
  intro p e s m args below meth c s₁ B hml hv
  obtain ⟨rfl, hsz, hP, hK, hD0⟩ := hv
  have hx := B.exec
  have hb := B.bytes
  have hr := B.returns
  have hts := atoms_spec (ws := wsX6_field) B.pre
  have hown : s.vm.findClass RX6 = some m.cls := findClass_of_methodNamed B.named
  have hlocks := B.notSynchronized
  subst hsz
  have hD := hD0.self (sz := s.heap.size)
  generalize hAe : va_A (mW q cI cZ w kp tx td ab be su po st nu li fi ga hh) s.heap.size = A at hD ⊢
  have hA : ∀ q : Nat, s.heap.size ≤ q → A q := fun q h => by rw [← hAe]; exact Or.inr h
  have hS : va_S A s.heap s.heap [] := va_S.rf
  have hin : ∀ w ∈ wsX60, w ∈ wsX6_field := by decide +kernel
  have lk7 := hts (.fieldLink RX6 7 "PostRoundersModel" "w" "[I") (by decide +kernel)
  have hl := lv_entry ([.ref (q 0), .int kd]) (n := 3) (Nat.le_of_ble_eq_true rfl)
  rw [lg_entry_eq]
  generalize (lg_sl ([.ref (q 0), .int kd]) ++ List.replicate (3 - (lg_sl ([.ref (q 0), .int kd])).length) Slot.unset).toArray = ls at hl ⊢
  have hl : lv_has ls 3 [(0, .ref (q 0)), (1, .int kd)] := hl
  obtain ⟨OUT, hO⟩ : ∃ z, z = F_X6_field w su kd := ⟨_, rfl⟩
  have hF := hO
  unfold F_X6_field at hF
  refine lv_iload_n hx hb dX6_field_0 rfl (lv_at hl 1 rfl) ?_
  refine lv_i2l hx hb dX6_field_1 rfl ?_
  refine lv_lconst (v := 0) hx hb dX6_field_2 (by decide) ?_
  refine lv_ldc2 (v := 5) hx hb hown (hts (.constantLong RX6 87 5) (by decide +kernel)) dX6_field_3 ?_
  refine qc_Si (As := [.long kd.toInt64, .long 0, .long 5]) (rest := []) ⟨hx, hb, hml, hown, hts⟩ (c_X6_in l kd.toInt64 0 5) (va_cwS 3 hts gX6_field_X6_in rfl rfl rfl (by decide +kernel) ⟨Nat.le_of_ble_eq_true rfl, Nat.le_of_ble_eq_true rfl⟩) rfl hl.1 rfl (Nat.le_of_ble_eq_true rfl) dX6_field_6 ⟨Nat.zero_le _, Nat.zero_le _⟩ (fun r_6 hw_6 => ?_)
  subst hw_6
  refine qv_zif_ne (tgt := 19) hx hb dX6_field_9 (by decide) (fun c_9 => ?_) (fun c_9 => ?_)
  · rw [if_pos c_9] at hF
    obtain ⟨f_kd, fa_kd, fb_kd⟩ := in_nat (lo := 0) (hi := 5) rfl rfl (by decide) (by decide) c_9
    have e_kd := tN_eq f_kd
    refine lv_aload_n hx hb dX6_field_19 rfl (lv_at hl 0 rfl) ?_
    refine va_get (D := (dC, dI)) (ci := 6) (v := .ref (q 1)) (C := RX6) (T := TX6) (N := 14) hx hb hts hin hown hK hP 0 rfl rfl 0 (by decide) lk7 (fun _ h9 => h9) rfl dX6_field_20 ?_
    refine lv_iconst (v := nI 0) hx hb dX6_field_23 (by decide) ?_
    refine qv_ald (v := w 0) hx hb hK hP 1 0 rfl rfl (by omega) (by decide) (rfl) dX6_field_24 ?_
    refine lv_istore_n (lv' := [(2, .int (w 0)), (0, .ref (q 0)), (1, .int kd)]) hx hb dX6_field_25 rfl hl (by decide) rfl (fun ls hl => ?_)
    refine lv_aload_n hx hb dX6_field_26 rfl (lv_at hl 1 rfl) ?_
    refine lv_iconst (v := nI 0) hx hb dX6_field_27 (by decide) ?_
    refine lv_iload_n hx hb dX6_field_28 rfl (lv_at hl 2 rfl) ?_
    refine qv_top (e_kd) ?_
    refine qc_Vv (C := RX6) (As := [.int (nI 0), .int (nI (tN kd))]) (rest := []) (ci := 6) (k0 := 0) ⟨hx, hb, hml, hown, hts⟩ (c_X6_begins l dC dI q cI cZ s.heap.size w kp tx td ab be su po st nu li fi ga hh 0 (nI (tN kd)) (by omega)) (cwV 2 hts gX6_field_X6_begins rfl rfl rfl (by decide +kernel) ⟨Nat.le_of_ble_eq_true rfl, Nat.le_of_ble_eq_true rfl⟩) hK hP hD hS hA rfl rfl rfl rfl hl.1 rfl (Nat.le_of_ble_eq_true rfl) dX6_field_29 ⟨Nat.zero_le _, Nat.zero_le _⟩ (fun u_29 H locs hw_29 hP hD hS => ?_)
    obtain ⟨w_29, rfl⟩ : ∃ z, z = u_29 := ⟨_, rfl⟩
    have hP : va_P (dC, dI) vwCl (mW q cI cZ w_29 kp tx td ab be su po st nu li fi ga hh) H := hP
    have hD : va_D A (mW q cI cZ w_29 kp tx td ab be su po st nu li fi ga hh) := hD
    rw [hw_29, let1_mk w_29] at hF
    refine lv_iload_n hx hb dX6_field_32 rfl (lv_at hl 0 rfl) ?_
    have hP9 : va_P (dC, dI) vwCl (mW q cI cZ w_29 kp tx td ab be su po st nu li fi ga hh) H := hP
    exact W.iret (v := w 0) hx hb hr (fun t ht hW => ⟨⟨_, ((w_29, su)), rfl, hO.symm.trans hF, by rw [ht]; exact hP9, va_K.moved hW.alike hK, hD⟩, hS.F ht⟩) hS.2.2 dX6_field_33
  · rw [if_neg c_9] at hF
    refine lv_aload_n hx hb dX6_field_12 rfl (lv_at hl 0 rfl) ?_
    refine lv_bipush (v := (-2)) hx hb dX6_field_13 (by decide) ?_
    refine qc_Vi (C := RX6) (As := [.int ((-2))]) (rest := []) (ci := 6) (k0 := 0) ⟨hx, hb, hml, hown, hts⟩ (c_X6_bad l dC dI q cI cZ s.heap.size w kp tx td ab be su po st nu li fi ga hh ((-2)) ) (cwV 1 hts gX6_field_X6_bad rfl rfl rfl (by decide +kernel) ⟨Nat.le_of_ble_eq_true rfl, Nat.le_of_ble_eq_true rfl⟩) hK hP hD hS hA rfl rfl rfl rfl hl.1 rfl (Nat.le_of_ble_eq_true rfl) dX6_field_15 ⟨Nat.zero_le _, Nat.zero_le _⟩ (fun r_15 u_15 H locs hw_15 hP hD hS => ?_)
    obtain ⟨su_15, rfl⟩ : ∃ z, z = u_15 := ⟨_, rfl⟩
    have hP : va_P (dC, dI) vwCl (mW q cI cZ w kp tx td ab be su_15 po st nu li fi ga hh) H := hP
    have hD : va_D A (mW q cI cZ w kp tx td ab be su_15 po st nu li fi ga hh) := hD
    rw [hw_15, let2_mk r_15 su_15] at hF
    have hP9 : va_P (dC, dI) vwCl (mW q cI cZ w kp tx td ab be su_15 po st nu li fi ga hh) H := hP
    exact W.iret (v := r_15) hx hb hr (fun t ht hW => ⟨⟨_, ((w, su_15)), rfl, hO.symm.trans hF, by rw [ht]; exact hP9, va_K.moved hW.alike hK, hD⟩, hS.F ht⟩) hS.2.2 dX6_field_18
def F_X6_bowler (w : Nat → Int32) (su : Nat → Int32) (kd : Int32) : Int32 × (Nat → Int32) × (Nat → Int32) := if (F_X6_in kd.toInt64 0 5) = true then (w 1, (upd (upd w 1 (nI (tN kd))) 75 (nI 0)), su) else let2 (F_X6_bad su ((-2))) (fun r_15 su_15 => (r_15, w, su_15))
set_option maxHeartbeats 4000000 in
set_option maxRecDepth 100000 in
theorem c_X6_bowler (l : Launch) (dC : Nat → ClassId) (dI : Nat → Nat → Nat) (q : Nat → Nat) (cI cZ : ClassId) (sz : Nat) (w : Nat → Int32) (kp : Nat → Int32) (tx : Nat → Int32) (td : Int32) (ab : Int64) (be : Int64) (su : Nat → Int32) (po : Int32) (st : Int32) (nu : Int32) (li : Nat → Int32) (fi : Nat → Int32) (ga : Nat → Int32) (hh : Int64) (kd : Int32) : Met l yX6_bowler wsX6_bowler { frames := 1, cells := 0, slots := 0, locals := 25 } (mPc (dC, dI) vwCl (mT cI cZ) (mW q cI cZ w kp tx td ab be su po st nu li fi ga hh) sz [.ref (q 0), .int kd]) (va_Qi (fun (r : Int32) (u : (Nat → Int32) × (Nat → Int32)) => F_X6_bowler w su kd = (r, u)) (mB (dC, dI) vwCl (mT cI cZ) (va_A (mW q cI cZ w kp tx td ab be su po st nu li fi ga hh) sz) (fun u => mW q cI cZ u.1 kp tx td ab be u.2 po st nu li fi ga hh)) (va_A (mW q cI cZ w kp tx td ab be su po st nu li fi ga hh) sz)) 0 0 (va_A (mW q cI cZ w kp tx td ab be su po st nu li fi ga hh) sz) := by
  refine Met.ofW (cc := cX6_bowler) (maxL := 3) (ret := (some .int)) (by decide) rfl ?_
  intro p e s m args below meth c s₁ B hml hv
  obtain ⟨rfl, hsz, hP, hK, hD0⟩ := hv
  have hx := B.exec
  have hb := B.bytes
  have hr := B.returns
  have hts := atoms_spec (ws := wsX6_bowler) B.pre
  have hown : s.vm.findClass RX6 = some m.cls := findClass_of_methodNamed B.named
  have hlocks := B.notSynchronized
  subst hsz
  have hD := hD0.self (sz := s.heap.size)
  generalize hAe : va_A (mW q cI cZ w kp tx td ab be su po st nu li fi ga hh) s.heap.size = A at hD ⊢
  have hA : ∀ q : Nat, s.heap.size ≤ q → A q := fun q h => by rw [← hAe]; exact Or.inr h
  have hS : va_S A s.heap s.heap [] := va_S.rf
  have hin : ∀ w ∈ wsX60, w ∈ wsX6_bowler := by decide +kernel
  have lk7 := hts (.fieldLink RX6 7 "PostRoundersModel" "w" "[I") (by decide +kernel)
  have hl := lv_entry ([.ref (q 0), .int kd]) (n := 3) (Nat.le_of_ble_eq_true rfl)
  rw [lg_entry_eq]
  generalize (lg_sl ([.ref (q 0), .int kd]) ++ List.replicate (3 - (lg_sl ([.ref (q 0), .int kd])).length) Slot.unset).toArray = ls at hl ⊢
  have hl : lv_has ls 3 [(0, .ref (q 0)), (1, .int kd)] := hl
  obtain ⟨OUT, hO⟩ : ∃ z, z = F_X6_bowler w su kd := ⟨_, rfl⟩
  have hF := hO
  unfold F_X6_bowler at hF
  refine lv_iload_n hx hb dX6_bowler_0 rfl (lv_at hl 1 rfl) ?_
  refine lv_i2l hx hb dX6_bowler_1 rfl ?_
  refine lv_lconst (v := 0) hx hb dX6_bowler_2 (by decide) ?_
  refine lv_ldc2 (v := 5) hx hb hown (hts (.constantLong RX6 87 5) (by decide +kernel)) dX6_bowler_3 ?_
  refine qc_Si (As := [.long kd.toInt64, .long 0, .long 5]) (rest := []) ⟨hx, hb, hml, hown, hts⟩ (c_X6_in l kd.toInt64 0 5) (va_cwS 3 hts gX6_bowler_X6_in rfl rfl rfl (by decide +kernel) ⟨Nat.le_of_ble_eq_true rfl, Nat.le_of_ble_eq_true rfl⟩) rfl hl.1 rfl (Nat.le_of_ble_eq_true rfl) dX6_bowler_6 ⟨Nat.zero_le _, Nat.zero_le _⟩ (fun r_6 hw_6 => ?_)
  subst hw_6
  refine qv_zif_ne (tgt := 19) hx hb dX6_bowler_9 (by decide) (fun c_9 => ?_) (fun c_9 => ?_)
  · rw [if_pos c_9] at hF
    obtain ⟨f_kd, fa_kd, fb_kd⟩ := in_nat (lo := 0) (hi := 5) rfl rfl (by decide) (by decide) c_9
    have e_kd := tN_eq f_kd
    refine lv_aload_n hx hb dX6_bowler_19 rfl (lv_at hl 0 rfl) ?_
    refine va_get (D := (dC, dI)) (ci := 6) (v := .ref (q 1)) (C := RX6) (T := TX6) (N := 14) hx hb hts hin hown hK hP 0 rfl rfl 0 (by decide) lk7 (fun _ h9 => h9) rfl dX6_bowler_20 ?_
    refine lv_iconst (v := nI 1) hx hb dX6_bowler_23 (by decide) ?_
    refine qv_ald (v := w 1) hx hb hK hP 1 0 rfl rfl (by omega) (by decide) (rfl) dX6_bowler_24 ?_
    refine lv_istore_n (lv' := [(2, .int (w 1)), (0, .ref (q 0)), (1, .int kd)]) hx hb dX6_bowler_25 rfl hl (by decide) rfl (fun ls hl => ?_)
    refine lv_aload_n hx hb dX6_bowler_26 rfl (lv_at hl 1 rfl) ?_
    refine va_get (D := (dC, dI)) (ci := 6) (v := .ref (q 1)) (C := RX6) (T := TX6) (N := 14) hx hb hts hin hown hK hP 0 rfl rfl 0 (by decide) lk7 (fun _ h9 => h9) rfl dX6_bowler_27 ?_
    refine lv_iconst (v := nI 1) hx hb dX6_bowler_30 (by decide) ?_
    refine lv_iload_n hx hb dX6_bowler_31 rfl (lv_at hl 2 rfl) ?_
    refine qv_top (e_kd) ?_
    refine qv_ast (ws' := mW q cI cZ (upd w 1 (nI (tN kd))) kp tx td ab be su po st nu li fi ga hh) hx hb hK hP hD hS 1 0 rfl rfl (by omega) (by decide) dX6_bowler_32 rfl (fun H locs hP hD hS => ?_)
    refine lv_aload_n hx hb dX6_bowler_33 rfl (lv_at hl 1 rfl) ?_
    refine va_get (D := (dC, dI)) (ci := 6) (v := .ref (q 1)) (C := RX6) (T := TX6) (N := 14) hx hb hts hin hown hK hP 0 rfl rfl 0 (by decide) lk7 (fun _ h9 => h9) rfl dX6_bowler_34 ?_
    refine lv_bipush (v := nI 75) hx hb dX6_bowler_37 (by decide) ?_
    refine lv_iconst (v := nI 0) hx hb dX6_bowler_39 (by decide) ?_
    refine qv_ast (ws' := mW q cI cZ (upd (upd w 1 (nI (tN kd))) 75 (nI 0)) kp tx td ab be su po st nu li fi ga hh) hx hb hK hP hD hS 1 0 rfl rfl (by omega) (by decide) dX6_bowler_40 rfl (fun H locs hP hD hS => ?_)
    refine lv_iload_n hx hb dX6_bowler_41 rfl (lv_at hl 0 rfl) ?_
    have hP9 : va_P (dC, dI) vwCl (mW q cI cZ (upd (upd w 1 (nI (tN kd))) 75 (nI 0)) kp tx td ab be su po st nu li fi ga hh) H := hP
    exact W.iret (v := w 1) hx hb hr (fun t ht hW => ⟨⟨_, ((upd (upd w 1 (nI (tN kd))) 75 (nI 0), su)), rfl, hO.symm.trans hF, by rw [ht]; exact hP9, va_K.moved hW.alike hK, hD⟩, hS.F ht⟩) hS.2.2 dX6_bowler_42
  · rw [if_neg c_9] at hF
    refine lv_aload_n hx hb dX6_bowler_12 rfl (lv_at hl 0 rfl) ?_
    refine lv_bipush (v := (-2)) hx hb dX6_bowler_13 (by decide) ?_
    refine qc_Vi (C := RX6) (As := [.int ((-2))]) (rest := []) (ci := 6) (k0 := 0) ⟨hx, hb, hml, hown, hts⟩ (c_X6_bad l dC dI q cI cZ s.heap.size w kp tx td ab be su po st nu li fi ga hh ((-2)) ) (cwV 1 hts gX6_bowler_X6_bad rfl rfl rfl (by decide +kernel) ⟨Nat.le_of_ble_eq_true rfl, Nat.le_of_ble_eq_true rfl⟩) hK hP hD hS hA rfl rfl rfl rfl hl.1 rfl (Nat.le_of_ble_eq_true rfl) dX6_bowler_15 ⟨Nat.zero_le _, Nat.zero_le _⟩ (fun r_15 u_15 H locs hw_15 hP hD hS => ?_)
    obtain ⟨su_15, rfl⟩ : ∃ z, z = u_15 := ⟨_, rfl⟩
    have hP : va_P (dC, dI) vwCl (mW q cI cZ w kp tx td ab be su_15 po st nu li fi ga hh) H := hP
    have hD : va_D A (mW q cI cZ w kp tx td ab be su_15 po st nu li fi ga hh) := hD
    rw [hw_15, let2_mk r_15 su_15] at hF
    have hP9 : va_P (dC, dI) vwCl (mW q cI cZ w kp tx td ab be su_15 po st nu li fi ga hh) H := hP
    exact W.iret (v := r_15) hx hb hr (fun t ht hW => ⟨⟨_, ((w, su_15)), rfl, hO.symm.trans hF, by rw [ht]; exact hP9, va_K.moved hW.alike hK, hD⟩, hS.F ht⟩) hS.2.2 dX6_bowler_18
def F_X6_batter (w : Nat → Int32) (su : Nat → Int32) (kd : Int32) (lg : Int32) : Int32 × (Nat → Int32) × (Nat → Int32) := if (F_X6_in kd.toInt64 0 5) = true then (if (F_X6_in lg.toInt64 1 5) = true then (if tN (w 0) = 6 then let2 (F_X6_full su) (fun r_43 su_43 => (r_43, w, su_43)) else let1 (F_X6_addsBatter w 0 (nI (tN kd)) (nI (tN lg))) (fun w_51 => ((w_51 0) - (nI 1), (upd w_51 75 (nI 0)), su))) else let2 (F_X6_bad su ((-2))) (fun r_27 su_27 => (r_27, w, su_27))) else let2 (F_X6_bad su ((-2))) (fun r_27 su_27 => (r_27, w, su_27))
set_option maxHeartbeats 4000000 in
set_option maxRecDepth 100000 in
theorem c_X6_batter (l : Launch) (dC : Nat → ClassId) (dI : Nat → Nat → Nat) (q : Nat → Nat) (cI cZ : ClassId) (sz : Nat) (w : Nat → Int32) (kp : Nat → Int32) (tx : Nat → Int32) (td : Int32) (ab : Int64) (be : Int64) (su : Nat → Int32) (po : Int32) (st : Int32) (nu : Int32) (li : Nat → Int32) (fi : Nat → Int32) (ga : Nat → Int32) (hh : Int64) (kd : Int32) (lg : Int32) (pB : inB (w 0) 6) : Met l yX6_batter wsX6_batter { frames := 2, cells := 0, slots := 0, locals := 45 } (mPc (dC, dI) vwCl (mT cI cZ) (mW q cI cZ w kp tx td ab be su po st nu li fi ga hh) sz [.ref (q 0), .int kd, .int lg]) (va_Qi (fun (r : Int32) (u : (Nat → Int32) × (Nat → Int32)) => F_X6_batter w su kd lg = (r, u)) (mB (dC, dI) vwCl (mT cI cZ) (va_A (mW q cI cZ w kp tx td ab be su po st nu li fi ga hh) sz) (fun u => mW q cI cZ u.1 kp tx td ab be u.2 po st nu li fi ga hh)) (va_A (mW q cI cZ w kp tx td ab be su po st nu li fi ga hh) sz)) 0 0 (va_A (mW q cI cZ w kp tx td ab be su po st nu li fi ga hh) sz) := by
  refine Met.ofW (cc := cX6_batter) (maxL := 3) (ret := (some .int)) (by decide) rfl ?_
  intro p e s m args below meth c s₁ B hml hv
  obtain ⟨rfl, hsz, hP, hK, hD0⟩ := hv
  have hx := B.exec
  have hb := B.bytes
  have hr := B.returns
  have hts := atoms_spec (ws := wsX6_batter) B.pre
  have hown : s.vm.findClass RX6 = some m.cls := findClass_of_methodNamed B.named
  have hlocks := B.notSynchronized
  subst hsz
  have hD := hD0.self (sz := s.heap.size)
  generalize hAe : va_A (mW q cI cZ w kp tx td ab be su po st nu li fi ga hh) s.heap.size = A at hD ⊢
  have hA : ∀ q : Nat, s.heap.size ≤ q → A q := fun q h => by rw [← hAe]; exact Or.inr h
  have hS : va_S A s.heap s.heap [] := va_S.rf
  have hin : ∀ w ∈ wsX60, w ∈ wsX6_batter := by decide +kernel
  have lk7 := hts (.fieldLink RX6 7 "PostRoundersModel" "w" "[I") (by decide +kernel)
  have hl := lv_entry ([.ref (q 0), .int kd, .int lg]) (n := 3) (Nat.le_of_ble_eq_true rfl)
  rw [lg_entry_eq]
  generalize (lg_sl ([.ref (q 0), .int kd, .int lg]) ++ List.replicate (3 - (lg_sl ([.ref (q 0), .int kd, .int lg])).length) Slot.unset).toArray = ls at hl ⊢
  have hl : lv_has ls 3 [(0, .ref (q 0)), (1, .int kd), (2, .int lg)] := hl
  obtain ⟨OUT, hO⟩ : ∃ z, z = F_X6_batter w su kd lg := ⟨_, rfl⟩
  have hF := hO
  unfold F_X6_batter at hF
  have e_pB := tN_eq pB.1
  have b_pB := pB.2
  refine lv_iload_n hx hb dX6_batter_0 rfl (lv_at hl 1 rfl) ?_
  refine lv_i2l hx hb dX6_batter_1 rfl ?_
  refine lv_lconst (v := 0) hx hb dX6_batter_2 (by decide) ?_
  refine lv_ldc2 (v := 5) hx hb hown (hts (.constantLong RX6 87 5) (by decide +kernel)) dX6_batter_3 ?_
  refine qc_Si (As := [.long kd.toInt64, .long 0, .long 5]) (rest := []) ⟨hx, hb, hml, hown, hts⟩ (c_X6_in l kd.toInt64 0 5) (va_cwS 3 hts gX6_batter_X6_in rfl rfl rfl (by decide +kernel) ⟨Nat.le_of_ble_eq_true rfl, Nat.le_of_ble_eq_true rfl⟩) rfl hl.1 rfl (Nat.le_of_ble_eq_true rfl) dX6_batter_6 ⟨Nat.zero_le _, Nat.zero_le _⟩ (fun r_6 hw_6 => ?_)
  subst hw_6
  refine qv_zif_eq (tgt := 24) hx hb dX6_batter_9 (by decide) (fun c_9 => ?_) (fun c_9 => ?_)
  · rw [if_neg c_9] at hF
    refine lv_aload_n hx hb dX6_batter_24 rfl (lv_at hl 0 rfl) ?_
    refine lv_bipush (v := (-2)) hx hb dX6_batter_25 (by decide) ?_
    refine qc_Vi (C := RX6) (As := [.int ((-2))]) (rest := []) (ci := 6) (k0 := 0) ⟨hx, hb, hml, hown, hts⟩ (c_X6_bad l dC dI q cI cZ s.heap.size w kp tx td ab be su po st nu li fi ga hh ((-2)) ) (cwV 1 hts gX6_batter_X6_bad rfl rfl rfl (by decide +kernel) ⟨Nat.le_of_ble_eq_true rfl, Nat.le_of_ble_eq_true rfl⟩) hK hP hD hS hA rfl rfl rfl rfl hl.1 rfl (Nat.le_of_ble_eq_true rfl) dX6_batter_27 ⟨Nat.zero_le _, Nat.zero_le _⟩ (fun r_27 u_27 H locs hw_27 hP hD hS => ?_)
    obtain ⟨su_27, rfl⟩ : ∃ z, z = u_27 := ⟨_, rfl⟩
    have hP : va_P (dC, dI) vwCl (mW q cI cZ w kp tx td ab be su_27 po st nu li fi ga hh) H := hP
    have hD : va_D A (mW q cI cZ w kp tx td ab be su_27 po st nu li fi ga hh) := hD
    rw [hw_27, let2_mk r_27 su_27] at hF
    have hP9 : va_P (dC, dI) vwCl (mW q cI cZ w kp tx td ab be su_27 po st nu li fi ga hh) H := hP
    exact W.iret (v := r_27) hx hb hr (fun t ht hW => ⟨⟨_, ((w, su_27)), rfl, hO.symm.trans hF, by rw [ht]; exact hP9, va_K.moved hW.alike hK, hD⟩, hS.F ht⟩) hS.2.2 dX6_batter_30
  · rw [if_pos c_9] at hF
    obtain ⟨f_kd, fa_kd, fb_kd⟩ := in_nat (lo := 0) (hi := 5) rfl rfl (by decide) (by decide) c_9
    have e_kd := tN_eq f_kd
    refine lv_iload_n hx hb dX6_batter_12 rfl (lv_at hl 2 rfl) ?_
    refine lv_i2l hx hb dX6_batter_13 rfl ?_
    refine lv_lconst (v := 1) hx hb dX6_batter_14 (by decide) ?_
    refine lv_ldc2 (v := 5) hx hb hown (hts (.constantLong RX6 87 5) (by decide +kernel)) dX6_batter_15 ?_
    refine qc_Si (As := [.long lg.toInt64, .long 1, .long 5]) (rest := []) ⟨hx, hb, hml, hown, hts⟩ (c_X6_in l lg.toInt64 1 5) (va_cwS 3 hts gX6_batter_X6_in rfl rfl rfl (by decide +kernel) ⟨Nat.le_of_ble_eq_true rfl, Nat.le_of_ble_eq_true rfl⟩) rfl hl.1 rfl (Nat.le_of_ble_eq_true rfl) dX6_batter_18 ⟨Nat.zero_le _, Nat.zero_le _⟩ (fun r_18 hw_18 => ?_)
    subst hw_18
    refine qv_zif_ne (tgt := 31) hx hb dX6_batter_21 (by decide) (fun c_21 => ?_) (fun c_21 => ?_)
    · rw [if_pos c_21] at hF
      obtain ⟨f_lg, fa_lg, fb_lg⟩ := in_nat (lo := 1) (hi := 5) rfl rfl (by decide) (by decide) c_21
      have e_lg := tN_eq f_lg
      refine lv_aload_n hx hb dX6_batter_31 rfl (lv_at hl 0 rfl) ?_
      refine va_get (D := (dC, dI)) (ci := 6) (v := .ref (q 1)) (C := RX6) (T := TX6) (N := 14) hx hb hts hin hown hK hP 0 rfl rfl 0 (by decide) lk7 (fun _ h9 => h9) rfl dX6_batter_32 ?_
      refine lv_iconst (v := nI 0) hx hb dX6_batter_35 (by decide) ?_
      refine qv_ald (v := w 0) hx hb hK hP 1 0 rfl rfl (by omega) (by decide) (rfl) dX6_batter_36 ?_
      refine qv_top (e_pB) ?_
      refine lv_bipush (v := nI 6) hx hb dX6_batter_37 (by decide) ?_
      refine qv_icmp_ne (tgt := 47) hx hb dX6_batter_39 (by decide) (by omega) (by omega) (fun c_39 => ?_) (fun c_39 => ?_)
      · rw [if_neg c_39] at hF
        refine lv_aload_n hx hb dX6_batter_47 rfl (lv_at hl 0 rfl) ?_
        refine lv_iconst (v := nI 0) hx hb dX6_batter_48 (by decide) ?_
        refine lv_iload_n hx hb dX6_batter_49 rfl (lv_at hl 1 rfl) ?_
        refine qv_top (e_kd) ?_
        refine lv_iload_n hx hb dX6_batter_50 rfl (lv_at hl 2 rfl) ?_
        refine qv_top (e_lg) ?_
        refine qc_Vv (C := RX6) (As := [.int (nI 0), .int (nI (tN kd)), .int (nI (tN lg))]) (rest := []) (ci := 6) (k0 := 0) ⟨hx, hb, hml, hown, hts⟩ (c_X6_addsBatter l dC dI q cI cZ s.heap.size w kp tx td ab be su po st nu li fi ga hh 0 (nI (tN kd)) (nI (tN lg)) (by omega) (by rw [show w 0 = nI (tN (w 0)) from e_pB]; exact (inB_nI (by omega) (by decide) : inB (nI (tN (w 0))) 5))) (cwV 3 hts gX6_batter_X6_addsBatter rfl rfl rfl (by decide +kernel) ⟨Nat.le_of_ble_eq_true rfl, Nat.le_of_ble_eq_true rfl⟩) hK hP hD hS hA rfl rfl rfl rfl hl.1 rfl (Nat.le_of_ble_eq_true rfl) dX6_batter_51 ⟨Nat.zero_le _, Nat.zero_le _⟩ (fun u_51 H locs hw_51 hP hD hS => ?_)
        obtain ⟨w_51, rfl⟩ : ∃ z, z = u_51 := ⟨_, rfl⟩
        have hP : va_P (dC, dI) vwCl (mW q cI cZ w_51 kp tx td ab be su po st nu li fi ga hh) H := hP
        have hD : va_D A (mW q cI cZ w_51 kp tx td ab be su po st nu li fi ga hh) := hD
        rw [hw_51, let1_mk w_51] at hF
        refine lv_aload_n hx hb dX6_batter_54 rfl (lv_at hl 0 rfl) ?_
        refine va_get (D := (dC, dI)) (ci := 6) (v := .ref (q 1)) (C := RX6) (T := TX6) (N := 14) hx hb hts hin hown hK hP 0 rfl rfl 0 (by decide) lk7 (fun _ h9 => h9) rfl dX6_batter_55 ?_
        refine lv_bipush (v := nI 75) hx hb dX6_batter_58 (by decide) ?_
        refine lv_iconst (v := nI 0) hx hb dX6_batter_60 (by decide) ?_
        refine qv_ast (ws' := mW q cI cZ (upd w_51 75 (nI 0)) kp tx td ab be su po st nu li fi ga hh) hx hb hK hP hD hS 1 0 rfl rfl (by omega) (by decide) dX6_batter_61 rfl (fun H locs hP hD hS => ?_)
        refine lv_aload_n hx hb dX6_batter_62 rfl (lv_at hl 0 rfl) ?_
        refine va_get (D := (dC, dI)) (ci := 6) (v := .ref (q 1)) (C := RX6) (T := TX6) (N := 14) hx hb hts hin hown hK hP 0 rfl rfl 0 (by decide) lk7 (fun _ h9 => h9) rfl dX6_batter_63 ?_
        refine lv_iconst (v := nI 0) hx hb dX6_batter_66 (by decide) ?_
        refine qv_ald (v := w_51 0) hx hb hK hP 1 0 rfl rfl (by omega) (by decide) (pk_un (by omega)) dX6_batter_67 ?_
        refine lv_iconst (v := nI 1) hx hb dX6_batter_68 (by decide) ?_
        refine lv_isub hx hb dX6_batter_69 ?_
        have hP9 : va_P (dC, dI) vwCl (mW q cI cZ (upd w_51 75 (nI 0)) kp tx td ab be su po st nu li fi ga hh) H := hP
        exact W.iret (v := (w_51 0) - (nI 1)) hx hb hr (fun t ht hW => ⟨⟨_, ((upd w_51 75 (nI 0), su)), rfl, hO.symm.trans hF, by rw [ht]; exact hP9, va_K.moved hW.alike hK, hD⟩, hS.F ht⟩) hS.2.2 dX6_batter_70
      · rw [if_pos c_39] at hF
        refine lv_aload_n hx hb dX6_batter_42 rfl (lv_at hl 0 rfl) ?_
        refine qc_Vi (C := RX6) (As := []) (rest := []) (ci := 6) (k0 := 0) ⟨hx, hb, hml, hown, hts⟩ (c_X6_full l dC dI q cI cZ s.heap.size w kp tx td ab be su po st nu li fi ga hh  ) (cwV 0 hts gX6_batter_X6_full rfl rfl rfl (by decide +kernel) ⟨Nat.le_of_ble_eq_true rfl, Nat.le_of_ble_eq_true rfl⟩) hK hP hD hS hA rfl rfl rfl rfl hl.1 rfl (Nat.le_of_ble_eq_true rfl) dX6_batter_43 ⟨Nat.zero_le _, Nat.zero_le _⟩ (fun r_43 u_43 H locs hw_43 hP hD hS => ?_)
        obtain ⟨su_43, rfl⟩ : ∃ z, z = u_43 := ⟨_, rfl⟩
        have hP : va_P (dC, dI) vwCl (mW q cI cZ w kp tx td ab be su_43 po st nu li fi ga hh) H := hP
        have hD : va_D A (mW q cI cZ w kp tx td ab be su_43 po st nu li fi ga hh) := hD
        rw [hw_43, let2_mk r_43 su_43] at hF
        have hP9 : va_P (dC, dI) vwCl (mW q cI cZ w kp tx td ab be su_43 po st nu li fi ga hh) H := hP
        exact W.iret (v := r_43) hx hb hr (fun t ht hW => ⟨⟨_, ((w, su_43)), rfl, hO.symm.trans hF, by rw [ht]; exact hP9, va_K.moved hW.alike hK, hD⟩, hS.F ht⟩) hS.2.2 dX6_batter_46
    · rw [if_neg c_21] at hF
      refine lv_aload_n hx hb dX6_batter_24 rfl (lv_at hl 0 rfl) ?_
      refine lv_bipush (v := (-2)) hx hb dX6_batter_25 (by decide) ?_
      refine qc_Vi (C := RX6) (As := [.int ((-2))]) (rest := []) (ci := 6) (k0 := 0) ⟨hx, hb, hml, hown, hts⟩ (c_X6_bad l dC dI q cI cZ s.heap.size w kp tx td ab be su po st nu li fi ga hh ((-2)) ) (cwV 1 hts gX6_batter_X6_bad rfl rfl rfl (by decide +kernel) ⟨Nat.le_of_ble_eq_true rfl, Nat.le_of_ble_eq_true rfl⟩) hK hP hD hS hA rfl rfl rfl rfl hl.1 rfl (Nat.le_of_ble_eq_true rfl) dX6_batter_27 ⟨Nat.zero_le _, Nat.zero_le _⟩ (fun r_27 u_27 H locs hw_27 hP hD hS => ?_)
      obtain ⟨su_27, rfl⟩ : ∃ z, z = u_27 := ⟨_, rfl⟩
      have hP : va_P (dC, dI) vwCl (mW q cI cZ w kp tx td ab be su_27 po st nu li fi ga hh) H := hP
      have hD : va_D A (mW q cI cZ w kp tx td ab be su_27 po st nu li fi ga hh) := hD
      rw [hw_27, let2_mk r_27 su_27] at hF
      have hP9 : va_P (dC, dI) vwCl (mW q cI cZ w kp tx td ab be su_27 po st nu li fi ga hh) H := hP
      exact W.iret (v := r_27) hx hb hr (fun t ht hW => ⟨⟨_, ((w, su_27)), rfl, hO.symm.trans hF, by rw [ht]; exact hP9, va_K.moved hW.alike hK, hD⟩, hS.F ht⟩) hS.2.2 dX6_batter_30
def F_X6_type (tx : Nat → Int32) (td : Int32) (su : Nat → Int32) (c0 : Int32) : Int32 × (Nat → Int32) × (Int32) × (Nat → Int32) := if (F_X6_in c0.toInt64 0 127) = true then (if tN td = 150 then let2 (F_X6_full su) (fun r_30 su_30 => (r_30, tx, td, su_30)) else (nI (tN td + 1), (upd tx (tN td) (nI (tN c0))), (nI (tN td + 1)), su)) else let2 (F_X6_bad su ((-2))) (fun r_15 su_15 => (r_15, tx, td, su_15))
set_option maxHeartbeats 4000000 in
set_option maxRecDepth 100000 in
theorem c_X6_type (l : Launch) (dC : Nat → ClassId) (dI : Nat → Nat → Nat) (q : Nat → Nat) (cI cZ : ClassId) (sz : Nat) (w : Nat → Int32) (kp : Nat → Int32) (tx : Nat → Int32) (td : Int32) (ab : Int64) (be : Int64) (su : Nat → Int32) (po : Int32) (st : Int32) (nu : Int32) (li : Nat → Int32) (fi : Nat → Int32) (ga : Nat → Int32) (hh : Int64) (c0 : Int32) (pTd : inB td 150) : Met l yX6_type wsX6_type { frames := 1, cells := 0, slots := 0, locals := 25 } (mPc (dC, dI) vwCl (mT cI cZ) (mW q cI cZ w kp tx td ab be su po st nu li fi ga hh) sz [.ref (q 0), .int c0]) (va_Qi (fun (r : Int32) (u : (Nat → Int32) × (Int32) × (Nat → Int32)) => F_X6_type tx td su c0 = (r, u)) (mB (dC, dI) vwCl (mT cI cZ) (va_A (mW q cI cZ w kp tx td ab be su po st nu li fi ga hh) sz) (fun u => mW q cI cZ w kp u.1 u.2.1 ab be u.2.2 po st nu li fi ga hh)) (va_A (mW q cI cZ w kp tx td ab be su po st nu li fi ga hh) sz)) 0 0 (va_A (mW q cI cZ w kp tx td ab be su po st nu li fi ga hh) sz) := by
  refine Met.ofW (cc := cX6_type) (maxL := 2) (ret := (some .int)) (by decide) rfl ?_
  intro p e s m args below meth c s₁ B hml hv
  obtain ⟨rfl, hsz, hP, hK, hD0⟩ := hv
  have hx := B.exec
  have hb := B.bytes
  have hr := B.returns
  have hts := atoms_spec (ws := wsX6_type) B.pre
  have hown : s.vm.findClass RX6 = some m.cls := findClass_of_methodNamed B.named
  have hlocks := B.notSynchronized
  subst hsz
  have hD := hD0.self (sz := s.heap.size)
  generalize hAe : va_A (mW q cI cZ w kp tx td ab be su po st nu li fi ga hh) s.heap.size = A at hD ⊢
  have hA : ∀ q : Nat, s.heap.size ≤ q → A q := fun q h => by rw [← hAe]; exact Or.inr h
  have hS : va_S A s.heap s.heap [] := va_S.rf
  have hin : ∀ w ∈ wsX60, w ∈ wsX6_type := by decide +kernel
  have lk17 := hts (.fieldLink RX6 17 "PostRoundersModel" "text" "[I") (by decide +kernel)
  have lk102 := hts (.fieldLink RX6 102 "PostRoundersModel" "texted" "I") (by decide +kernel)
  have hl := lv_entry ([.ref (q 0), .int c0]) (n := 2) (Nat.le_of_ble_eq_true rfl)
  rw [lg_entry_eq]
  generalize (lg_sl ([.ref (q 0), .int c0]) ++ List.replicate (2 - (lg_sl ([.ref (q 0), .int c0])).length) Slot.unset).toArray = ls at hl ⊢
  have hl : lv_has ls 2 [(0, .ref (q 0)), (1, .int c0)] := hl
  obtain ⟨OUT, hO⟩ : ∃ z, z = F_X6_type tx td su c0 := ⟨_, rfl⟩
  have hF := hO
  unfold F_X6_type at hF
  have e_pTd := tN_eq pTd.1
  have b_pTd := pTd.2
  refine lv_iload_n hx hb dX6_type_0 rfl (lv_at hl 1 rfl) ?_
  refine lv_i2l hx hb dX6_type_1 rfl ?_
  refine lv_lconst (v := 0) hx hb dX6_type_2 (by decide) ?_
  refine lv_ldc2 (v := 127) hx hb hown (hts (.constantLong RX6 100 127) (by decide +kernel)) dX6_type_3 ?_
  refine qc_Si (As := [.long c0.toInt64, .long 0, .long 127]) (rest := []) ⟨hx, hb, hml, hown, hts⟩ (c_X6_in l c0.toInt64 0 127) (va_cwS 3 hts gX6_type_X6_in rfl rfl rfl (by decide +kernel) ⟨Nat.le_of_ble_eq_true rfl, Nat.le_of_ble_eq_true rfl⟩) rfl hl.1 rfl (Nat.le_of_ble_eq_true rfl) dX6_type_6 ⟨Nat.zero_le _, Nat.zero_le _⟩ (fun r_6 hw_6 => ?_)
  subst hw_6
  refine qv_zif_ne (tgt := 19) hx hb dX6_type_9 (by decide) (fun c_9 => ?_) (fun c_9 => ?_)
  · rw [if_pos c_9] at hF
    obtain ⟨f_c0, fa_c0, fb_c0⟩ := in_nat (lo := 0) (hi := 127) rfl rfl (by decide) (by decide) c_9
    have e_c0 := tN_eq f_c0
    refine lv_aload_n hx hb dX6_type_19 rfl (lv_at hl 0 rfl) ?_
    refine va_get (D := (dC, dI)) (ci := 6) (v := .int td) (C := RX6) (T := TX6) (N := 14) hx hb hts hin hown hK hP 0 rfl rfl 3 (by decide) lk102 (fun _ h9 => h9) rfl dX6_type_20 ?_
    refine qv_top (e_pTd) ?_
    refine lv_sipush (v := nI 150) hx hb dX6_type_23 (by decide) ?_
    refine qv_icmp_ne (tgt := 34) hx hb dX6_type_26 (by decide) (by omega) (by omega) (fun c_26 => ?_) (fun c_26 => ?_)
    · rw [if_neg c_26] at hF
      refine lv_aload_n hx hb dX6_type_34 rfl (lv_at hl 0 rfl) ?_
      refine va_get (D := (dC, dI)) (ci := 6) (v := .ref (q 3)) (C := RX6) (T := TX6) (N := 14) hx hb hts hin hown hK hP 0 rfl rfl 2 (by decide) lk17 (fun _ h9 => h9) rfl dX6_type_35 ?_
      refine lv_aload_n hx hb dX6_type_38 rfl (lv_at hl 0 rfl) ?_
      refine va_get (D := (dC, dI)) (ci := 6) (v := .int td) (C := RX6) (T := TX6) (N := 14) hx hb hts hin hown hK hP 0 rfl rfl 3 (by decide) lk102 (fun _ h9 => h9) rfl dX6_type_39 ?_
      refine qv_top (e_pTd) ?_
      refine lv_iload_n hx hb dX6_type_42 rfl (lv_at hl 1 rfl) ?_
      refine qv_top (e_c0) ?_
      refine qv_ast (ws' := mW q cI cZ w kp (upd tx (tN td) (nI (tN c0))) td ab be su po st nu li fi ga hh) hx hb hK hP hD hS 3 0 rfl rfl (by omega) (by decide) dX6_type_43 rfl (fun H locs hP hD hS => ?_)
      refine lv_aload_n hx hb dX6_type_44 rfl (lv_at hl 0 rfl) ?_
      refine lv_dup hx hb dX6_type_45 rfl ?_
      refine va_get (D := (dC, dI)) (ci := 6) (v := .int td) (C := RX6) (T := TX6) (N := 14) hx hb hts hin hown hK hP 0 rfl rfl 3 (by decide) lk102 (fun _ h9 => h9) rfl dX6_type_46 ?_
      refine qv_top (e_pTd) ?_
      refine lv_iconst (v := nI 1) hx hb dX6_type_49 (by decide) ?_
      refine qv_iadd hx hb (tN td + 1) dX6_type_50 (by omega) ?_
      refine va_put (D := (dC, dI)) (ci := 6) (v := .int (nI (tN td + 1))) (ty := .int) (C := RX6) (T := TX6) (N := 14) hx hb hts hin tyX6 tyX6_ok nmX6 hown hK hP hD hS 0 rfl rfl 3 (by decide) lk102 (fun _ h9 => h9) rfl (by decide +kernel) rfl rfl (Nat.le_of_ble_eq_true rfl) dX6_type_51 (fun H locs hP hD hS => ?_)
      have hP : va_P (dC, dI) vwCl (mW q cI cZ w kp (upd tx (tN td) (nI (tN c0))) (nI (tN td + 1)) ab be su po st nu li fi ga hh) H := hP
      have hD : va_D A (mW q cI cZ w kp (upd tx (tN td) (nI (tN c0))) (nI (tN td + 1)) ab be su po st nu li fi ga hh) := hD
      refine lv_aload_n hx hb dX6_type_54 rfl (lv_at hl 0 rfl) ?_
      refine va_get (D := (dC, dI)) (ci := 6) (v := .int (nI (tN td + 1))) (C := RX6) (T := TX6) (N := 14) hx hb hts hin hown hK hP 0 rfl rfl 3 (by decide) lk102 (fun _ h9 => h9) rfl dX6_type_55 ?_
      have hP9 : va_P (dC, dI) vwCl (mW q cI cZ w kp (upd tx (tN td) (nI (tN c0))) (nI (tN td + 1)) ab be su po st nu li fi ga hh) H := hP
      exact W.iret (v := nI (tN td + 1)) hx hb hr (fun t ht hW => ⟨⟨_, ((upd tx (tN td) (nI (tN c0)), nI (tN td + 1), su)), rfl, hO.symm.trans hF, by rw [ht]; exact hP9, va_K.moved hW.alike hK, hD⟩, hS.F ht⟩) hS.2.2 dX6_type_58
    · rw [if_pos c_26] at hF
      refine lv_aload_n hx hb dX6_type_29 rfl (lv_at hl 0 rfl) ?_
      refine qc_Vi (C := RX6) (As := []) (rest := []) (ci := 6) (k0 := 0) ⟨hx, hb, hml, hown, hts⟩ (c_X6_full l dC dI q cI cZ s.heap.size w kp tx td ab be su po st nu li fi ga hh  ) (cwV 0 hts gX6_type_X6_full rfl rfl rfl (by decide +kernel) ⟨Nat.le_of_ble_eq_true rfl, Nat.le_of_ble_eq_true rfl⟩) hK hP hD hS hA rfl rfl rfl rfl hl.1 rfl (Nat.le_of_ble_eq_true rfl) dX6_type_30 ⟨Nat.zero_le _, Nat.zero_le _⟩ (fun r_30 u_30 H locs hw_30 hP hD hS => ?_)
      obtain ⟨su_30, rfl⟩ : ∃ z, z = u_30 := ⟨_, rfl⟩
      have hP : va_P (dC, dI) vwCl (mW q cI cZ w kp tx td ab be su_30 po st nu li fi ga hh) H := hP
      have hD : va_D A (mW q cI cZ w kp tx td ab be su_30 po st nu li fi ga hh) := hD
      rw [hw_30, let2_mk r_30 su_30] at hF
      have hP9 : va_P (dC, dI) vwCl (mW q cI cZ w kp tx td ab be su_30 po st nu li fi ga hh) H := hP
      exact W.iret (v := r_30) hx hb hr (fun t ht hW => ⟨⟨_, ((tx, td, su_30)), rfl, hO.symm.trans hF, by rw [ht]; exact hP9, va_K.moved hW.alike hK, hD⟩, hS.F ht⟩) hS.2.2 dX6_type_33
  · rw [if_neg c_9] at hF
    refine lv_aload_n hx hb dX6_type_12 rfl (lv_at hl 0 rfl) ?_
    refine lv_bipush (v := (-2)) hx hb dX6_type_13 (by decide) ?_
    refine qc_Vi (C := RX6) (As := [.int ((-2))]) (rest := []) (ci := 6) (k0 := 0) ⟨hx, hb, hml, hown, hts⟩ (c_X6_bad l dC dI q cI cZ s.heap.size w kp tx td ab be su po st nu li fi ga hh ((-2)) ) (cwV 1 hts gX6_type_X6_bad rfl rfl rfl (by decide +kernel) ⟨Nat.le_of_ble_eq_true rfl, Nat.le_of_ble_eq_true rfl⟩) hK hP hD hS hA rfl rfl rfl rfl hl.1 rfl (Nat.le_of_ble_eq_true rfl) dX6_type_15 ⟨Nat.zero_le _, Nat.zero_le _⟩ (fun r_15 u_15 H locs hw_15 hP hD hS => ?_)
    obtain ⟨su_15, rfl⟩ : ∃ z, z = u_15 := ⟨_, rfl⟩
    have hP : va_P (dC, dI) vwCl (mW q cI cZ w kp tx td ab be su_15 po st nu li fi ga hh) H := hP
    have hD : va_D A (mW q cI cZ w kp tx td ab be su_15 po st nu li fi ga hh) := hD
    rw [hw_15, let2_mk r_15 su_15] at hF
    have hP9 : va_P (dC, dI) vwCl (mW q cI cZ w kp tx td ab be su_15 po st nu li fi ga hh) H := hP
    exact W.iret (v := r_15) hx hb hr (fun t ht hW => ⟨⟨_, ((tx, td, su_15)), rfl, hO.symm.trans hF, by rw [ht]; exact hP9, va_K.moved hW.alike hK, hD⟩, hS.F ht⟩) hS.2.2 dX6_type_18
def F_X6_clear (td : Int32) : Int32 × (Int32) := (td, (nI 0))
set_option maxHeartbeats 4000000 in
set_option maxRecDepth 100000 in
theorem c_X6_clear (l : Launch) (dC : Nat → ClassId) (dI : Nat → Nat → Nat) (q : Nat → Nat) (cI cZ : ClassId) (sz : Nat) (w : Nat → Int32) (kp : Nat → Int32) (tx : Nat → Int32) (td : Int32) (ab : Int64) (be : Int64) (su : Nat → Int32) (po : Int32) (st : Int32) (nu : Int32) (li : Nat → Int32) (fi : Nat → Int32) (ga : Nat → Int32) (hh : Int64) : Met l yX6_clear wsX6_clear { frames := 0, cells := 0, slots := 0, locals := 0 } (mPc (dC, dI) vwCl (mT cI cZ) (mW q cI cZ w kp tx td ab be su po st nu li fi ga hh) sz [.ref (q 0)]) (va_Qi (fun (r : Int32) (u : (Int32)) => F_X6_clear td = (r, u)) (mB (dC, dI) vwCl (mT cI cZ) (va_A (mW q cI cZ w kp tx td ab be su po st nu li fi ga hh) sz) (fun u => mW q cI cZ w kp tx u ab be su po st nu li fi ga hh)) (va_A (mW q cI cZ w kp tx td ab be su po st nu li fi ga hh) sz)) 0 0 (va_A (mW q cI cZ w kp tx td ab be su po st nu li fi ga hh) sz) := by
  refine Met.ofW (cc := cX6_clear) (maxL := 2) (ret := (some .int)) (by decide) rfl ?_
  intro p e s m args below meth c s₁ B hml hv
  obtain ⟨rfl, hsz, hP, hK, hD0⟩ := hv
  have hx := B.exec
  have hb := B.bytes
  have hr := B.returns
  have hts := atoms_spec (ws := wsX6_clear) B.pre
  have hown : s.vm.findClass RX6 = some m.cls := findClass_of_methodNamed B.named
  have hlocks := B.notSynchronized
  subst hsz
  have hD := hD0.self (sz := s.heap.size)
  generalize hAe : va_A (mW q cI cZ w kp tx td ab be su po st nu li fi ga hh) s.heap.size = A at hD ⊢
  have hA : ∀ q : Nat, s.heap.size ≤ q → A q := fun q h => by rw [← hAe]; exact Or.inr h
  have hS : va_S A s.heap s.heap [] := va_S.rf
  have hin : ∀ w ∈ wsX60, w ∈ wsX6_clear := by decide +kernel
  have lk102 := hts (.fieldLink RX6 102 "PostRoundersModel" "texted" "I") (by decide +kernel)
  have hl := lv_entry ([.ref (q 0)]) (n := 2) (Nat.le_of_ble_eq_true rfl)
  rw [lg_entry_eq]
  generalize (lg_sl ([.ref (q 0)]) ++ List.replicate (2 - (lg_sl ([.ref (q 0)])).length) Slot.unset).toArray = ls at hl ⊢
  have hl : lv_has ls 2 [(0, .ref (q 0))] := hl
  obtain ⟨OUT, hO⟩ : ∃ z, z = F_X6_clear td := ⟨_, rfl⟩
  have hF := hO
  unfold F_X6_clear at hF
  refine lv_aload_n hx hb dX6_clear_0 rfl (lv_at hl 0 rfl) ?_
  refine va_get (D := (dC, dI)) (ci := 6) (v := .int td) (C := RX6) (T := TX6) (N := 14) hx hb hts hin hown hK hP 0 rfl rfl 3 (by decide) lk102 (fun _ h9 => h9) rfl dX6_clear_1 ?_
  refine lv_istore_n (lv' := [(1, .int td), (0, .ref (q 0))]) hx hb dX6_clear_4 rfl hl (by decide) rfl (fun ls hl => ?_)
  refine lv_aload_n hx hb dX6_clear_5 rfl (lv_at hl 1 rfl) ?_
  refine lv_iconst (v := nI 0) hx hb dX6_clear_6 (by decide) ?_
  refine va_put (D := (dC, dI)) (ci := 6) (v := .int (nI 0)) (ty := .int) (C := RX6) (T := TX6) (N := 14) hx hb hts hin tyX6 tyX6_ok nmX6 hown hK hP hD hS 0 rfl rfl 3 (by decide) lk102 (fun _ h9 => h9) rfl (by decide +kernel) rfl rfl (Nat.le_of_ble_eq_true rfl) dX6_clear_7 (fun H locs hP hD hS => ?_)
  have hP : va_P (dC, dI) vwCl (mW q cI cZ w kp tx (nI 0) ab be su po st nu li fi ga hh) H := hP
  have hD : va_D A (mW q cI cZ w kp tx (nI 0) ab be su po st nu li fi ga hh) := hD
  refine lv_iload_n hx hb dX6_clear_10 rfl (lv_at hl 0 rfl) ?_
  have hP9 : va_P (dC, dI) vwCl (mW q cI cZ w kp tx (nI 0) ab be su po st nu li fi ga hh) H := hP
  exact W.iret (v := td) hx hb hr (fun t ht hW => ⟨⟨_, (nI 0), rfl, hO.symm.trans hF, by rw [ht]; exact hP9, va_K.moved hW.alike hK, hD⟩, hS.F ht⟩) hS.2.2 dX6_clear_11
def F_X6_minds_L114 : Nat → (Nat → Int32) → (Nat) → (Nat → Int32) → (Nat) × (Nat → Int32)
  | 0, _, i, w2 => (i, w2)
  | n_114 + 1, w, i, w2 => if 6 ≤ i then (i, w2) else F_X6_minds_L114 n_114 w (i + 1) (upd w2 (9 * tN (w 75) + i + 79) (w2 (i + 17)))
def F_X6_minds_L114b : Nat → (Nat → Int32) → (Nat) → (Nat → Int32) → (Nat) × (Nat → Int32)
  | 0, _, i, w2 => (i, w2)
  | n_114 + 1, w, i, w2 => if 6 ≤ i then (i, w2) else F_X6_minds_L114b n_114 w (i + 1) (upd w2 (9 * (tN (w 75) - 1) + i + 79) (w2 (i + 17)))
def F_X6_minds_L14 : Nat →  (Nat) → (Nat → Int32) → (Nat) × (Nat → Int32)
  | 0, k, w1 => (k, w1)
  | n_14 + 1, k, w1 => if 63 ≤ k then (k, w1) else F_X6_minds_L14 n_14  (k + 1) (upd w1 (k + 76) (w1 (k + 85)))
def F_X6_minds (w : Nat → Int32) : (Nat → Int32) := if tN (w 75) = 8 then let2 (F_X6_minds_L14 64  0 w) (fun k w1 => let2 (F_X6_minds_L114b 7 w 0 (upd (upd (upd (upd w1 75 (nI ((tN (w 75) - 1)))) (9 * (tN (w 75) - 1) + 76) (w1 2)) (9 * (tN (w 75) - 1) + 77) (w1 3)) (9 * (tN (w 75) - 1) + 78) (w1 4))) (fun i w2 => (upd w2 75 (nI ((tN (w 75) - 1) + 1))))) else let2 (F_X6_minds_L114 7 w 0 (upd (upd (upd w (9 * tN (w 75) + 76) (w 2)) (9 * tN (w 75) + 77) (w 3)) (9 * tN (w 75) + 78) (w 4))) (fun i w2 => (upd w2 75 (nI (tN (w 75) + 1))))
set_option maxHeartbeats 4000000 in
set_option maxRecDepth 100000 in
theorem c_X6_minds (l : Launch) (dC : Nat → ClassId) (dI : Nat → Nat → Nat) (q : Nat → Nat) (cI cZ : ClassId) (sz : Nat) (w : Nat → Int32) (kp : Nat → Int32) (tx : Nat → Int32) (td : Int32) (ab : Int64) (be : Int64) (su : Nat → Int32) (po : Int32) (st : Int32) (nu : Int32) (li : Nat → Int32) (fi : Nat → Int32) (ga : Nat → Int32) (hh : Int64) (pU : inB (w 75) 8) : Met l yX6_minds wsX6_minds { frames := 0, cells := 0, slots := 0, locals := 0 } (mPc (dC, dI) vwCl (mT cI cZ) (mW q cI cZ w kp tx td ab be su po st nu li fi ga hh) sz [.ref (q 0)]) (va_Qv (fun (u : (Nat → Int32)) => F_X6_minds w = u) (mB (dC, dI) vwCl (mT cI cZ) (va_A (mW q cI cZ w kp tx td ab be su po st nu li fi ga hh) sz) (fun u => mW q cI cZ u kp tx td ab be su po st nu li fi ga hh)) (va_A (mW q cI cZ w kp tx td ab be su po st nu li fi ga hh) sz)) 0 0 (va_A (mW q cI cZ w kp tx td ab be su po st nu li fi ga hh) sz) := by
  refine Met.ofW (cc := cX6_minds) (maxL := 3) (ret := none) (by decide) rfl ?_
  intro p e s m args below meth c s₁ B hml hv
  obtain ⟨rfl, hsz, hP, hK, hD0⟩ := hv
  have hx := B.exec
  have hb := B.bytes
  have hr := B.returns
  have hts := atoms_spec (ws := wsX6_minds) B.pre
  have hown : s.vm.findClass RX6 = some m.cls := findClass_of_methodNamed B.named
  have hlocks := B.notSynchronized
  subst hsz
  have hD := hD0.self (sz := s.heap.size)
  generalize hAe : va_A (mW q cI cZ w kp tx td ab be su po st nu li fi ga hh) s.heap.size = A at hD ⊢
  have hA : ∀ q : Nat, s.heap.size ≤ q → A q := fun q h => by rw [← hAe]; exact Or.inr h
  have hS : va_S A s.heap s.heap [] := va_S.rf
  have hin : ∀ w ∈ wsX60, w ∈ wsX6_minds := by decide +kernel
  have lk7 := hts (.fieldLink RX6 7 "PostRoundersModel" "w" "[I") (by decide +kernel)
  have hl := lv_entry ([.ref (q 0)]) (n := 3) (Nat.le_of_ble_eq_true rfl)
  rw [lg_entry_eq]
  generalize (lg_sl ([.ref (q 0)]) ++ List.replicate (3 - (lg_sl ([.ref (q 0)])).length) Slot.unset).toArray = ls at hl ⊢
  have hl : lv_has ls 3 [(0, .ref (q 0))] := hl
  obtain ⟨OUT, hO⟩ : ∃ z, z = F_X6_minds w := ⟨_, rfl⟩
  have hF := hO
  unfold F_X6_minds at hF
  have e_pU := tN_eq pU.1
  have b_pU := pU.2
  refine lv_aload_n hx hb dX6_minds_0 rfl (lv_at hl 0 rfl) ?_
  refine va_get (D := (dC, dI)) (ci := 6) (v := .ref (q 1)) (C := RX6) (T := TX6) (N := 14) hx hb hts hin hown hK hP 0 rfl rfl 0 (by decide) lk7 (fun _ h9 => h9) rfl dX6_minds_1 ?_
  refine lv_bipush (v := nI 75) hx hb dX6_minds_4 (by decide) ?_
  refine qv_ald (v := w 75) hx hb hK hP 1 0 rfl rfl (by omega) (by decide) (rfl) dX6_minds_6 ?_
  refine qv_top (e_pU) ?_
  refine lv_bipush (v := nI 8) hx hb dX6_minds_7 (by decide) ?_
  refine qv_icmp_ne (tgt := 58) hx hb dX6_minds_9 (by decide) (by omega) (by omega) (fun c_9 => ?_) (fun c_9 => ?_)
  · rw [if_neg c_9] at hF
    refine lv_bipush (v := nI 76) hx hb dX6_minds_58 (by decide) ?_
    refine lv_bipush (v := nI 9) hx hb dX6_minds_60 (by decide) ?_
    refine lv_aload_n hx hb dX6_minds_62 rfl (lv_at hl 0 rfl) ?_
    refine va_get (D := (dC, dI)) (ci := 6) (v := .ref (q 1)) (C := RX6) (T := TX6) (N := 14) hx hb hts hin hown hK hP 0 rfl rfl 0 (by decide) lk7 (fun _ h9 => h9) rfl dX6_minds_63 ?_
    refine lv_bipush (v := nI 75) hx hb dX6_minds_66 (by decide) ?_
    refine qv_ald (v := w 75) hx hb hK hP 1 0 rfl rfl (by omega) (by decide) (rfl) dX6_minds_68 ?_
    refine qv_top (e_pU) ?_
    refine qv_imul hx hb (9 * tN (w 75)) dX6_minds_69 (by omega) ?_
    refine qv_iadd hx hb (9 * tN (w 75) + 76) dX6_minds_70 (by omega) ?_
    refine lv_istore_n (lv' := [(1, .int (nI (9 * tN (w 75) + 76))), (0, .ref (q 0))]) hx hb dX6_minds_71 rfl hl (by decide) rfl (fun ls hl => ?_)
    refine lv_aload_n hx hb dX6_minds_72 rfl (lv_at hl 1 rfl) ?_
    refine va_get (D := (dC, dI)) (ci := 6) (v := .ref (q 1)) (C := RX6) (T := TX6) (N := 14) hx hb hts hin hown hK hP 0 rfl rfl 0 (by decide) lk7 (fun _ h9 => h9) rfl dX6_minds_73 ?_
    refine lv_iload_n hx hb dX6_minds_76 rfl (lv_at hl 0 rfl) ?_
    refine lv_aload_n hx hb dX6_minds_77 rfl (lv_at hl 1 rfl) ?_
    refine va_get (D := (dC, dI)) (ci := 6) (v := .ref (q 1)) (C := RX6) (T := TX6) (N := 14) hx hb hts hin hown hK hP 0 rfl rfl 0 (by decide) lk7 (fun _ h9 => h9) rfl dX6_minds_78 ?_
    refine lv_iconst (v := nI 2) hx hb dX6_minds_81 (by decide) ?_
    refine qv_ald (v := w 2) hx hb hK hP 1 0 rfl rfl (by omega) (by decide) (rfl) dX6_minds_82 ?_
    refine qv_ast (ws' := mW q cI cZ (upd w (9 * tN (w 75) + 76) (w 2)) kp tx td ab be su po st nu li fi ga hh) hx hb hK hP hD hS 1 0 rfl rfl (by omega) (by decide) dX6_minds_83 rfl (fun H locs hP hD hS => ?_)
    refine lv_aload_n hx hb dX6_minds_84 rfl (lv_at hl 1 rfl) ?_
    refine va_get (D := (dC, dI)) (ci := 6) (v := .ref (q 1)) (C := RX6) (T := TX6) (N := 14) hx hb hts hin hown hK hP 0 rfl rfl 0 (by decide) lk7 (fun _ h9 => h9) rfl dX6_minds_85 ?_
    refine lv_iload_n hx hb dX6_minds_88 rfl (lv_at hl 0 rfl) ?_
    refine lv_iconst (v := nI 1) hx hb dX6_minds_89 (by decide) ?_
    refine qv_iadd hx hb (9 * tN (w 75) + 77) dX6_minds_90 (by omega) ?_
    refine lv_aload_n hx hb dX6_minds_91 rfl (lv_at hl 1 rfl) ?_
    refine va_get (D := (dC, dI)) (ci := 6) (v := .ref (q 1)) (C := RX6) (T := TX6) (N := 14) hx hb hts hin hown hK hP 0 rfl rfl 0 (by decide) lk7 (fun _ h9 => h9) rfl dX6_minds_92 ?_
    refine lv_iconst (v := nI 3) hx hb dX6_minds_95 (by decide) ?_
    refine qv_ald (v := w 3) hx hb hK hP 1 0 rfl rfl (by omega) (by decide) (pk_un (by omega)) dX6_minds_96 ?_
    refine qv_ast (ws' := mW q cI cZ (upd (upd w (9 * tN (w 75) + 76) (w 2)) (9 * tN (w 75) + 77) (w 3)) kp tx td ab be su po st nu li fi ga hh) hx hb hK hP hD hS 1 0 rfl rfl (by omega) (by decide) dX6_minds_97 rfl (fun H locs hP hD hS => ?_)
    refine lv_aload_n hx hb dX6_minds_98 rfl (lv_at hl 1 rfl) ?_
    refine va_get (D := (dC, dI)) (ci := 6) (v := .ref (q 1)) (C := RX6) (T := TX6) (N := 14) hx hb hts hin hown hK hP 0 rfl rfl 0 (by decide) lk7 (fun _ h9 => h9) rfl dX6_minds_99 ?_
    refine lv_iload_n hx hb dX6_minds_102 rfl (lv_at hl 0 rfl) ?_
    refine lv_iconst (v := nI 2) hx hb dX6_minds_103 (by decide) ?_
    refine qv_iadd hx hb (9 * tN (w 75) + 78) dX6_minds_104 (by omega) ?_
    refine lv_aload_n hx hb dX6_minds_105 rfl (lv_at hl 1 rfl) ?_
    refine va_get (D := (dC, dI)) (ci := 6) (v := .ref (q 1)) (C := RX6) (T := TX6) (N := 14) hx hb hts hin hown hK hP 0 rfl rfl 0 (by decide) lk7 (fun _ h9 => h9) rfl dX6_minds_106 ?_
    refine lv_iconst (v := nI 4) hx hb dX6_minds_109 (by decide) ?_
    refine qv_ald (v := w 4) hx hb hK hP 1 0 rfl rfl (by omega) (by decide) ((pk_un (by omega)).trans (pk_un (by omega))) dX6_minds_110 ?_
    refine qv_ast (ws' := mW q cI cZ (upd (upd (upd w (9 * tN (w 75) + 76) (w 2)) (9 * tN (w 75) + 77) (w 3)) (9 * tN (w 75) + 78) (w 4)) kp tx td ab be su po st nu li fi ga hh) hx hb hK hP hD hS 1 0 rfl rfl (by omega) (by decide) dX6_minds_111 rfl (fun H locs hP hD hS => ?_)
    refine lv_iconst (v := nI 0) hx hb dX6_minds_112 (by decide) ?_
    refine lv_istore_n (lv' := [(2, .int (nI 0)), (1, .int (nI (9 * tN (w 75) + 76))), (0, .ref (q 0))]) hx hb dX6_minds_113 rfl hl (by decide) rfl (fun ls hl => ?_)
    have L_114 : ∀ (n_114 : Nat) (i : Nat) (w2 : Nat → Int32) (H : Heap) (locs : List Loc), i ≤ 6 → w2 75 = w 75 → 6 - i < n_114 → va_P (dC, dI) vwCl (mW q cI cZ w2 kp tx td ab be su po st nu li fi ga hh) H → va_D A (mW q cI cZ w2 kp tx td ab be su po st nu li fi ga hh) → va_S A s.heap H locs → ∀ (ls : Array Slot), lv_has ls 3 [(2, .int (nI i)), (1, .int (nI (9 * tN (w 75) + 76))), (0, .ref (q 0))] → OUT = let2 (F_X6_minds_L114 n_114 w i w2) (fun i w2 => (upd w2 75 (nI (tN (w 75) + 1)))) → W p l e (headSpec wsX6_minds { frames := 0, cells := 0, slots := 0, locals := 0 }).room s m ([.ref (q 0)] : List Value).toArray below meth c H locs 0 0 (MQ below (va_Qv (fun (u : (Nat → Int32)) => F_X6_minds w = u) (mB (dC, dI) vwCl (mT cI cZ) A (fun u => mW q cI cZ u kp tx td ab be su po st nu li fi ga hh)) A) ([.ref (q 0)] : List Value).toArray s 0 0 A) (F0 m 114 ls []) := by
      intro n_114
      induction n_114 with
      | zero => intro i w2 H locs j0 j1 hmu; exact absurd hmu (Nat.not_lt_zero _)
      | succ n_114 ih_114 =>
        intro i w2 H locs j0 j1 hmu_114 hP hD hS ls hl hF
        rw [F_X6_minds_L114] at hF
        refine lv_iload_n hx hb dX6_minds_114 rfl (lv_at hl 0 rfl) ?_
        refine lv_bipush (v := nI 6) hx hb dX6_minds_115 (by decide) ?_
        refine qv_icmp_ge (tgt := 145) hx hb dX6_minds_117 (by decide) (by omega) (by omega) (fun c_117 => ?_) (fun c_117 => ?_)
        · rw [if_pos c_117] at hF
          rw [let2_mk (i : Nat) (w2 : Nat → Int32)] at hF
          refine lv_aload_n hx hb dX6_minds_145 rfl (lv_at hl 2 rfl) ?_
          refine va_get (D := (dC, dI)) (ci := 6) (v := .ref (q 1)) (C := RX6) (T := TX6) (N := 14) hx hb hts hin hown hK hP 0 rfl rfl 0 (by decide) lk7 (fun _ h9 => h9) rfl dX6_minds_146 ?_
          refine lv_bipush (v := nI 75) hx hb dX6_minds_149 (by decide) ?_
          refine lv_dup2_11 hx hb dX6_minds_151 rfl rfl ?_
          refine qv_ald (v := w2 75) hx hb hK hP 1 0 rfl rfl (by omega) (by decide) (rfl) dX6_minds_152 ?_
          refine qv_top (j1.trans (e_pU)) ?_
          refine lv_iconst (v := nI 1) hx hb dX6_minds_153 (by decide) ?_
          refine qv_iadd hx hb (tN (w 75) + 1) dX6_minds_154 (by omega) ?_
          refine qv_ast (ws' := mW q cI cZ (upd w2 75 (nI (tN (w 75) + 1))) kp tx td ab be su po st nu li fi ga hh) hx hb hK hP hD hS 1 0 rfl rfl (by omega) (by decide) dX6_minds_155 rfl (fun H locs hP hD hS => ?_)
          have hP9 : va_P (dC, dI) vwCl (mW q cI cZ (upd w2 75 (nI (tN (w 75) + 1))) kp tx td ab be su po st nu li fi ga hh) H := hP
          exact W.vret hx hb hr (fun t ht hW => ⟨⟨(upd w2 75 (nI (tN (w 75) + 1))), rfl, hO.symm.trans hF, by rw [ht]; exact hP9, va_K.moved hW.alike hK, hD⟩, hS.F ht⟩) hS.2.2 dX6_minds_156
        · rw [if_neg c_117] at hF
          refine lv_aload_n hx hb dX6_minds_120 rfl (lv_at hl 2 rfl) ?_
          refine va_get (D := (dC, dI)) (ci := 6) (v := .ref (q 1)) (C := RX6) (T := TX6) (N := 14) hx hb hts hin hown hK hP 0 rfl rfl 0 (by decide) lk7 (fun _ h9 => h9) rfl dX6_minds_121 ?_
          refine lv_iload_n hx hb dX6_minds_124 rfl (lv_at hl 1 rfl) ?_
          refine lv_iconst (v := nI 3) hx hb dX6_minds_125 (by decide) ?_
          refine qv_iadd hx hb (9 * tN (w 75) + 79) dX6_minds_126 (by omega) ?_
          refine lv_iload_n hx hb dX6_minds_127 rfl (lv_at hl 0 rfl) ?_
          refine qv_iadd hx hb (9 * tN (w 75) + i + 79) dX6_minds_128 (by omega) ?_
          refine lv_aload_n hx hb dX6_minds_129 rfl (lv_at hl 2 rfl) ?_
          refine va_get (D := (dC, dI)) (ci := 6) (v := .ref (q 1)) (C := RX6) (T := TX6) (N := 14) hx hb hts hin hown hK hP 0 rfl rfl 0 (by decide) lk7 (fun _ h9 => h9) rfl dX6_minds_130 ?_
          refine lv_bipush (v := nI 17) hx hb dX6_minds_133 (by decide) ?_
          refine lv_iload_n hx hb dX6_minds_135 rfl (lv_at hl 0 rfl) ?_
          refine qv_iadd hx hb (i + 17) dX6_minds_136 (by omega) ?_
          refine qv_ald (v := w2 (i + 17)) hx hb hK hP 1 0 rfl rfl (by omega) (by decide) (rfl) dX6_minds_137 ?_
          refine qv_ast (ws' := mW q cI cZ (upd w2 (9 * tN (w 75) + i + 79) (w2 (i + 17))) kp tx td ab be su po st nu li fi ga hh) hx hb hK hP hD hS 1 0 rfl rfl (by omega) (by decide) dX6_minds_138 rfl (fun H locs hP hD hS => ?_)
          refine lv_iinc (v := nI (i + 1)) (lv' := [(2, .int (nI (i + 1))), (1, .int (nI (9 * tN (w 75) + 76))), (0, .ref (q 0))]) hx hb dX6_minds_139 hl (k := 0) rfl (qn_inc (c := 1) rfl (by omega)) (by decide) rfl (fun ls hl => ?_)
          refine lv_goto (tgt := 114) hx hb dX6_minds_142 (by decide) ?_
          exact ih_114 (i + 1) (upd w2 (9 * tN (w 75) + i + 79) (w2 (i + 17))) H locs (by omega) ((pk_un (by omega)).trans j1) (by omega) hP hD hS ls (lv_sub hl [0, 1, 2] rfl) hF
    exact L_114 7 0 (upd (upd (upd w (9 * tN (w 75) + 76) (w 2)) (9 * tN (w 75) + 77) (w 3)) (9 * tN (w 75) + 78) (w 4)) H locs (by omega) ((pk_un (by omega)).trans ((pk_un (by omega)).trans (pk_un (by omega)))) (by omega) hP hD hS ls (lv_sub hl [0, 1, 2] rfl) hF
  · rw [if_pos c_9] at hF
    refine lv_iconst (v := nI 0) hx hb dX6_minds_12 (by decide) ?_
    refine lv_istore_n (lv' := [(1, .int (nI 0)), (0, .ref (q 0))]) hx hb dX6_minds_13 rfl hl (by decide) rfl (fun ls hl => ?_)
    have L_14 : ∀ (n_14 : Nat) (k : Nat) (w1 : Nat → Int32) (H : Heap) (locs : List Loc), k ≤ 63 → w1 75 = w 75 → 63 - k < n_14 → va_P (dC, dI) vwCl (mW q cI cZ w1 kp tx td ab be su po st nu li fi ga hh) H → va_D A (mW q cI cZ w1 kp tx td ab be su po st nu li fi ga hh) → va_S A s.heap H locs → ∀ (ls : Array Slot), lv_has ls 3 [(1, .int (nI k)), (0, .ref (q 0))] → OUT = let2 (F_X6_minds_L14 n_14  k w1) (fun k w1 => let2 (F_X6_minds_L114b 7 w 0 (upd (upd (upd (upd w1 75 (nI ((tN (w 75) - 1)))) (9 * (tN (w 75) - 1) + 76) (w1 2)) (9 * (tN (w 75) - 1) + 77) (w1 3)) (9 * (tN (w 75) - 1) + 78) (w1 4))) (fun i w2 => (upd w2 75 (nI ((tN (w 75) - 1) + 1))))) → W p l e (headSpec wsX6_minds { frames := 0, cells := 0, slots := 0, locals := 0 }).room s m ([.ref (q 0)] : List Value).toArray below meth c H locs 0 0 (MQ below (va_Qv (fun (u : (Nat → Int32)) => F_X6_minds w = u) (mB (dC, dI) vwCl (mT cI cZ) A (fun u => mW q cI cZ u kp tx td ab be su po st nu li fi ga hh)) A) ([.ref (q 0)] : List Value).toArray s 0 0 A) (F0 m 14 ls []) := by
      intro n_14
      induction n_14 with
      | zero => intro k w1 H locs i0 i1 hmu; exact absurd hmu (Nat.not_lt_zero _)
      | succ n_14 ih_14 =>
        intro k w1 H locs i0 i1 hmu_14 hP hD hS ls hl hF
        rw [F_X6_minds_L14] at hF
        refine lv_iload_n hx hb dX6_minds_14 rfl (lv_at hl 0 rfl) ?_
        refine lv_bipush (v := nI 63) hx hb dX6_minds_15 (by decide) ?_
        refine qv_icmp_ge (tgt := 47) hx hb dX6_minds_17 (by decide) (by omega) (by omega) (fun c_17 => ?_) (fun c_17 => ?_)
        · rw [if_pos c_17] at hF
          rw [let2_mk (k : Nat) (w1 : Nat → Int32)] at hF
          refine lv_aload_n hx hb dX6_minds_47 rfl (lv_at hl 1 rfl) ?_
          refine va_get (D := (dC, dI)) (ci := 6) (v := .ref (q 1)) (C := RX6) (T := TX6) (N := 14) hx hb hts hin hown hK hP 0 rfl rfl 0 (by decide) lk7 (fun _ h9 => h9) rfl dX6_minds_48 ?_
          refine lv_bipush (v := nI 75) hx hb dX6_minds_51 (by decide) ?_
          refine lv_dup2_11 hx hb dX6_minds_53 rfl rfl ?_
          refine qv_ald (v := w1 75) hx hb hK hP 1 0 rfl rfl (by omega) (by decide) (rfl) dX6_minds_54 ?_
          refine qv_top (i1.trans (e_pU)) ?_
          refine lv_iconst (v := nI 1) hx hb dX6_minds_55 (by decide) ?_
          refine qv_isub hx hb (tN (w 75) - 1) dX6_minds_56 (by omega) ?_
          refine qv_ast (ws' := mW q cI cZ (upd w1 75 (nI ((tN (w 75) - 1)))) kp tx td ab be su po st nu li fi ga hh) hx hb hK hP hD hS 1 0 rfl rfl (by omega) (by decide) dX6_minds_57 rfl (fun H locs hP hD hS => ?_)
          refine lv_bipush (v := nI 76) hx hb dX6_minds_58 (by decide) ?_
          refine lv_bipush (v := nI 9) hx hb dX6_minds_60 (by decide) ?_
          refine lv_aload_n hx hb dX6_minds_62 rfl (lv_at hl 1 rfl) ?_
          refine va_get (D := (dC, dI)) (ci := 6) (v := .ref (q 1)) (C := RX6) (T := TX6) (N := 14) hx hb hts hin hown hK hP 0 rfl rfl 0 (by decide) lk7 (fun _ h9 => h9) rfl dX6_minds_63 ?_
          refine lv_bipush (v := nI 75) hx hb dX6_minds_66 (by decide) ?_
          refine qv_ald (v := nI ((tN (w 75) - 1))) hx hb hK hP 1 0 rfl rfl (by omega) (by decide) (pk_us) dX6_minds_68 ?_
          refine qv_imul hx hb (9 * (tN (w 75) - 1)) dX6_minds_69 (by omega) ?_
          refine qv_iadd hx hb (9 * (tN (w 75) - 1) + 76) dX6_minds_70 (by omega) ?_
          refine lv_istore_n (lv' := [(1, .int (nI (9 * (tN (w 75) - 1) + 76))), (0, .ref (q 0))]) hx hb dX6_minds_71 rfl hl (by decide) rfl (fun ls hl => ?_)
          refine lv_aload_n hx hb dX6_minds_72 rfl (lv_at hl 1 rfl) ?_
          refine va_get (D := (dC, dI)) (ci := 6) (v := .ref (q 1)) (C := RX6) (T := TX6) (N := 14) hx hb hts hin hown hK hP 0 rfl rfl 0 (by decide) lk7 (fun _ h9 => h9) rfl dX6_minds_73 ?_
          refine lv_iload_n hx hb dX6_minds_76 rfl (lv_at hl 0 rfl) ?_
          refine lv_aload_n hx hb dX6_minds_77 rfl (lv_at hl 1 rfl) ?_
          refine va_get (D := (dC, dI)) (ci := 6) (v := .ref (q 1)) (C := RX6) (T := TX6) (N := 14) hx hb hts hin hown hK hP 0 rfl rfl 0 (by decide) lk7 (fun _ h9 => h9) rfl dX6_minds_78 ?_
          refine lv_iconst (v := nI 2) hx hb dX6_minds_81 (by decide) ?_
          refine qv_ald (v := w1 2) hx hb hK hP 1 0 rfl rfl (by omega) (by decide) (pk_un (by omega)) dX6_minds_82 ?_
          refine qv_ast (ws' := mW q cI cZ (upd (upd w1 75 (nI ((tN (w 75) - 1)))) (9 * (tN (w 75) - 1) + 76) (w1 2)) kp tx td ab be su po st nu li fi ga hh) hx hb hK hP hD hS 1 0 rfl rfl (by omega) (by decide) dX6_minds_83 rfl (fun H locs hP hD hS => ?_)
          refine lv_aload_n hx hb dX6_minds_84 rfl (lv_at hl 1 rfl) ?_
          refine va_get (D := (dC, dI)) (ci := 6) (v := .ref (q 1)) (C := RX6) (T := TX6) (N := 14) hx hb hts hin hown hK hP 0 rfl rfl 0 (by decide) lk7 (fun _ h9 => h9) rfl dX6_minds_85 ?_
          refine lv_iload_n hx hb dX6_minds_88 rfl (lv_at hl 0 rfl) ?_
          refine lv_iconst (v := nI 1) hx hb dX6_minds_89 (by decide) ?_
          refine qv_iadd hx hb (9 * (tN (w 75) - 1) + 77) dX6_minds_90 (by omega) ?_
          refine lv_aload_n hx hb dX6_minds_91 rfl (lv_at hl 1 rfl) ?_
          refine va_get (D := (dC, dI)) (ci := 6) (v := .ref (q 1)) (C := RX6) (T := TX6) (N := 14) hx hb hts hin hown hK hP 0 rfl rfl 0 (by decide) lk7 (fun _ h9 => h9) rfl dX6_minds_92 ?_
          refine lv_iconst (v := nI 3) hx hb dX6_minds_95 (by decide) ?_
          refine qv_ald (v := w1 3) hx hb hK hP 1 0 rfl rfl (by omega) (by decide) ((pk_un (by omega)).trans (pk_un (by omega))) dX6_minds_96 ?_
          refine qv_ast (ws' := mW q cI cZ (upd (upd (upd w1 75 (nI ((tN (w 75) - 1)))) (9 * (tN (w 75) - 1) + 76) (w1 2)) (9 * (tN (w 75) - 1) + 77) (w1 3)) kp tx td ab be su po st nu li fi ga hh) hx hb hK hP hD hS 1 0 rfl rfl (by omega) (by decide) dX6_minds_97 rfl (fun H locs hP hD hS => ?_)
          refine lv_aload_n hx hb dX6_minds_98 rfl (lv_at hl 1 rfl) ?_
          refine va_get (D := (dC, dI)) (ci := 6) (v := .ref (q 1)) (C := RX6) (T := TX6) (N := 14) hx hb hts hin hown hK hP 0 rfl rfl 0 (by decide) lk7 (fun _ h9 => h9) rfl dX6_minds_99 ?_
          refine lv_iload_n hx hb dX6_minds_102 rfl (lv_at hl 0 rfl) ?_
          refine lv_iconst (v := nI 2) hx hb dX6_minds_103 (by decide) ?_
          refine qv_iadd hx hb (9 * (tN (w 75) - 1) + 78) dX6_minds_104 (by omega) ?_
          refine lv_aload_n hx hb dX6_minds_105 rfl (lv_at hl 1 rfl) ?_
          refine va_get (D := (dC, dI)) (ci := 6) (v := .ref (q 1)) (C := RX6) (T := TX6) (N := 14) hx hb hts hin hown hK hP 0 rfl rfl 0 (by decide) lk7 (fun _ h9 => h9) rfl dX6_minds_106 ?_
          refine lv_iconst (v := nI 4) hx hb dX6_minds_109 (by decide) ?_
          refine qv_ald (v := w1 4) hx hb hK hP 1 0 rfl rfl (by omega) (by decide) ((pk_un (by omega)).trans ((pk_un (by omega)).trans (pk_un (by omega)))) dX6_minds_110 ?_
          refine qv_ast (ws' := mW q cI cZ (upd (upd (upd (upd w1 75 (nI ((tN (w 75) - 1)))) (9 * (tN (w 75) - 1) + 76) (w1 2)) (9 * (tN (w 75) - 1) + 77) (w1 3)) (9 * (tN (w 75) - 1) + 78) (w1 4)) kp tx td ab be su po st nu li fi ga hh) hx hb hK hP hD hS 1 0 rfl rfl (by omega) (by decide) dX6_minds_111 rfl (fun H locs hP hD hS => ?_)
          refine lv_iconst (v := nI 0) hx hb dX6_minds_112 (by decide) ?_
          refine lv_istore_n (lv' := [(2, .int (nI 0)), (1, .int (nI (9 * (tN (w 75) - 1) + 76))), (0, .ref (q 0))]) hx hb dX6_minds_113 rfl hl (by decide) rfl (fun ls hl => ?_)
          have L_114 : ∀ (n_114 : Nat) (i : Nat) (w2 : Nat → Int32) (H : Heap) (locs : List Loc), i ≤ 6 → w2 75 = nI ((tN (w 75) - 1)) → 6 - i < n_114 → va_P (dC, dI) vwCl (mW q cI cZ w2 kp tx td ab be su po st nu li fi ga hh) H → va_D A (mW q cI cZ w2 kp tx td ab be su po st nu li fi ga hh) → va_S A s.heap H locs → ∀ (ls : Array Slot), lv_has ls 3 [(2, .int (nI i)), (1, .int (nI (9 * (tN (w 75) - 1) + 76))), (0, .ref (q 0))] → OUT = let2 (F_X6_minds_L114b n_114 w i w2) (fun i w2 => (upd w2 75 (nI ((tN (w 75) - 1) + 1)))) → W p l e (headSpec wsX6_minds { frames := 0, cells := 0, slots := 0, locals := 0 }).room s m ([.ref (q 0)] : List Value).toArray below meth c H locs 0 0 (MQ below (va_Qv (fun (u : (Nat → Int32)) => F_X6_minds w = u) (mB (dC, dI) vwCl (mT cI cZ) A (fun u => mW q cI cZ u kp tx td ab be su po st nu li fi ga hh)) A) ([.ref (q 0)] : List Value).toArray s 0 0 A) (F0 m 114 ls []) := by
            intro n_114
            induction n_114 with
            | zero => intro i w2 H locs j0 j1 hmu; exact absurd hmu (Nat.not_lt_zero _)
            | succ n_114 ih_114 =>
              intro i w2 H locs j0 j1 hmu_114 hP hD hS ls hl hF
              rw [F_X6_minds_L114b] at hF
              refine lv_iload_n hx hb dX6_minds_114 rfl (lv_at hl 0 rfl) ?_
              refine lv_bipush (v := nI 6) hx hb dX6_minds_115 (by decide) ?_
              refine qv_icmp_ge (tgt := 145) hx hb dX6_minds_117 (by decide) (by omega) (by omega) (fun c_117 => ?_) (fun c_117 => ?_)
              · rw [if_pos c_117] at hF
                rw [let2_mk (i : Nat) (w2 : Nat → Int32)] at hF
                refine lv_aload_n hx hb dX6_minds_145 rfl (lv_at hl 2 rfl) ?_
                refine va_get (D := (dC, dI)) (ci := 6) (v := .ref (q 1)) (C := RX6) (T := TX6) (N := 14) hx hb hts hin hown hK hP 0 rfl rfl 0 (by decide) lk7 (fun _ h9 => h9) rfl dX6_minds_146 ?_
                refine lv_bipush (v := nI 75) hx hb dX6_minds_149 (by decide) ?_
                refine lv_dup2_11 hx hb dX6_minds_151 rfl rfl ?_
                refine qv_ald (v := w2 75) hx hb hK hP 1 0 rfl rfl (by omega) (by decide) (rfl) dX6_minds_152 ?_
                refine qv_top (j1) ?_
                refine lv_iconst (v := nI 1) hx hb dX6_minds_153 (by decide) ?_
                refine qv_iadd hx hb ((tN (w 75) - 1) + 1) dX6_minds_154 (by omega) ?_
                refine qv_ast (ws' := mW q cI cZ (upd w2 75 (nI ((tN (w 75) - 1) + 1))) kp tx td ab be su po st nu li fi ga hh) hx hb hK hP hD hS 1 0 rfl rfl (by omega) (by decide) dX6_minds_155 rfl (fun H locs hP hD hS => ?_)
                have hP9 : va_P (dC, dI) vwCl (mW q cI cZ (upd w2 75 (nI ((tN (w 75) - 1) + 1))) kp tx td ab be su po st nu li fi ga hh) H := hP
                exact W.vret hx hb hr (fun t ht hW => ⟨⟨(upd w2 75 (nI ((tN (w 75) - 1) + 1))), rfl, hO.symm.trans hF, by rw [ht]; exact hP9, va_K.moved hW.alike hK, hD⟩, hS.F ht⟩) hS.2.2 dX6_minds_156
              · rw [if_neg c_117] at hF
                refine lv_aload_n hx hb dX6_minds_120 rfl (lv_at hl 2 rfl) ?_
                refine va_get (D := (dC, dI)) (ci := 6) (v := .ref (q 1)) (C := RX6) (T := TX6) (N := 14) hx hb hts hin hown hK hP 0 rfl rfl 0 (by decide) lk7 (fun _ h9 => h9) rfl dX6_minds_121 ?_
                refine lv_iload_n hx hb dX6_minds_124 rfl (lv_at hl 1 rfl) ?_
                refine lv_iconst (v := nI 3) hx hb dX6_minds_125 (by decide) ?_
                refine qv_iadd hx hb (9 * (tN (w 75) - 1) + 79) dX6_minds_126 (by omega) ?_
                refine lv_iload_n hx hb dX6_minds_127 rfl (lv_at hl 0 rfl) ?_
                refine qv_iadd hx hb (9 * (tN (w 75) - 1) + i + 79) dX6_minds_128 (by omega) ?_
                refine lv_aload_n hx hb dX6_minds_129 rfl (lv_at hl 2 rfl) ?_
                refine va_get (D := (dC, dI)) (ci := 6) (v := .ref (q 1)) (C := RX6) (T := TX6) (N := 14) hx hb hts hin hown hK hP 0 rfl rfl 0 (by decide) lk7 (fun _ h9 => h9) rfl dX6_minds_130 ?_
                refine lv_bipush (v := nI 17) hx hb dX6_minds_133 (by decide) ?_
                refine lv_iload_n hx hb dX6_minds_135 rfl (lv_at hl 0 rfl) ?_
                refine qv_iadd hx hb (i + 17) dX6_minds_136 (by omega) ?_
                refine qv_ald (v := w2 (i + 17)) hx hb hK hP 1 0 rfl rfl (by omega) (by decide) (rfl) dX6_minds_137 ?_
                refine qv_ast (ws' := mW q cI cZ (upd w2 (9 * (tN (w 75) - 1) + i + 79) (w2 (i + 17))) kp tx td ab be su po st nu li fi ga hh) hx hb hK hP hD hS 1 0 rfl rfl (by omega) (by decide) dX6_minds_138 rfl (fun H locs hP hD hS => ?_)
                refine lv_iinc (v := nI (i + 1)) (lv' := [(2, .int (nI (i + 1))), (1, .int (nI (9 * (tN (w 75) - 1) + 76))), (0, .ref (q 0))]) hx hb dX6_minds_139 hl (k := 0) rfl (qn_inc (c := 1) rfl (by omega)) (by decide) rfl (fun ls hl => ?_)
                refine lv_goto (tgt := 114) hx hb dX6_minds_142 (by decide) ?_
                exact ih_114 (i + 1) (upd w2 (9 * (tN (w 75) - 1) + i + 79) (w2 (i + 17))) H locs (by omega) ((pk_un (by omega)).trans j1) (by omega) hP hD hS ls (lv_sub hl [0, 1, 2] rfl) hF
          exact L_114 7 0 (upd (upd (upd (upd w1 75 (nI ((tN (w 75) - 1)))) (9 * (tN (w 75) - 1) + 76) (w1 2)) (9 * (tN (w 75) - 1) + 77) (w1 3)) (9 * (tN (w 75) - 1) + 78) (w1 4)) H locs (by omega) ((pk_un (by omega)).trans ((pk_un (by omega)).trans ((pk_un (by omega)).trans (pk_us)))) (by omega) hP hD hS ls (lv_sub hl [0, 1, 2] rfl) hF
        · rw [if_neg c_17] at hF
          refine lv_aload_n hx hb dX6_minds_20 rfl (lv_at hl 1 rfl) ?_
          refine va_get (D := (dC, dI)) (ci := 6) (v := .ref (q 1)) (C := RX6) (T := TX6) (N := 14) hx hb hts hin hown hK hP 0 rfl rfl 0 (by decide) lk7 (fun _ h9 => h9) rfl dX6_minds_21 ?_
          refine lv_bipush (v := nI 76) hx hb dX6_minds_24 (by decide) ?_
          refine lv_iload_n hx hb dX6_minds_26 rfl (lv_at hl 0 rfl) ?_
          refine qv_iadd hx hb (k + 76) dX6_minds_27 (by omega) ?_
          refine lv_aload_n hx hb dX6_minds_28 rfl (lv_at hl 1 rfl) ?_
          refine va_get (D := (dC, dI)) (ci := 6) (v := .ref (q 1)) (C := RX6) (T := TX6) (N := 14) hx hb hts hin hown hK hP 0 rfl rfl 0 (by decide) lk7 (fun _ h9 => h9) rfl dX6_minds_29 ?_
          refine lv_bipush (v := nI 76) hx hb dX6_minds_32 (by decide) ?_
          refine lv_iload_n hx hb dX6_minds_34 rfl (lv_at hl 0 rfl) ?_
          refine qv_iadd hx hb (k + 76) dX6_minds_35 (by omega) ?_
          refine lv_bipush (v := nI 9) hx hb dX6_minds_36 (by decide) ?_
          refine qv_iadd hx hb (k + 85) dX6_minds_38 (by omega) ?_
          refine qv_ald (v := w1 (k + 85)) hx hb hK hP 1 0 rfl rfl (by omega) (by decide) (rfl) dX6_minds_39 ?_
          refine qv_ast (ws' := mW q cI cZ (upd w1 (k + 76) (w1 (k + 85))) kp tx td ab be su po st nu li fi ga hh) hx hb hK hP hD hS 1 0 rfl rfl (by omega) (by decide) dX6_minds_40 rfl (fun H locs hP hD hS => ?_)
          refine lv_iinc (v := nI (k + 1)) (lv' := [(1, .int (nI (k + 1))), (0, .ref (q 0))]) hx hb dX6_minds_41 hl (k := 0) rfl (qn_inc (c := 1) rfl (by omega)) (by decide) rfl (fun ls hl => ?_)
          refine lv_goto (tgt := 14) hx hb dX6_minds_44 (by decide) ?_
          exact ih_14 (k + 1) (upd w1 (k + 76) (w1 (k + 85))) H locs (by omega) ((pk_un (by omega)).trans i1) (by omega) hP hD hS ls (lv_sub hl [0, 1] rfl) hF
    exact L_14 64 0 w s.heap [] (by omega) rfl (by omega) hP hD hS ls (lv_sub hl [0, 1] rfl) hF
theorem L_minds14 : ∀ (n k : Nat) (w1 : Nat → Int32), ∀ j, j < 76 → (F_X6_minds_L14 n k w1).2 j = w1 j
  | 0, _, _, _, _ => rfl
  | n + 1, k, w1, j, hj => by
    rw [F_X6_minds_L14]
    split
    · rfl
    · rw [L_minds14 n _ _ j hj, pk_un (by omega)]
theorem L_minds114 (w : Nat → Int32) : ∀ (n i : Nat) (w2 : Nat → Int32), ∀ j, j < 76 → (F_X6_minds_L114 n w i w2).2 j = w2 j
  | 0, _, _, _, _ => rfl
  | n + 1, i, w2, j, hj => by
    rw [F_X6_minds_L114]
    split
    · rfl
    · rw [L_minds114 w n _ _ j hj, pk_un (by omega)]
theorem L_minds114b (w : Nat → Int32) : ∀ (n i : Nat) (w2 : Nat → Int32), ∀ j, j < 76 → (F_X6_minds_L114b n w i w2).2 j = w2 j
  | 0, _, _, _, _ => rfl
  | n + 1, i, w2, j, hj => by
    rw [F_X6_minds_L114b]
    split
    · rfl
    · rw [L_minds114b w n _ _ j hj, pk_un (by omega)]
theorem minds_keep {w w' : Nat → Int32} (e : F_X6_minds w = w') : ∀ j, j < 75 → w' j = w j := by
  intro j hj
  rw [← e]
  unfold F_X6_minds
  split
  · simp only [let2]
    rw [pk_un (by omega)]
    first | rw [L_minds114 w _ _ _ j (by omega)] | rw [L_minds114b w _ _ _ j (by omega)]
    rw [pk_un (by omega), pk_un (by omega), pk_un (by omega), pk_un (by omega), L_minds14 _ _ _ j (by omega)]
  · simp only [let2]
    rw [pk_un (by omega)]
    first | rw [L_minds114 w _ _ _ j (by omega)] | rw [L_minds114b w _ _ _ j (by omega)]
    rw [pk_un (by omega), pk_un (by omega), pk_un (by omega)]
def F_X6_hits (w : Nat → Int32) (su : Nat → Int32) (h : Int32) : Int32 × (Nat → Int32) × (Nat → Int32) := if (F_X6_in h.toInt64 0 9) = true then let1 (F_X6_isDone w 0) (fun z_21 => if z_21 = true then let2 (F_X6_no su) (fun r_40 su_40 => (r_40, w, su_40)) else (if (w 4) = (nI 9999) then let2 (F_X6_no su) (fun r_40 su_40 => (r_40, w, su_40)) else let1 (F_X6_minds w) (fun w_45 => let2 (F_X6_bats w_45 0 (nI (tN h))) (fun r_53 w_53 => let2 (F_X6_scores w_53 0 r_53) (fun r_56 w_56 => (r_56, w_56, su)))))) else let2 (F_X6_bad su ((-2))) (fun r_15 su_15 => (r_15, w, su_15))
set_option maxHeartbeats 4000000 in
set_option maxRecDepth 100000 in
theorem c_X6_hits (l : Launch) (dC : Nat → ClassId) (dI : Nat → Nat → Nat) (q : Nat → Nat) (cI cZ : ClassId) (sz : Nat) (w : Nat → Int32) (kp : Nat → Int32) (tx : Nat → Int32) (td : Int32) (ab : Int64) (be : Int64) (su : Nat → Int32) (po : Int32) (st : Int32) (nu : Int32) (li : Nat → Int32) (fi : Nat → Int32) (ga : Nat → Int32) (hh : Int64) (h : Int32) (pB : inB (w 0) 6) (pN : okN (w 2)) (pU : inB (w 75) 8) : Met l yX6_hits wsX6_hits { frames := 5, cells := 0, slots := 0, locals := 116 } (mPc (dC, dI) vwCl (mT cI cZ) (mW q cI cZ w kp tx td ab be su po st nu li fi ga hh) sz [.ref (q 0), .int h]) (va_Qi (fun (r : Int32) (u : (Nat → Int32) × (Nat → Int32)) => F_X6_hits w su h = (r, u)) (mB (dC, dI) vwCl (mT cI cZ) (va_A (mW q cI cZ w kp tx td ab be su po st nu li fi ga hh) sz) (fun u => mW q cI cZ u.1 kp tx td ab be u.2 po st nu li fi ga hh)) (va_A (mW q cI cZ w kp tx td ab be su po st nu li fi ga hh) sz)) 0 0 (va_A (mW q cI cZ w kp tx td ab be su po st nu li fi ga hh) sz) := by
  refine Met.ofW (cc := cX6_hits) (maxL := 2) (ret := (some .int)) (by decide) rfl ?_
  intro p e s m args below meth c s₁ B hml hv
  obtain ⟨rfl, hsz, hP, hK, hD0⟩ := hv
  have hx := B.exec
  have hb := B.bytes
  have hr := B.returns
  have hts := atoms_spec (ws := wsX6_hits) B.pre
  have hown : s.vm.findClass RX6 = some m.cls := findClass_of_methodNamed B.named
  have hlocks := B.notSynchronized
  subst hsz
  have hD := hD0.self (sz := s.heap.size)
  generalize hAe : va_A (mW q cI cZ w kp tx td ab be su po st nu li fi ga hh) s.heap.size = A at hD ⊢
  have hA : ∀ q : Nat, s.heap.size ≤ q → A q := fun q h => by rw [← hAe]; exact Or.inr h
  have hS : va_S A s.heap s.heap [] := va_S.rf
  have hin : ∀ w ∈ wsX60, w ∈ wsX6_hits := by decide +kernel
  have lk7 := hts (.fieldLink RX6 7 "PostRoundersModel" "w" "[I") (by decide +kernel)
  have hl := lv_entry ([.ref (q 0), .int h]) (n := 2) (Nat.le_of_ble_eq_true rfl)
  rw [lg_entry_eq]
  generalize (lg_sl ([.ref (q 0), .int h]) ++ List.replicate (2 - (lg_sl ([.ref (q 0), .int h])).length) Slot.unset).toArray = ls at hl ⊢
  have hl : lv_has ls 2 [(0, .ref (q 0)), (1, .int h)] := hl
  obtain ⟨OUT, hO⟩ : ∃ z, z = F_X6_hits w su h := ⟨_, rfl⟩
  have hF := hO
  unfold F_X6_hits at hF
  have e_pB := tN_eq pB.1
  have b_pB := pB.2
  have e_pU := tN_eq pU.1
  have b_pU := pU.2
  refine lv_iload_n hx hb dX6_hits_0 rfl (lv_at hl 1 rfl) ?_
  refine lv_i2l hx hb dX6_hits_1 rfl ?_
  refine lv_lconst (v := 0) hx hb dX6_hits_2 (by decide) ?_
  refine lv_ldc2 (v := 9) hx hb hown (hts (.constantLong RX6 175 9) (by decide +kernel)) dX6_hits_3 ?_
  refine qc_Si (As := [.long h.toInt64, .long 0, .long 9]) (rest := []) ⟨hx, hb, hml, hown, hts⟩ (c_X6_in l h.toInt64 0 9) (va_cwS 3 hts gX6_hits_X6_in rfl rfl rfl (by decide +kernel) ⟨Nat.le_of_ble_eq_true rfl, Nat.le_of_ble_eq_true rfl⟩) rfl hl.1 rfl (Nat.le_of_ble_eq_true rfl) dX6_hits_6 ⟨Nat.zero_le _, Nat.zero_le _⟩ (fun r_6 hw_6 => ?_)
  subst hw_6
  refine qv_zif_ne (tgt := 19) hx hb dX6_hits_9 (by decide) (fun c_9 => ?_) (fun c_9 => ?_)
  · rw [if_pos c_9] at hF
    obtain ⟨f_h, fa_h, fb_h⟩ := in_nat (lo := 0) (hi := 9) rfl rfl (by decide) (by decide) c_9
    have e_h := tN_eq f_h
    refine lv_aload_n hx hb dX6_hits_19 rfl (lv_at hl 0 rfl) ?_
    refine lv_iconst (v := nI 0) hx hb dX6_hits_20 (by decide) ?_
    refine qc_Vi (C := RX6) (As := [.int (nI 0)]) (rest := []) (ci := 6) (k0 := 0) ⟨hx, hb, hml, hown, hts⟩ (c_X6_isDone l dC dI q cI cZ s.heap.size w kp tx td ab be su po st nu li fi ga hh 0 (by omega)) (cwV 1 hts gX6_hits_X6_isDone rfl rfl rfl (by decide +kernel) ⟨Nat.le_of_ble_eq_true rfl, Nat.le_of_ble_eq_true rfl⟩) hK hP hD hS hA rfl rfl rfl rfl hl.1 rfl (Nat.le_of_ble_eq_true rfl) dX6_hits_21 ⟨Nat.zero_le _, Nat.zero_le _⟩ (fun r_21 u_21 H locs hw_21 hP hD hS => ?_)
    obtain ⟨z_21, hw_21, rfl⟩ := hw_21
    rw [hw_21, let1_mk z_21] at hF
    refine qv_zif_ne (tgt := 39) hx hb dX6_hits_24 (by decide) (fun c_24 => ?_) (fun c_24 => ?_)
    · rw [if_pos c_24] at hF
      refine lv_aload_n hx hb dX6_hits_39 rfl (lv_at hl 0 rfl) ?_
      refine qc_Vi (C := RX6) (As := []) (rest := []) (ci := 6) (k0 := 0) ⟨hx, hb, hml, hown, hts⟩ (c_X6_no l dC dI q cI cZ H.size w kp tx td ab be su po st nu li fi ga hh  ) (cwV 0 hts gX6_hits_X6_no rfl rfl rfl (by decide +kernel) ⟨Nat.le_of_ble_eq_true rfl, Nat.le_of_ble_eq_true rfl⟩) hK hP hD hS hA rfl rfl rfl rfl hl.1 rfl (Nat.le_of_ble_eq_true rfl) dX6_hits_40 ⟨Nat.zero_le _, Nat.zero_le _⟩ (fun r_40 u_40 H locs hw_40 hP hD hS => ?_)
      obtain ⟨su_40, rfl⟩ : ∃ z, z = u_40 := ⟨_, rfl⟩
      have hP : va_P (dC, dI) vwCl (mW q cI cZ w kp tx td ab be su_40 po st nu li fi ga hh) H := hP
      have hD : va_D A (mW q cI cZ w kp tx td ab be su_40 po st nu li fi ga hh) := hD
      rw [hw_40, let2_mk r_40 su_40] at hF
      have hP9 : va_P (dC, dI) vwCl (mW q cI cZ w kp tx td ab be su_40 po st nu li fi ga hh) H := hP
      exact W.iret (v := r_40) hx hb hr (fun t ht hW => ⟨⟨_, ((w, su_40)), rfl, hO.symm.trans hF, by rw [ht]; exact hP9, va_K.moved hW.alike hK, hD⟩, hS.F ht⟩) hS.2.2 dX6_hits_43
    · rw [if_neg c_24] at hF
      refine lv_aload_n hx hb dX6_hits_27 rfl (lv_at hl 0 rfl) ?_
      refine va_get (D := (dC, dI)) (ci := 6) (v := .ref (q 1)) (C := RX6) (T := TX6) (N := 14) hx hb hts hin hown hK hP 0 rfl rfl 0 (by decide) lk7 (fun _ h9 => h9) rfl dX6_hits_28 ?_
      refine lv_iconst (v := nI 4) hx hb dX6_hits_31 (by decide) ?_
      refine qv_ald (v := w 4) hx hb hK hP 1 0 rfl rfl (by omega) (by decide) (rfl) dX6_hits_32 ?_
      refine lv_sipush (v := nI 9999) hx hb dX6_hits_33 (by decide) ?_
      refine lv_icmp_ne (tgt := 44) hx hb dX6_hits_36 (by decide) (fun c_36 => ?_) (fun c_36 => ?_)
      · rw [if_neg c_36] at hF
        have pI : inB (w 2) 5 := pN.resolve_left (isDone_no hw_21 c_24)
        refine lv_aload_n hx hb dX6_hits_44 rfl (lv_at hl 0 rfl) ?_
        refine qc_Vv (C := RX6) (As := []) (rest := []) (ci := 6) (k0 := 0) ⟨hx, hb, hml, hown, hts⟩ (c_X6_minds l dC dI q cI cZ H.size w kp tx td ab be su po st nu li fi ga hh  (pU : inB (w 75) 8)) (cwV 0 hts gX6_hits_X6_minds rfl rfl rfl (by decide +kernel) ⟨Nat.le_of_ble_eq_true rfl, Nat.le_of_ble_eq_true rfl⟩) hK hP hD hS hA rfl rfl rfl rfl hl.1 rfl (Nat.le_of_ble_eq_true rfl) dX6_hits_45 ⟨Nat.zero_le _, Nat.zero_le _⟩ (fun u_45 H locs hw_45 hP hD hS => ?_)
        obtain ⟨w_45, rfl⟩ : ∃ z, z = u_45 := ⟨_, rfl⟩
        have hP : va_P (dC, dI) vwCl (mW q cI cZ w_45 kp tx td ab be su po st nu li fi ga hh) H := hP
        have hD : va_D A (mW q cI cZ w_45 kp tx td ab be su po st nu li fi ga hh) := hD
        have v0_45 : w_45 0 = w 0 := minds_keep hw_45 0 (by decide)
        have v2_45 : w_45 2 = w 2 := minds_keep hw_45 2 (by decide)
        rw [hw_45, let1_mk w_45] at hF
        refine lv_aload_n hx hb dX6_hits_48 rfl (lv_at hl 0 rfl) ?_
        refine lv_iconst (v := nI 0) hx hb dX6_hits_49 (by decide) ?_
        refine lv_aload_n hx hb dX6_hits_50 rfl (lv_at hl 0 rfl) ?_
        refine lv_iconst (v := nI 0) hx hb dX6_hits_51 (by decide) ?_
        refine lv_iload_n hx hb dX6_hits_52 rfl (lv_at hl 1 rfl) ?_
        refine qv_top (e_h) ?_
        refine qc_Vi (C := RX6) (As := [.int (nI 0), .int (nI (tN h))]) (rest := [.int (nI 0), .ref (q 0)]) (ci := 6) (k0 := 0) ⟨hx, hb, hml, hown, hts⟩ (c_X6_bats l dC dI q cI cZ H.size w_45 kp tx td ab be su po st nu li fi ga hh 0 (nI (tN h)) (by omega) (by rw [show w_45 0 = w 0 from v0_45]; exact (pB : inB (w 0) 6)) (by rw [show w_45 2 = w 2 from v2_45]; exact (pI : inB (w 2) 5))) (cwV 2 hts gX6_hits_X6_bats rfl rfl rfl (by decide +kernel) ⟨Nat.le_of_ble_eq_true rfl, Nat.le_of_ble_eq_true rfl⟩) hK hP hD hS hA rfl rfl rfl rfl hl.1 rfl (Nat.le_of_ble_eq_true rfl) dX6_hits_53 ⟨Nat.zero_le _, Nat.zero_le _⟩ (fun r_53 u_53 H locs hw_53 hP hD hS => ?_)
        obtain ⟨w_53, rfl⟩ : ∃ z, z = u_53 := ⟨_, rfl⟩
        have hP : va_P (dC, dI) vwCl (mW q cI cZ w_53 kp tx td ab be su po st nu li fi ga hh) H := hP
        have hD : va_D A (mW q cI cZ w_53 kp tx td ab be su po st nu li fi ga hh) := hD
        rw [hw_53, let2_mk r_53 w_53] at hF
        refine qc_Vi (C := RX6) (As := [.int (nI 0), .int r_53]) (rest := []) (ci := 6) (k0 := 0) ⟨hx, hb, hml, hown, hts⟩ (c_X6_scores l dC dI q cI cZ H.size w_53 kp tx td ab be su po st nu li fi ga hh 0 r_53 (by omega)) (cwV 2 hts gX6_hits_X6_scores rfl rfl rfl (by decide +kernel) ⟨Nat.le_of_ble_eq_true rfl, Nat.le_of_ble_eq_true rfl⟩) hK hP hD hS hA rfl rfl rfl rfl hl.1 rfl (Nat.le_of_ble_eq_true rfl) dX6_hits_56 ⟨Nat.zero_le _, Nat.zero_le _⟩ (fun r_56 u_56 H locs hw_56 hP hD hS => ?_)
        obtain ⟨w_56, rfl⟩ : ∃ z, z = u_56 := ⟨_, rfl⟩
        have hP : va_P (dC, dI) vwCl (mW q cI cZ w_56 kp tx td ab be su po st nu li fi ga hh) H := hP
        have hD : va_D A (mW q cI cZ w_56 kp tx td ab be su po st nu li fi ga hh) := hD
        rw [hw_56, let2_mk r_56 w_56] at hF
        have hP9 : va_P (dC, dI) vwCl (mW q cI cZ w_56 kp tx td ab be su po st nu li fi ga hh) H := hP
        exact W.iret (v := r_56) hx hb hr (fun t ht hW => ⟨⟨_, ((w_56, su)), rfl, hO.symm.trans hF, by rw [ht]; exact hP9, va_K.moved hW.alike hK, hD⟩, hS.F ht⟩) hS.2.2 dX6_hits_59
      · rw [if_pos c_36] at hF
        refine lv_aload_n hx hb dX6_hits_39 rfl (lv_at hl 0 rfl) ?_
        refine qc_Vi (C := RX6) (As := []) (rest := []) (ci := 6) (k0 := 0) ⟨hx, hb, hml, hown, hts⟩ (c_X6_no l dC dI q cI cZ H.size w kp tx td ab be su po st nu li fi ga hh  ) (cwV 0 hts gX6_hits_X6_no rfl rfl rfl (by decide +kernel) ⟨Nat.le_of_ble_eq_true rfl, Nat.le_of_ble_eq_true rfl⟩) hK hP hD hS hA rfl rfl rfl rfl hl.1 rfl (Nat.le_of_ble_eq_true rfl) dX6_hits_40 ⟨Nat.zero_le _, Nat.zero_le _⟩ (fun r_40 u_40 H locs hw_40 hP hD hS => ?_)
        obtain ⟨su_40, rfl⟩ : ∃ z, z = u_40 := ⟨_, rfl⟩
        have hP : va_P (dC, dI) vwCl (mW q cI cZ w kp tx td ab be su_40 po st nu li fi ga hh) H := hP
        have hD : va_D A (mW q cI cZ w kp tx td ab be su_40 po st nu li fi ga hh) := hD
        rw [hw_40, let2_mk r_40 su_40] at hF
        have hP9 : va_P (dC, dI) vwCl (mW q cI cZ w kp tx td ab be su_40 po st nu li fi ga hh) H := hP
        exact W.iret (v := r_40) hx hb hr (fun t ht hW => ⟨⟨_, ((w, su_40)), rfl, hO.symm.trans hF, by rw [ht]; exact hP9, va_K.moved hW.alike hK, hD⟩, hS.F ht⟩) hS.2.2 dX6_hits_43
  · rw [if_neg c_9] at hF
    refine lv_aload_n hx hb dX6_hits_12 rfl (lv_at hl 0 rfl) ?_
    refine lv_bipush (v := (-2)) hx hb dX6_hits_13 (by decide) ?_
    refine qc_Vi (C := RX6) (As := [.int ((-2))]) (rest := []) (ci := 6) (k0 := 0) ⟨hx, hb, hml, hown, hts⟩ (c_X6_bad l dC dI q cI cZ s.heap.size w kp tx td ab be su po st nu li fi ga hh ((-2)) ) (cwV 1 hts gX6_hits_X6_bad rfl rfl rfl (by decide +kernel) ⟨Nat.le_of_ble_eq_true rfl, Nat.le_of_ble_eq_true rfl⟩) hK hP hD hS hA rfl rfl rfl rfl hl.1 rfl (Nat.le_of_ble_eq_true rfl) dX6_hits_15 ⟨Nat.zero_le _, Nat.zero_le _⟩ (fun r_15 u_15 H locs hw_15 hP hD hS => ?_)
    obtain ⟨su_15, rfl⟩ : ∃ z, z = u_15 := ⟨_, rfl⟩
    have hP : va_P (dC, dI) vwCl (mW q cI cZ w kp tx td ab be su_15 po st nu li fi ga hh) H := hP
    have hD : va_D A (mW q cI cZ w kp tx td ab be su_15 po st nu li fi ga hh) := hD
    rw [hw_15, let2_mk r_15 su_15] at hF
    have hP9 : va_P (dC, dI) vwCl (mW q cI cZ w kp tx td ab be su_15 po st nu li fi ga hh) H := hP
    exact W.iret (v := r_15) hx hb hr (fun t ht hW => ⟨⟨_, ((w, su_15)), rfl, hO.symm.trans hF, by rw [ht]; exact hP9, va_K.moved hW.alike hK, hD⟩, hS.F ht⟩) hS.2.2 dX6_hits_18
def F_X6_sends (w : Nat → Int32) (su : Nat → Int32) (i : Int32) : Int32 × (Nat → Int32) × (Nat → Int32) := let1 (F_X6_isBatter w i) (fun z_2 => if z_2 = true then (if (w (tN i + 17)) = 0 then (if (w 2) = (nI (tN i)) then let2 (F_X6_no su) (fun r_40 su_40 => (r_40, w, su_40)) else let1 (F_X6_minds w) (fun w_45 => (w 2, (upd w_45 2 (nI (tN i))), su))) else let2 (F_X6_no su) (fun r_40 su_40 => (r_40, w, su_40))) else let2 (F_X6_bad su ((-2))) (fun r_11 su_11 => (r_11, w, su_11)))
set_option maxHeartbeats 4000000 in
set_option maxRecDepth 100000 in
theorem c_X6_sends (l : Launch) (dC : Nat → ClassId) (dI : Nat → Nat → Nat) (q : Nat → Nat) (cI cZ : ClassId) (sz : Nat) (w : Nat → Int32) (kp : Nat → Int32) (tx : Nat → Int32) (td : Int32) (ab : Int64) (be : Int64) (su : Nat → Int32) (po : Int32) (st : Int32) (nu : Int32) (li : Nat → Int32) (fi : Nat → Int32) (ga : Nat → Int32) (hh : Int64) (i : Int32) (pB : inB (w 0) 6) (pU : inB (w 75) 8) : Met l yX6_sends wsX6_sends { frames := 2, cells := 0, slots := 0, locals := 46 } (mPc (dC, dI) vwCl (mT cI cZ) (mW q cI cZ w kp tx td ab be su po st nu li fi ga hh) sz [.ref (q 0), .int i]) (va_Qi (fun (r : Int32) (u : (Nat → Int32) × (Nat → Int32)) => F_X6_sends w su i = (r, u)) (mB (dC, dI) vwCl (mT cI cZ) (va_A (mW q cI cZ w kp tx td ab be su po st nu li fi ga hh) sz) (fun u => mW q cI cZ u.1 kp tx td ab be u.2 po st nu li fi ga hh)) (va_A (mW q cI cZ w kp tx td ab be su po st nu li fi ga hh) sz)) 0 0 (va_A (mW q cI cZ w kp tx td ab be su po st nu li fi ga hh) sz) := by
  refine Met.ofW (cc := cX6_sends) (maxL := 3) (ret := (some .int)) (by decide) rfl ?_
  intro p e s m args below meth c s₁ B hml hv
  obtain ⟨rfl, hsz, hP, hK, hD0⟩ := hv
  have hx := B.exec
  have hb := B.bytes
  have hr := B.returns
  have hts := atoms_spec (ws := wsX6_sends) B.pre
  have hown : s.vm.findClass RX6 = some m.cls := findClass_of_methodNamed B.named
  have hlocks := B.notSynchronized
  subst hsz
  have hD := hD0.self (sz := s.heap.size)
  generalize hAe : va_A (mW q cI cZ w kp tx td ab be su po st nu li fi ga hh) s.heap.size = A at hD ⊢
  have hA : ∀ q : Nat, s.heap.size ≤ q → A q := fun q h => by rw [← hAe]; exact Or.inr h
  have hS : va_S A s.heap s.heap [] := va_S.rf
  have hin : ∀ w ∈ wsX60, w ∈ wsX6_sends := by decide +kernel
  have lk7 := hts (.fieldLink RX6 7 "PostRoundersModel" "w" "[I") (by decide +kernel)
  have hl := lv_entry ([.ref (q 0), .int i]) (n := 3) (Nat.le_of_ble_eq_true rfl)
  rw [lg_entry_eq]
  generalize (lg_sl ([.ref (q 0), .int i]) ++ List.replicate (3 - (lg_sl ([.ref (q 0), .int i])).length) Slot.unset).toArray = ls at hl ⊢
  have hl : lv_has ls 3 [(0, .ref (q 0)), (1, .int i)] := hl
  obtain ⟨OUT, hO⟩ : ∃ z, z = F_X6_sends w su i := ⟨_, rfl⟩
  have hF := hO
  unfold F_X6_sends at hF
  have e_pB := tN_eq pB.1
  have b_pB := pB.2
  have e_pU := tN_eq pU.1
  have b_pU := pU.2
  refine lv_aload_n hx hb dX6_sends_0 rfl (lv_at hl 0 rfl) ?_
  refine lv_iload_n hx hb dX6_sends_1 rfl (lv_at hl 1 rfl) ?_
  refine qc_Vi (C := RX6) (As := [.int i]) (rest := []) (ci := 6) (k0 := 0) ⟨hx, hb, hml, hown, hts⟩ (c_X6_isBatter l dC dI q cI cZ s.heap.size w kp tx td ab be su po st nu li fi ga hh i ) (cwV 1 hts gX6_sends_X6_isBatter rfl rfl rfl (by decide +kernel) ⟨Nat.le_of_ble_eq_true rfl, Nat.le_of_ble_eq_true rfl⟩) hK hP hD hS hA rfl rfl rfl rfl hl.1 rfl (Nat.le_of_ble_eq_true rfl) dX6_sends_2 ⟨Nat.zero_le _, Nat.zero_le _⟩ (fun r_2 u_2 H locs hw_2 hP hD hS => ?_)
  obtain ⟨z_2, hw_2, rfl⟩ := hw_2
  rw [hw_2, let1_mk z_2] at hF
  refine qv_zif_ne (tgt := 15) hx hb dX6_sends_5 (by decide) (fun c_5 => ?_) (fun c_5 => ?_)
  · rw [if_pos c_5] at hF
    obtain ⟨f_i, fb_i⟩ := isBatter_nat hw_2 c_5 pB
    have e_i := tN_eq f_i
    refine lv_aload_n hx hb dX6_sends_15 rfl (lv_at hl 0 rfl) ?_
    refine va_get (D := (dC, dI)) (ci := 6) (v := .ref (q 1)) (C := RX6) (T := TX6) (N := 14) hx hb hts hin hown hK hP 0 rfl rfl 0 (by decide) lk7 (fun _ h9 => h9) rfl dX6_sends_16 ?_
    refine lv_iconst (v := nI 2) hx hb dX6_sends_19 (by decide) ?_
    refine qv_ald (v := w 2) hx hb hK hP 1 0 rfl rfl (by omega) (by decide) (rfl) dX6_sends_20 ?_
    refine lv_istore_n (lv' := [(2, .int (w 2)), (0, .ref (q 0)), (1, .int i)]) hx hb dX6_sends_21 rfl hl (by decide) rfl (fun ls hl => ?_)
    refine lv_aload_n hx hb dX6_sends_22 rfl (lv_at hl 1 rfl) ?_
    refine va_get (D := (dC, dI)) (ci := 6) (v := .ref (q 1)) (C := RX6) (T := TX6) (N := 14) hx hb hts hin hown hK hP 0 rfl rfl 0 (by decide) lk7 (fun _ h9 => h9) rfl dX6_sends_23 ?_
    refine lv_bipush (v := nI 17) hx hb dX6_sends_26 (by decide) ?_
    refine lv_iload_n hx hb dX6_sends_28 rfl (lv_at hl 2 rfl) ?_
    refine qv_top (e_i) ?_
    refine qv_iadd hx hb (tN i + 17) dX6_sends_29 (by omega) ?_
    refine qv_ald (v := w (tN i + 17)) hx hb hK hP 1 0 rfl rfl (by omega) (by decide) (rfl) dX6_sends_30 ?_
    refine lv_if_ne (tgt := 39) hx hb dX6_sends_31 (by decide) (fun c_31 => ?_) (fun c_31 => ?_)
    · rw [if_neg c_31] at hF
      refine lv_aload_n hx hb dX6_sends_39 rfl (lv_at hl 1 rfl) ?_
      refine qc_Vi (C := RX6) (As := []) (rest := []) (ci := 6) (k0 := 0) ⟨hx, hb, hml, hown, hts⟩ (c_X6_no l dC dI q cI cZ H.size w kp tx td ab be su po st nu li fi ga hh  ) (cwV 0 hts gX6_sends_X6_no rfl rfl rfl (by decide +kernel) ⟨Nat.le_of_ble_eq_true rfl, Nat.le_of_ble_eq_true rfl⟩) hK hP hD hS hA rfl rfl rfl rfl hl.1 rfl (Nat.le_of_ble_eq_true rfl) dX6_sends_40 ⟨Nat.zero_le _, Nat.zero_le _⟩ (fun r_40 u_40 H locs hw_40 hP hD hS => ?_)
      obtain ⟨su_40, rfl⟩ : ∃ z, z = u_40 := ⟨_, rfl⟩
      have hP : va_P (dC, dI) vwCl (mW q cI cZ w kp tx td ab be su_40 po st nu li fi ga hh) H := hP
      have hD : va_D A (mW q cI cZ w kp tx td ab be su_40 po st nu li fi ga hh) := hD
      rw [hw_40, let2_mk r_40 su_40] at hF
      have hP9 : va_P (dC, dI) vwCl (mW q cI cZ w kp tx td ab be su_40 po st nu li fi ga hh) H := hP
      exact W.iret (v := r_40) hx hb hr (fun t ht hW => ⟨⟨_, ((w, su_40)), rfl, hO.symm.trans hF, by rw [ht]; exact hP9, va_K.moved hW.alike hK, hD⟩, hS.F ht⟩) hS.2.2 dX6_sends_43
    · rw [if_pos c_31] at hF
      refine lv_iload_n hx hb dX6_sends_34 rfl (lv_at hl 0 rfl) ?_
      refine lv_iload_n hx hb dX6_sends_35 rfl (lv_at hl 2 rfl) ?_
      refine qv_top (e_i) ?_
      refine lv_icmp_ne (tgt := 44) hx hb dX6_sends_36 (by decide) (fun c_36 => ?_) (fun c_36 => ?_)
      · rw [if_neg c_36] at hF
        refine lv_aload_n hx hb dX6_sends_44 rfl (lv_at hl 1 rfl) ?_
        refine qc_Vv (C := RX6) (As := []) (rest := []) (ci := 6) (k0 := 0) ⟨hx, hb, hml, hown, hts⟩ (c_X6_minds l dC dI q cI cZ H.size w kp tx td ab be su po st nu li fi ga hh  (pU : inB (w 75) 8)) (cwV 0 hts gX6_sends_X6_minds rfl rfl rfl (by decide +kernel) ⟨Nat.le_of_ble_eq_true rfl, Nat.le_of_ble_eq_true rfl⟩) hK hP hD hS hA rfl rfl rfl rfl hl.1 rfl (Nat.le_of_ble_eq_true rfl) dX6_sends_45 ⟨Nat.zero_le _, Nat.zero_le _⟩ (fun u_45 H locs hw_45 hP hD hS => ?_)
        obtain ⟨w_45, rfl⟩ : ∃ z, z = u_45 := ⟨_, rfl⟩
        have hP : va_P (dC, dI) vwCl (mW q cI cZ w_45 kp tx td ab be su po st nu li fi ga hh) H := hP
        have hD : va_D A (mW q cI cZ w_45 kp tx td ab be su po st nu li fi ga hh) := hD
        rw [hw_45, let1_mk w_45] at hF
        refine lv_aload_n hx hb dX6_sends_48 rfl (lv_at hl 1 rfl) ?_
        refine va_get (D := (dC, dI)) (ci := 6) (v := .ref (q 1)) (C := RX6) (T := TX6) (N := 14) hx hb hts hin hown hK hP 0 rfl rfl 0 (by decide) lk7 (fun _ h9 => h9) rfl dX6_sends_49 ?_
        refine lv_iconst (v := nI 2) hx hb dX6_sends_52 (by decide) ?_
        refine lv_iload_n hx hb dX6_sends_53 rfl (lv_at hl 2 rfl) ?_
        refine qv_top (e_i) ?_
        refine qv_ast (ws' := mW q cI cZ (upd w_45 2 (nI (tN i))) kp tx td ab be su po st nu li fi ga hh) hx hb hK hP hD hS 1 0 rfl rfl (by omega) (by decide) dX6_sends_54 rfl (fun H locs hP hD hS => ?_)
        refine lv_iload_n hx hb dX6_sends_55 rfl (lv_at hl 0 rfl) ?_
        have hP9 : va_P (dC, dI) vwCl (mW q cI cZ (upd w_45 2 (nI (tN i))) kp tx td ab be su po st nu li fi ga hh) H := hP
        exact W.iret (v := w 2) hx hb hr (fun t ht hW => ⟨⟨_, ((upd w_45 2 (nI (tN i)), su)), rfl, hO.symm.trans hF, by rw [ht]; exact hP9, va_K.moved hW.alike hK, hD⟩, hS.F ht⟩) hS.2.2 dX6_sends_56
      · rw [if_pos c_36] at hF
        refine lv_aload_n hx hb dX6_sends_39 rfl (lv_at hl 1 rfl) ?_
        refine qc_Vi (C := RX6) (As := []) (rest := []) (ci := 6) (k0 := 0) ⟨hx, hb, hml, hown, hts⟩ (c_X6_no l dC dI q cI cZ H.size w kp tx td ab be su po st nu li fi ga hh  ) (cwV 0 hts gX6_sends_X6_no rfl rfl rfl (by decide +kernel) ⟨Nat.le_of_ble_eq_true rfl, Nat.le_of_ble_eq_true rfl⟩) hK hP hD hS hA rfl rfl rfl rfl hl.1 rfl (Nat.le_of_ble_eq_true rfl) dX6_sends_40 ⟨Nat.zero_le _, Nat.zero_le _⟩ (fun r_40 u_40 H locs hw_40 hP hD hS => ?_)
        obtain ⟨su_40, rfl⟩ : ∃ z, z = u_40 := ⟨_, rfl⟩
        have hP : va_P (dC, dI) vwCl (mW q cI cZ w kp tx td ab be su_40 po st nu li fi ga hh) H := hP
        have hD : va_D A (mW q cI cZ w kp tx td ab be su_40 po st nu li fi ga hh) := hD
        rw [hw_40, let2_mk r_40 su_40] at hF
        have hP9 : va_P (dC, dI) vwCl (mW q cI cZ w kp tx td ab be su_40 po st nu li fi ga hh) H := hP
        exact W.iret (v := r_40) hx hb hr (fun t ht hW => ⟨⟨_, ((w, su_40)), rfl, hO.symm.trans hF, by rw [ht]; exact hP9, va_K.moved hW.alike hK, hD⟩, hS.F ht⟩) hS.2.2 dX6_sends_43
  · rw [if_neg c_5] at hF
    refine lv_aload_n hx hb dX6_sends_8 rfl (lv_at hl 0 rfl) ?_
    refine lv_bipush (v := (-2)) hx hb dX6_sends_9 (by decide) ?_
    refine qc_Vi (C := RX6) (As := [.int ((-2))]) (rest := []) (ci := 6) (k0 := 0) ⟨hx, hb, hml, hown, hts⟩ (c_X6_bad l dC dI q cI cZ H.size w kp tx td ab be su po st nu li fi ga hh ((-2)) ) (cwV 1 hts gX6_sends_X6_bad rfl rfl rfl (by decide +kernel) ⟨Nat.le_of_ble_eq_true rfl, Nat.le_of_ble_eq_true rfl⟩) hK hP hD hS hA rfl rfl rfl rfl hl.1 rfl (Nat.le_of_ble_eq_true rfl) dX6_sends_11 ⟨Nat.zero_le _, Nat.zero_le _⟩ (fun r_11 u_11 H locs hw_11 hP hD hS => ?_)
    obtain ⟨su_11, rfl⟩ : ∃ z, z = u_11 := ⟨_, rfl⟩
    have hP : va_P (dC, dI) vwCl (mW q cI cZ w kp tx td ab be su_11 po st nu li fi ga hh) H := hP
    have hD : va_D A (mW q cI cZ w kp tx td ab be su_11 po st nu li fi ga hh) := hD
    rw [hw_11, let2_mk r_11 su_11] at hF
    have hP9 : va_P (dC, dI) vwCl (mW q cI cZ w kp tx td ab be su_11 po st nu li fi ga hh) H := hP
    exact W.iret (v := r_11) hx hb hr (fun t ht hW => ⟨⟨_, ((w, su_11)), rfl, hO.symm.trans hF, by rw [ht]; exact hP9, va_K.moved hW.alike hK, hD⟩, hS.F ht⟩) hS.2.2 dX6_sends_14
def F_X6_row (w : Nat → Int32) (su : Nat → Int32) (k : Int32) (h : Int32) : Int32 × (Nat → Int32) × (Nat → Int32) := if (F_X6_in k.toInt64 0 7) = true then (if (F_X6_in h.toInt64 0 9) = true then (w (tN k + 23), (upd w (tN k + 23) (nI (tN h))), su) else let2 (F_X6_bad su ((-2))) (fun r_27 su_27 => (r_27, w, su_27))) else let2 (F_X6_bad su ((-2))) (fun r_27 su_27 => (r_27, w, su_27))
set_option maxHeartbeats 4000000 in
set_option maxRecDepth 100000 in
theorem c_X6_row (l : Launch) (dC : Nat → ClassId) (dI : Nat → Nat → Nat) (q : Nat → Nat) (cI cZ : ClassId) (sz : Nat) (w : Nat → Int32) (kp : Nat → Int32) (tx : Nat → Int32) (td : Int32) (ab : Int64) (be : Int64) (su : Nat → Int32) (po : Int32) (st : Int32) (nu : Int32) (li : Nat → Int32) (fi : Nat → Int32) (ga : Nat → Int32) (hh : Int64) (k : Int32) (h : Int32) : Met l yX6_row wsX6_row { frames := 1, cells := 0, slots := 0, locals := 25 } (mPc (dC, dI) vwCl (mT cI cZ) (mW q cI cZ w kp tx td ab be su po st nu li fi ga hh) sz [.ref (q 0), .int k, .int h]) (va_Qi (fun (r : Int32) (u : (Nat → Int32) × (Nat → Int32)) => F_X6_row w su k h = (r, u)) (mB (dC, dI) vwCl (mT cI cZ) (va_A (mW q cI cZ w kp tx td ab be su po st nu li fi ga hh) sz) (fun u => mW q cI cZ u.1 kp tx td ab be u.2 po st nu li fi ga hh)) (va_A (mW q cI cZ w kp tx td ab be su po st nu li fi ga hh) sz)) 0 0 (va_A (mW q cI cZ w kp tx td ab be su po st nu li fi ga hh) sz) := by
  refine Met.ofW (cc := cX6_row) (maxL := 4) (ret := (some .int)) (by decide) rfl ?_
  intro p e s m args below meth c s₁ B hml hv
  obtain ⟨rfl, hsz, hP, hK, hD0⟩ := hv
  have hx := B.exec
  have hb := B.bytes
  have hr := B.returns
  have hts := atoms_spec (ws := wsX6_row) B.pre
  have hown : s.vm.findClass RX6 = some m.cls := findClass_of_methodNamed B.named
  have hlocks := B.notSynchronized
  subst hsz
  have hD := hD0.self (sz := s.heap.size)
  generalize hAe : va_A (mW q cI cZ w kp tx td ab be su po st nu li fi ga hh) s.heap.size = A at hD ⊢
  have hA : ∀ q : Nat, s.heap.size ≤ q → A q := fun q h => by rw [← hAe]; exact Or.inr h
  have hS : va_S A s.heap s.heap [] := va_S.rf
  have hin : ∀ w ∈ wsX60, w ∈ wsX6_row := by decide +kernel
  have lk7 := hts (.fieldLink RX6 7 "PostRoundersModel" "w" "[I") (by decide +kernel)
  have hl := lv_entry ([.ref (q 0), .int k, .int h]) (n := 4) (Nat.le_of_ble_eq_true rfl)
  rw [lg_entry_eq]
  generalize (lg_sl ([.ref (q 0), .int k, .int h]) ++ List.replicate (4 - (lg_sl ([.ref (q 0), .int k, .int h])).length) Slot.unset).toArray = ls at hl ⊢
  have hl : lv_has ls 4 [(0, .ref (q 0)), (1, .int k), (2, .int h)] := hl
  obtain ⟨OUT, hO⟩ : ∃ z, z = F_X6_row w su k h := ⟨_, rfl⟩
  have hF := hO
  unfold F_X6_row at hF
  refine lv_iload_n hx hb dX6_row_0 rfl (lv_at hl 1 rfl) ?_
  refine lv_i2l hx hb dX6_row_1 rfl ?_
  refine lv_lconst (v := 0) hx hb dX6_row_2 (by decide) ?_
  refine lv_ldc2 (v := 7) hx hb hown (hts (.constantLong RX6 186 7) (by decide +kernel)) dX6_row_3 ?_
  refine qc_Si (As := [.long k.toInt64, .long 0, .long 7]) (rest := []) ⟨hx, hb, hml, hown, hts⟩ (c_X6_in l k.toInt64 0 7) (va_cwS 3 hts gX6_row_X6_in rfl rfl rfl (by decide +kernel) ⟨Nat.le_of_ble_eq_true rfl, Nat.le_of_ble_eq_true rfl⟩) rfl hl.1 rfl (Nat.le_of_ble_eq_true rfl) dX6_row_6 ⟨Nat.zero_le _, Nat.zero_le _⟩ (fun r_6 hw_6 => ?_)
  subst hw_6
  refine qv_zif_eq (tgt := 24) hx hb dX6_row_9 (by decide) (fun c_9 => ?_) (fun c_9 => ?_)
  · rw [if_neg c_9] at hF
    refine lv_aload_n hx hb dX6_row_24 rfl (lv_at hl 0 rfl) ?_
    refine lv_bipush (v := (-2)) hx hb dX6_row_25 (by decide) ?_
    refine qc_Vi (C := RX6) (As := [.int ((-2))]) (rest := []) (ci := 6) (k0 := 0) ⟨hx, hb, hml, hown, hts⟩ (c_X6_bad l dC dI q cI cZ s.heap.size w kp tx td ab be su po st nu li fi ga hh ((-2)) ) (cwV 1 hts gX6_row_X6_bad rfl rfl rfl (by decide +kernel) ⟨Nat.le_of_ble_eq_true rfl, Nat.le_of_ble_eq_true rfl⟩) hK hP hD hS hA rfl rfl rfl rfl hl.1 rfl (Nat.le_of_ble_eq_true rfl) dX6_row_27 ⟨Nat.zero_le _, Nat.zero_le _⟩ (fun r_27 u_27 H locs hw_27 hP hD hS => ?_)
    obtain ⟨su_27, rfl⟩ : ∃ z, z = u_27 := ⟨_, rfl⟩
    have hP : va_P (dC, dI) vwCl (mW q cI cZ w kp tx td ab be su_27 po st nu li fi ga hh) H := hP
    have hD : va_D A (mW q cI cZ w kp tx td ab be su_27 po st nu li fi ga hh) := hD
    rw [hw_27, let2_mk r_27 su_27] at hF
    have hP9 : va_P (dC, dI) vwCl (mW q cI cZ w kp tx td ab be su_27 po st nu li fi ga hh) H := hP
    exact W.iret (v := r_27) hx hb hr (fun t ht hW => ⟨⟨_, ((w, su_27)), rfl, hO.symm.trans hF, by rw [ht]; exact hP9, va_K.moved hW.alike hK, hD⟩, hS.F ht⟩) hS.2.2 dX6_row_30
  · rw [if_pos c_9] at hF
    obtain ⟨f_k, fa_k, fb_k⟩ := in_nat (lo := 0) (hi := 7) rfl rfl (by decide) (by decide) c_9
    have e_k := tN_eq f_k
    refine lv_iload_n hx hb dX6_row_12 rfl (lv_at hl 2 rfl) ?_
    refine lv_i2l hx hb dX6_row_13 rfl ?_
    refine lv_lconst (v := 0) hx hb dX6_row_14 (by decide) ?_
    refine lv_ldc2 (v := 9) hx hb hown (hts (.constantLong RX6 175 9) (by decide +kernel)) dX6_row_15 ?_
    refine qc_Si (As := [.long h.toInt64, .long 0, .long 9]) (rest := []) ⟨hx, hb, hml, hown, hts⟩ (c_X6_in l h.toInt64 0 9) (va_cwS 3 hts gX6_row_X6_in rfl rfl rfl (by decide +kernel) ⟨Nat.le_of_ble_eq_true rfl, Nat.le_of_ble_eq_true rfl⟩) rfl hl.1 rfl (Nat.le_of_ble_eq_true rfl) dX6_row_18 ⟨Nat.zero_le _, Nat.zero_le _⟩ (fun r_18 hw_18 => ?_)
    subst hw_18
    refine qv_zif_ne (tgt := 31) hx hb dX6_row_21 (by decide) (fun c_21 => ?_) (fun c_21 => ?_)
    · rw [if_pos c_21] at hF
      obtain ⟨f_h, fa_h, fb_h⟩ := in_nat (lo := 0) (hi := 9) rfl rfl (by decide) (by decide) c_21
      have e_h := tN_eq f_h
      refine lv_aload_n hx hb dX6_row_31 rfl (lv_at hl 0 rfl) ?_
      refine va_get (D := (dC, dI)) (ci := 6) (v := .ref (q 1)) (C := RX6) (T := TX6) (N := 14) hx hb hts hin hown hK hP 0 rfl rfl 0 (by decide) lk7 (fun _ h9 => h9) rfl dX6_row_32 ?_
      refine lv_bipush (v := nI 23) hx hb dX6_row_35 (by decide) ?_
      refine lv_iload_n hx hb dX6_row_37 rfl (lv_at hl 1 rfl) ?_
      refine qv_top (e_k) ?_
      refine qv_iadd hx hb (tN k + 23) dX6_row_38 (by omega) ?_
      refine qv_ald (v := w (tN k + 23)) hx hb hK hP 1 0 rfl rfl (by omega) (by decide) (rfl) dX6_row_39 ?_
      refine lv_istore_n (lv' := [(3, .int (w (tN k + 23))), (0, .ref (q 0)), (1, .int k), (2, .int h)]) hx hb dX6_row_40 rfl hl (by decide) rfl (fun ls hl => ?_)
      refine lv_aload_n hx hb dX6_row_41 rfl (lv_at hl 1 rfl) ?_
      refine va_get (D := (dC, dI)) (ci := 6) (v := .ref (q 1)) (C := RX6) (T := TX6) (N := 14) hx hb hts hin hown hK hP 0 rfl rfl 0 (by decide) lk7 (fun _ h9 => h9) rfl dX6_row_42 ?_
      refine lv_bipush (v := nI 23) hx hb dX6_row_45 (by decide) ?_
      refine lv_iload_n hx hb dX6_row_47 rfl (lv_at hl 2 rfl) ?_
      refine qv_top (e_k) ?_
      refine qv_iadd hx hb (tN k + 23) dX6_row_48 (by omega) ?_
      refine lv_iload_n hx hb dX6_row_49 rfl (lv_at hl 3 rfl) ?_
      refine qv_top (e_h) ?_
      refine qv_ast (ws' := mW q cI cZ (upd w (tN k + 23) (nI (tN h))) kp tx td ab be su po st nu li fi ga hh) hx hb hK hP hD hS 1 0 rfl rfl (by omega) (by decide) dX6_row_50 rfl (fun H locs hP hD hS => ?_)
      refine lv_iload_n hx hb dX6_row_51 rfl (lv_at hl 0 rfl) ?_
      have hP9 : va_P (dC, dI) vwCl (mW q cI cZ (upd w (tN k + 23) (nI (tN h))) kp tx td ab be su po st nu li fi ga hh) H := hP
      exact W.iret (v := w (tN k + 23)) hx hb hr (fun t ht hW => ⟨⟨_, ((upd w (tN k + 23) (nI (tN h)), su)), rfl, hO.symm.trans hF, by rw [ht]; exact hP9, va_K.moved hW.alike hK, hD⟩, hS.F ht⟩) hS.2.2 dX6_row_52
    · rw [if_neg c_21] at hF
      refine lv_aload_n hx hb dX6_row_24 rfl (lv_at hl 0 rfl) ?_
      refine lv_bipush (v := (-2)) hx hb dX6_row_25 (by decide) ?_
      refine qc_Vi (C := RX6) (As := [.int ((-2))]) (rest := []) (ci := 6) (k0 := 0) ⟨hx, hb, hml, hown, hts⟩ (c_X6_bad l dC dI q cI cZ s.heap.size w kp tx td ab be su po st nu li fi ga hh ((-2)) ) (cwV 1 hts gX6_row_X6_bad rfl rfl rfl (by decide +kernel) ⟨Nat.le_of_ble_eq_true rfl, Nat.le_of_ble_eq_true rfl⟩) hK hP hD hS hA rfl rfl rfl rfl hl.1 rfl (Nat.le_of_ble_eq_true rfl) dX6_row_27 ⟨Nat.zero_le _, Nat.zero_le _⟩ (fun r_27 u_27 H locs hw_27 hP hD hS => ?_)
      obtain ⟨su_27, rfl⟩ : ∃ z, z = u_27 := ⟨_, rfl⟩
      have hP : va_P (dC, dI) vwCl (mW q cI cZ w kp tx td ab be su_27 po st nu li fi ga hh) H := hP
      have hD : va_D A (mW q cI cZ w kp tx td ab be su_27 po st nu li fi ga hh) := hD
      rw [hw_27, let2_mk r_27 su_27] at hF
      have hP9 : va_P (dC, dI) vwCl (mW q cI cZ w kp tx td ab be su_27 po st nu li fi ga hh) H := hP
      exact W.iret (v := r_27) hx hb hr (fun t ht hW => ⟨⟨_, ((w, su_27)), rfl, hO.symm.trans hF, by rw [ht]; exact hP9, va_K.moved hW.alike hK, hD⟩, hS.F ht⟩) hS.2.2 dX6_row_30
def F_X6_undo_L82 : Nat → (Nat → Int32) → (Nat) → (Nat → Int32) → (Nat) × (Nat → Int32)
  | 0, _, i, w2 => (i, w2)
  | n_82 + 1, w, i, w2 => if 6 ≤ i then (i, w2) else F_X6_undo_L82 n_82 w (i + 1) (upd w2 (i + 17) (w2 (9 * (tN (w 75) - 1) + i + 79)))
def F_X6_undo (w : Nat → Int32) (su : Nat → Int32) : Int32 × (Nat → Int32) × (Nat → Int32) := if tN (w 75) = 0 then let2 (F_X6_no su) (fun r_11 su_11 => (r_11, w, su_11)) else let2 (F_X6_undo_L82 7 w 0 (upd (upd (upd (upd w 75 (nI ((tN (w 75) - 1)))) 2 (w (9 * (tN (w 75) - 1) + 76))) 3 (w (9 * (tN (w 75) - 1) + 77))) 4 (w (9 * (tN (w 75) - 1) + 78)))) (fun i w2 => (w2 4, w2, su))
set_option maxHeartbeats 4000000 in
set_option maxRecDepth 100000 in
theorem c_X6_undo (l : Launch) (dC : Nat → ClassId) (dI : Nat → Nat → Nat) (q : Nat → Nat) (cI cZ : ClassId) (sz : Nat) (w : Nat → Int32) (kp : Nat → Int32) (tx : Nat → Int32) (td : Int32) (ab : Int64) (be : Int64) (su : Nat → Int32) (po : Int32) (st : Int32) (nu : Int32) (li : Nat → Int32) (fi : Nat → Int32) (ga : Nat → Int32) (hh : Int64) (pU : inB (w 75) 8) : Met l yX6_undo wsX6_undo { frames := 1, cells := 0, slots := 0, locals := 20 } (mPc (dC, dI) vwCl (mT cI cZ) (mW q cI cZ w kp tx td ab be su po st nu li fi ga hh) sz [.ref (q 0)]) (va_Qi (fun (r : Int32) (u : (Nat → Int32) × (Nat → Int32)) => F_X6_undo w su = (r, u)) (mB (dC, dI) vwCl (mT cI cZ) (va_A (mW q cI cZ w kp tx td ab be su po st nu li fi ga hh) sz) (fun u => mW q cI cZ u.1 kp tx td ab be u.2 po st nu li fi ga hh)) (va_A (mW q cI cZ w kp tx td ab be su po st nu li fi ga hh) sz)) 0 0 (va_A (mW q cI cZ w kp tx td ab be su po st nu li fi ga hh) sz) := by
  refine Met.ofW (cc := cX6_undo) (maxL := 3) (ret := (some .int)) (by decide) rfl ?_
  intro p e s m args below meth c s₁ B hml hv
  obtain ⟨rfl, hsz, hP, hK, hD0⟩ := hv
  have hx := B.exec
  have hb := B.bytes
  have hr := B.returns
  have hts := atoms_spec (ws := wsX6_undo) B.pre
  have hown : s.vm.findClass RX6 = some m.cls := findClass_of_methodNamed B.named
  have hlocks := B.notSynchronized
  subst hsz
  have hD := hD0.self (sz := s.heap.size)
  generalize hAe : va_A (mW q cI cZ w kp tx td ab be su po st nu li fi ga hh) s.heap.size = A at hD ⊢
  have hA : ∀ q : Nat, s.heap.size ≤ q → A q := fun q h => by rw [← hAe]; exact Or.inr h
  have hS : va_S A s.heap s.heap [] := va_S.rf
  have hin : ∀ w ∈ wsX60, w ∈ wsX6_undo := by decide +kernel
  have lk7 := hts (.fieldLink RX6 7 "PostRoundersModel" "w" "[I") (by decide +kernel)
  have hl := lv_entry ([.ref (q 0)]) (n := 3) (Nat.le_of_ble_eq_true rfl)
  rw [lg_entry_eq]
  generalize (lg_sl ([.ref (q 0)]) ++ List.replicate (3 - (lg_sl ([.ref (q 0)])).length) Slot.unset).toArray = ls at hl ⊢
  have hl : lv_has ls 3 [(0, .ref (q 0))] := hl
  obtain ⟨OUT, hO⟩ : ∃ z, z = F_X6_undo w su := ⟨_, rfl⟩
  have hF := hO
  unfold F_X6_undo at hF
  have e_pU := tN_eq pU.1
  have b_pU := pU.2
  refine lv_aload_n hx hb dX6_undo_0 rfl (lv_at hl 0 rfl) ?_
  refine va_get (D := (dC, dI)) (ci := 6) (v := .ref (q 1)) (C := RX6) (T := TX6) (N := 14) hx hb hts hin hown hK hP 0 rfl rfl 0 (by decide) lk7 (fun _ h9 => h9) rfl dX6_undo_1 ?_
  refine lv_bipush (v := nI 75) hx hb dX6_undo_4 (by decide) ?_
  refine qv_ald (v := w 75) hx hb hK hP 1 0 rfl rfl (by omega) (by decide) (rfl) dX6_undo_6 ?_
  refine qv_top (e_pU) ?_
  refine qv_if_ne (tgt := 15) hx hb dX6_undo_7 (by decide) (by omega) (fun c_7 => ?_) (fun c_7 => ?_)
  · rw [if_neg c_7] at hF
    refine lv_aload_n hx hb dX6_undo_15 rfl (lv_at hl 0 rfl) ?_
    refine va_get (D := (dC, dI)) (ci := 6) (v := .ref (q 1)) (C := RX6) (T := TX6) (N := 14) hx hb hts hin hown hK hP 0 rfl rfl 0 (by decide) lk7 (fun _ h9 => h9) rfl dX6_undo_16 ?_
    refine lv_bipush (v := nI 75) hx hb dX6_undo_19 (by decide) ?_
    refine lv_dup2_11 hx hb dX6_undo_21 rfl rfl ?_
    refine qv_ald (v := w 75) hx hb hK hP 1 0 rfl rfl (by omega) (by decide) (rfl) dX6_undo_22 ?_
    refine qv_top (e_pU) ?_
    refine lv_iconst (v := nI 1) hx hb dX6_undo_23 (by decide) ?_
    refine qv_isub hx hb (tN (w 75) - 1) dX6_undo_24 (by omega) ?_
    refine qv_ast (ws' := mW q cI cZ (upd w 75 (nI ((tN (w 75) - 1)))) kp tx td ab be su po st nu li fi ga hh) hx hb hK hP hD hS 1 0 rfl rfl (by omega) (by decide) dX6_undo_25 rfl (fun H locs hP hD hS => ?_)
    refine lv_bipush (v := nI 76) hx hb dX6_undo_26 (by decide) ?_
    refine lv_bipush (v := nI 9) hx hb dX6_undo_28 (by decide) ?_
    refine lv_aload_n hx hb dX6_undo_30 rfl (lv_at hl 0 rfl) ?_
    refine va_get (D := (dC, dI)) (ci := 6) (v := .ref (q 1)) (C := RX6) (T := TX6) (N := 14) hx hb hts hin hown hK hP 0 rfl rfl 0 (by decide) lk7 (fun _ h9 => h9) rfl dX6_undo_31 ?_
    refine lv_bipush (v := nI 75) hx hb dX6_undo_34 (by decide) ?_
    refine qv_ald (v := nI ((tN (w 75) - 1))) hx hb hK hP 1 0 rfl rfl (by omega) (by decide) (pk_us) dX6_undo_36 ?_
    refine qv_imul hx hb (9 * (tN (w 75) - 1)) dX6_undo_37 (by omega) ?_
    refine qv_iadd hx hb (9 * (tN (w 75) - 1) + 76) dX6_undo_38 (by omega) ?_
    refine lv_istore_n (lv' := [(1, .int (nI (9 * (tN (w 75) - 1) + 76))), (0, .ref (q 0))]) hx hb dX6_undo_39 rfl hl (by decide) rfl (fun ls hl => ?_)
    refine lv_aload_n hx hb dX6_undo_40 rfl (lv_at hl 1 rfl) ?_
    refine va_get (D := (dC, dI)) (ci := 6) (v := .ref (q 1)) (C := RX6) (T := TX6) (N := 14) hx hb hts hin hown hK hP 0 rfl rfl 0 (by decide) lk7 (fun _ h9 => h9) rfl dX6_undo_41 ?_
    refine lv_iconst (v := nI 2) hx hb dX6_undo_44 (by decide) ?_
    refine lv_aload_n hx hb dX6_undo_45 rfl (lv_at hl 1 rfl) ?_
    refine va_get (D := (dC, dI)) (ci := 6) (v := .ref (q 1)) (C := RX6) (T := TX6) (N := 14) hx hb hts hin hown hK hP 0 rfl rfl 0 (by decide) lk7 (fun _ h9 => h9) rfl dX6_undo_46 ?_
    refine lv_iload_n hx hb dX6_undo_49 rfl (lv_at hl 0 rfl) ?_
    refine qv_ald (v := w (9 * (tN (w 75) - 1) + 76)) hx hb hK hP 1 0 rfl rfl (by omega) (by decide) (pk_un (by omega)) dX6_undo_50 ?_
    refine qv_ast (ws' := mW q cI cZ (upd (upd w 75 (nI ((tN (w 75) - 1)))) 2 (w (9 * (tN (w 75) - 1) + 76))) kp tx td ab be su po st nu li fi ga hh) hx hb hK hP hD hS 1 0 rfl rfl (by omega) (by decide) dX6_undo_51 rfl (fun H locs hP hD hS => ?_)
    refine lv_aload_n hx hb dX6_undo_52 rfl (lv_at hl 1 rfl) ?_
    refine va_get (D := (dC, dI)) (ci := 6) (v := .ref (q 1)) (C := RX6) (T := TX6) (N := 14) hx hb hts hin hown hK hP 0 rfl rfl 0 (by decide) lk7 (fun _ h9 => h9) rfl dX6_undo_53 ?_
    refine lv_iconst (v := nI 3) hx hb dX6_undo_56 (by decide) ?_
    refine lv_aload_n hx hb dX6_undo_57 rfl (lv_at hl 1 rfl) ?_
    refine va_get (D := (dC, dI)) (ci := 6) (v := .ref (q 1)) (C := RX6) (T := TX6) (N := 14) hx hb hts hin hown hK hP 0 rfl rfl 0 (by decide) lk7 (fun _ h9 => h9) rfl dX6_undo_58 ?_
    refine lv_iload_n hx hb dX6_undo_61 rfl (lv_at hl 0 rfl) ?_
    refine lv_iconst (v := nI 1) hx hb dX6_undo_62 (by decide) ?_
    refine qv_iadd hx hb (9 * (tN (w 75) - 1) + 77) dX6_undo_63 (by omega) ?_
    refine qv_ald (v := w (9 * (tN (w 75) - 1) + 77)) hx hb hK hP 1 0 rfl rfl (by omega) (by decide) ((pk_un (by omega)).trans (pk_un (by omega))) dX6_undo_64 ?_
    refine qv_ast (ws' := mW q cI cZ (upd (upd (upd w 75 (nI ((tN (w 75) - 1)))) 2 (w (9 * (tN (w 75) - 1) + 76))) 3 (w (9 * (tN (w 75) - 1) + 77))) kp tx td ab be su po st nu li fi ga hh) hx hb hK hP hD hS 1 0 rfl rfl (by omega) (by decide) dX6_undo_65 rfl (fun H locs hP hD hS => ?_)
    refine lv_aload_n hx hb dX6_undo_66 rfl (lv_at hl 1 rfl) ?_
    refine va_get (D := (dC, dI)) (ci := 6) (v := .ref (q 1)) (C := RX6) (T := TX6) (N := 14) hx hb hts hin hown hK hP 0 rfl rfl 0 (by decide) lk7 (fun _ h9 => h9) rfl dX6_undo_67 ?_
    refine lv_iconst (v := nI 4) hx hb dX6_undo_70 (by decide) ?_
    refine lv_aload_n hx hb dX6_undo_71 rfl (lv_at hl 1 rfl) ?_
    refine va_get (D := (dC, dI)) (ci := 6) (v := .ref (q 1)) (C := RX6) (T := TX6) (N := 14) hx hb hts hin hown hK hP 0 rfl rfl 0 (by decide) lk7 (fun _ h9 => h9) rfl dX6_undo_72 ?_
    refine lv_iload_n hx hb dX6_undo_75 rfl (lv_at hl 0 rfl) ?_
    refine lv_iconst (v := nI 2) hx hb dX6_undo_76 (by decide) ?_
    refine qv_iadd hx hb (9 * (tN (w 75) - 1) + 78) dX6_undo_77 (by omega) ?_
    refine qv_ald (v := w (9 * (tN (w 75) - 1) + 78)) hx hb hK hP 1 0 rfl rfl (by omega) (by decide) ((pk_un (by omega)).trans ((pk_un (by omega)).trans (pk_un (by omega)))) dX6_undo_78 ?_
    refine qv_ast (ws' := mW q cI cZ (upd (upd (upd (upd w 75 (nI ((tN (w 75) - 1)))) 2 (w (9 * (tN (w 75) - 1) + 76))) 3 (w (9 * (tN (w 75) - 1) + 77))) 4 (w (9 * (tN (w 75) - 1) + 78))) kp tx td ab be su po st nu li fi ga hh) hx hb hK hP hD hS 1 0 rfl rfl (by omega) (by decide) dX6_undo_79 rfl (fun H locs hP hD hS => ?_)
    refine lv_iconst (v := nI 0) hx hb dX6_undo_80 (by decide) ?_
    refine lv_istore_n (lv' := [(2, .int (nI 0)), (1, .int (nI (9 * (tN (w 75) - 1) + 76))), (0, .ref (q 0))]) hx hb dX6_undo_81 rfl hl (by decide) rfl (fun ls hl => ?_)
    have L_82 : ∀ (n_82 : Nat) (i : Nat) (w2 : Nat → Int32) (H : Heap) (locs : List Loc), i ≤ 6 → 6 - i < n_82 → va_P (dC, dI) vwCl (mW q cI cZ w2 kp tx td ab be su po st nu li fi ga hh) H → va_D A (mW q cI cZ w2 kp tx td ab be su po st nu li fi ga hh) → va_S A s.heap H locs → ∀ (ls : Array Slot), lv_has ls 3 [(2, .int (nI i)), (1, .int (nI (9 * (tN (w 75) - 1) + 76))), (0, .ref (q 0))] → OUT = let2 (F_X6_undo_L82 n_82 w i w2) (fun i w2 => (w2 4, w2, su)) → W p l e (headSpec wsX6_undo { frames := 1, cells := 0, slots := 0, locals := 20 }).room s m ([.ref (q 0)] : List Value).toArray below meth c H locs 0 0 (MQ below (va_Qi (fun (r : Int32) (u : (Nat → Int32) × (Nat → Int32)) => F_X6_undo w su = (r, u)) (mB (dC, dI) vwCl (mT cI cZ) A (fun u => mW q cI cZ u.1 kp tx td ab be u.2 po st nu li fi ga hh)) A) ([.ref (q 0)] : List Value).toArray s 0 0 A) (F0 m 82 ls []) := by
      intro n_82
      induction n_82 with
      | zero => intro i w2 H locs j0 hmu; exact absurd hmu (Nat.not_lt_zero _)
      | succ n_82 ih_82 =>
        intro i w2 H locs j0 hmu_82 hP hD hS ls hl hF
        rw [F_X6_undo_L82] at hF
        refine lv_iload_n hx hb dX6_undo_82 rfl (lv_at hl 0 rfl) ?_
        refine lv_bipush (v := nI 6) hx hb dX6_undo_83 (by decide) ?_
        refine qv_icmp_ge (tgt := 113) hx hb dX6_undo_85 (by decide) (by omega) (by omega) (fun c_85 => ?_) (fun c_85 => ?_)
        · rw [if_pos c_85] at hF
          rw [let2_mk (i : Nat) (w2 : Nat → Int32)] at hF
          refine lv_aload_n hx hb dX6_undo_113 rfl (lv_at hl 2 rfl) ?_
          refine va_get (D := (dC, dI)) (ci := 6) (v := .ref (q 1)) (C := RX6) (T := TX6) (N := 14) hx hb hts hin hown hK hP 0 rfl rfl 0 (by decide) lk7 (fun _ h9 => h9) rfl dX6_undo_114 ?_
          refine lv_iconst (v := nI 4) hx hb dX6_undo_117 (by decide) ?_
          refine qv_ald (v := w2 4) hx hb hK hP 1 0 rfl rfl (by omega) (by decide) (rfl) dX6_undo_118 ?_
          have hP9 : va_P (dC, dI) vwCl (mW q cI cZ w2 kp tx td ab be su po st nu li fi ga hh) H := hP
          exact W.iret (v := w2 4) hx hb hr (fun t ht hW => ⟨⟨_, ((w2, su)), rfl, hO.symm.trans hF, by rw [ht]; exact hP9, va_K.moved hW.alike hK, hD⟩, hS.F ht⟩) hS.2.2 dX6_undo_119
        · rw [if_neg c_85] at hF
          refine lv_aload_n hx hb dX6_undo_88 rfl (lv_at hl 2 rfl) ?_
          refine va_get (D := (dC, dI)) (ci := 6) (v := .ref (q 1)) (C := RX6) (T := TX6) (N := 14) hx hb hts hin hown hK hP 0 rfl rfl 0 (by decide) lk7 (fun _ h9 => h9) rfl dX6_undo_89 ?_
          refine lv_bipush (v := nI 17) hx hb dX6_undo_92 (by decide) ?_
          refine lv_iload_n hx hb dX6_undo_94 rfl (lv_at hl 0 rfl) ?_
          refine qv_iadd hx hb (i + 17) dX6_undo_95 (by omega) ?_
          refine lv_aload_n hx hb dX6_undo_96 rfl (lv_at hl 2 rfl) ?_
          refine va_get (D := (dC, dI)) (ci := 6) (v := .ref (q 1)) (C := RX6) (T := TX6) (N := 14) hx hb hts hin hown hK hP 0 rfl rfl 0 (by decide) lk7 (fun _ h9 => h9) rfl dX6_undo_97 ?_
          refine lv_iload_n hx hb dX6_undo_100 rfl (lv_at hl 1 rfl) ?_
          refine lv_iconst (v := nI 3) hx hb dX6_undo_101 (by decide) ?_
          refine qv_iadd hx hb (9 * (tN (w 75) - 1) + 79) dX6_undo_102 (by omega) ?_
          refine lv_iload_n hx hb dX6_undo_103 rfl (lv_at hl 0 rfl) ?_
          refine qv_iadd hx hb (9 * (tN (w 75) - 1) + i + 79) dX6_undo_104 (by omega) ?_
          refine qv_ald (v := w2 (9 * (tN (w 75) - 1) + i + 79)) hx hb hK hP 1 0 rfl rfl (by omega) (by decide) (rfl) dX6_undo_105 ?_
          refine qv_ast (ws' := mW q cI cZ (upd w2 (i + 17) (w2 (9 * (tN (w 75) - 1) + i + 79))) kp tx td ab be su po st nu li fi ga hh) hx hb hK hP hD hS 1 0 rfl rfl (by omega) (by decide) dX6_undo_106 rfl (fun H locs hP hD hS => ?_)
          refine lv_iinc (v := nI (i + 1)) (lv' := [(2, .int (nI (i + 1))), (1, .int (nI (9 * (tN (w 75) - 1) + 76))), (0, .ref (q 0))]) hx hb dX6_undo_107 hl (k := 0) rfl (qn_inc (c := 1) rfl (by omega)) (by decide) rfl (fun ls hl => ?_)
          refine lv_goto (tgt := 82) hx hb dX6_undo_110 (by decide) ?_
          exact ih_82 (i + 1) (upd w2 (i + 17) (w2 (9 * (tN (w 75) - 1) + i + 79))) H locs (by omega) (by omega) hP hD hS ls (lv_sub hl [0, 1, 2] rfl) hF
    exact L_82 7 0 (upd (upd (upd (upd w 75 (nI ((tN (w 75) - 1)))) 2 (w (9 * (tN (w 75) - 1) + 76))) 3 (w (9 * (tN (w 75) - 1) + 77))) 4 (w (9 * (tN (w 75) - 1) + 78))) H locs (by omega) (by omega) hP hD hS ls (lv_sub hl [0, 1, 2] rfl) hF
  · rw [if_pos c_7] at hF
    refine lv_aload_n hx hb dX6_undo_10 rfl (lv_at hl 0 rfl) ?_
    refine qc_Vi (C := RX6) (As := []) (rest := []) (ci := 6) (k0 := 0) ⟨hx, hb, hml, hown, hts⟩ (c_X6_no l dC dI q cI cZ s.heap.size w kp tx td ab be su po st nu li fi ga hh  ) (cwV 0 hts gX6_undo_X6_no rfl rfl rfl (by decide +kernel) ⟨Nat.le_of_ble_eq_true rfl, Nat.le_of_ble_eq_true rfl⟩) hK hP hD hS hA rfl rfl rfl rfl hl.1 rfl (Nat.le_of_ble_eq_true rfl) dX6_undo_11 ⟨Nat.zero_le _, Nat.zero_le _⟩ (fun r_11 u_11 H locs hw_11 hP hD hS => ?_)
    obtain ⟨su_11, rfl⟩ : ∃ z, z = u_11 := ⟨_, rfl⟩
    have hP : va_P (dC, dI) vwCl (mW q cI cZ w kp tx td ab be su_11 po st nu li fi ga hh) H := hP
    have hD : va_D A (mW q cI cZ w kp tx td ab be su_11 po st nu li fi ga hh) := hD
    rw [hw_11, let2_mk r_11 su_11] at hF
    have hP9 : va_P (dC, dI) vwCl (mW q cI cZ w kp tx td ab be su_11 po st nu li fi ga hh) H := hP
    exact W.iret (v := r_11) hx hb hr (fun t ht hW => ⟨⟨_, ((w, su_11)), rfl, hO.symm.trans hF, by rw [ht]; exact hP9, va_K.moved hW.alike hK, hD⟩, hS.F ht⟩) hS.2.2 dX6_undo_14
def F_X6_of (w : Nat → Int32) (su : Nat → Int32) (i : Int32) (wh : Int32) : Int32 × (Nat → Int32) := let1 (F_X6_isBatter w i) (fun z_2 => if z_2 = true then (if (F_X6_in wh.toInt64 0 2) = true then (w (6 * tN wh + tN i + 5), su) else let2 (F_X6_bad su ((-2))) (fun r_23 su_23 => (r_23, su_23))) else let2 (F_X6_bad su ((-2))) (fun r_23 su_23 => (r_23, su_23)))
set_option maxHeartbeats 4000000 in
set_option maxRecDepth 100000 in
theorem c_X6_of (l : Launch) (dC : Nat → ClassId) (dI : Nat → Nat → Nat) (q : Nat → Nat) (cI cZ : ClassId) (sz : Nat) (w : Nat → Int32) (kp : Nat → Int32) (tx : Nat → Int32) (td : Int32) (ab : Int64) (be : Int64) (su : Nat → Int32) (po : Int32) (st : Int32) (nu : Int32) (li : Nat → Int32) (fi : Nat → Int32) (ga : Nat → Int32) (hh : Int64) (i : Int32) (wh : Int32) (pB : inB (w 0) 6) : Met l yX6_of wsX6_of { frames := 2, cells := 0, slots := 0, locals := 46 } (mPc (dC, dI) vwCl (mT cI cZ) (mW q cI cZ w kp tx td ab be su po st nu li fi ga hh) sz [.ref (q 0), .int i, .int wh]) (va_Qi (fun (r : Int32) (u : (Nat → Int32)) => F_X6_of w su i wh = (r, u)) (mB (dC, dI) vwCl (mT cI cZ) (va_A (mW q cI cZ w kp tx td ab be su po st nu li fi ga hh) sz) (fun u => mW q cI cZ w kp tx td ab be u po st nu li fi ga hh)) (va_A (mW q cI cZ w kp tx td ab be su po st nu li fi ga hh) sz)) 0 0 (va_A (mW q cI cZ w kp tx td ab be su po st nu li fi ga hh) sz) := by
  refine Met.ofW (cc := cX6_of) (maxL := 3) (ret := (some .int)) (by decide) rfl ?_
  intro p e s m args below meth c s₁ B hml hv
  obtain ⟨rfl, hsz, hP, hK, hD0⟩ := hv
  have hx := B.exec
  have hb := B.bytes
  have hr := B.returns
  have hts := atoms_spec (ws := wsX6_of) B.pre
  have hown : s.vm.findClass RX6 = some m.cls := findClass_of_methodNamed B.named
  have hlocks := B.notSynchronized
  subst hsz
  have hD := hD0.self (sz := s.heap.size)
  generalize hAe : va_A (mW q cI cZ w kp tx td ab be su po st nu li fi ga hh) s.heap.size = A at hD ⊢
  have hA : ∀ q : Nat, s.heap.size ≤ q → A q := fun q h => by rw [← hAe]; exact Or.inr h
  have hS : va_S A s.heap s.heap [] := va_S.rf
  have hin : ∀ w ∈ wsX60, w ∈ wsX6_of := by decide +kernel
  have lk7 := hts (.fieldLink RX6 7 "PostRoundersModel" "w" "[I") (by decide +kernel)
  have hl := lv_entry ([.ref (q 0), .int i, .int wh]) (n := 3) (Nat.le_of_ble_eq_true rfl)
  rw [lg_entry_eq]
  generalize (lg_sl ([.ref (q 0), .int i, .int wh]) ++ List.replicate (3 - (lg_sl ([.ref (q 0), .int i, .int wh])).length) Slot.unset).toArray = ls at hl ⊢
  have hl : lv_has ls 3 [(0, .ref (q 0)), (1, .int i), (2, .int wh)] := hl
  obtain ⟨OUT, hO⟩ : ∃ z, z = F_X6_of w su i wh := ⟨_, rfl⟩
  have hF := hO
  unfold F_X6_of at hF
  have e_pB := tN_eq pB.1
  have b_pB := pB.2
  refine lv_aload_n hx hb dX6_of_0 rfl (lv_at hl 0 rfl) ?_
  refine lv_iload_n hx hb dX6_of_1 rfl (lv_at hl 1 rfl) ?_
  refine qc_Vi (C := RX6) (As := [.int i]) (rest := []) (ci := 6) (k0 := 0) ⟨hx, hb, hml, hown, hts⟩ (c_X6_isBatter l dC dI q cI cZ s.heap.size w kp tx td ab be su po st nu li fi ga hh i ) (cwV 1 hts gX6_of_X6_isBatter rfl rfl rfl (by decide +kernel) ⟨Nat.le_of_ble_eq_true rfl, Nat.le_of_ble_eq_true rfl⟩) hK hP hD hS hA rfl rfl rfl rfl hl.1 rfl (Nat.le_of_ble_eq_true rfl) dX6_of_2 ⟨Nat.zero_le _, Nat.zero_le _⟩ (fun r_2 u_2 H locs hw_2 hP hD hS => ?_)
  obtain ⟨z_2, hw_2, rfl⟩ := hw_2
  rw [hw_2, let1_mk z_2] at hF
  refine qv_zif_eq (tgt := 20) hx hb dX6_of_5 (by decide) (fun c_5 => ?_) (fun c_5 => ?_)
  · rw [if_neg c_5] at hF
    refine lv_aload_n hx hb dX6_of_20 rfl (lv_at hl 0 rfl) ?_
    refine lv_bipush (v := (-2)) hx hb dX6_of_21 (by decide) ?_
    refine qc_Vi (C := RX6) (As := [.int ((-2))]) (rest := []) (ci := 6) (k0 := 0) ⟨hx, hb, hml, hown, hts⟩ (c_X6_bad l dC dI q cI cZ H.size w kp tx td ab be su po st nu li fi ga hh ((-2)) ) (cwV 1 hts gX6_of_X6_bad rfl rfl rfl (by decide +kernel) ⟨Nat.le_of_ble_eq_true rfl, Nat.le_of_ble_eq_true rfl⟩) hK hP hD hS hA rfl rfl rfl rfl hl.1 rfl (Nat.le_of_ble_eq_true rfl) dX6_of_23 ⟨Nat.zero_le _, Nat.zero_le _⟩ (fun r_23 u_23 H locs hw_23 hP hD hS => ?_)
    obtain ⟨su_23, rfl⟩ : ∃ z, z = u_23 := ⟨_, rfl⟩
    have hP : va_P (dC, dI) vwCl (mW q cI cZ w kp tx td ab be su_23 po st nu li fi ga hh) H := hP
    have hD : va_D A (mW q cI cZ w kp tx td ab be su_23 po st nu li fi ga hh) := hD
    rw [hw_23, let2_mk r_23 su_23] at hF
    have hP9 : va_P (dC, dI) vwCl (mW q cI cZ w kp tx td ab be su_23 po st nu li fi ga hh) H := hP
    exact W.iret (v := r_23) hx hb hr (fun t ht hW => ⟨⟨_, (su_23), rfl, hO.symm.trans hF, by rw [ht]; exact hP9, va_K.moved hW.alike hK, hD⟩, hS.F ht⟩) hS.2.2 dX6_of_26
  · rw [if_pos c_5] at hF
    obtain ⟨f_i, fb_i⟩ := isBatter_nat hw_2 c_5 pB
    have e_i := tN_eq f_i
    refine lv_iload_n hx hb dX6_of_8 rfl (lv_at hl 2 rfl) ?_
    refine lv_i2l hx hb dX6_of_9 rfl ?_
    refine lv_lconst (v := 0) hx hb dX6_of_10 (by decide) ?_
    refine lv_ldc2 (v := 2) hx hb hown (hts (.constantLong RX6 137 2) (by decide +kernel)) dX6_of_11 ?_
    refine qc_Si (As := [.long wh.toInt64, .long 0, .long 2]) (rest := []) ⟨hx, hb, hml, hown, hts⟩ (c_X6_in l wh.toInt64 0 2) (va_cwS 3 hts gX6_of_X6_in rfl rfl rfl (by decide +kernel) ⟨Nat.le_of_ble_eq_true rfl, Nat.le_of_ble_eq_true rfl⟩) rfl hl.1 rfl (Nat.le_of_ble_eq_true rfl) dX6_of_14 ⟨Nat.zero_le _, Nat.zero_le _⟩ (fun r_14 hw_14 => ?_)
    subst hw_14
    refine qv_zif_ne (tgt := 27) hx hb dX6_of_17 (by decide) (fun c_17 => ?_) (fun c_17 => ?_)
    · rw [if_pos c_17] at hF
      obtain ⟨f_wh, fa_wh, fb_wh⟩ := in_nat (lo := 0) (hi := 2) rfl rfl (by decide) (by decide) c_17
      have e_wh := tN_eq f_wh
      refine lv_aload_n hx hb dX6_of_27 rfl (lv_at hl 0 rfl) ?_
      refine va_get (D := (dC, dI)) (ci := 6) (v := .ref (q 1)) (C := RX6) (T := TX6) (N := 14) hx hb hts hin hown hK hP 0 rfl rfl 0 (by decide) lk7 (fun _ h9 => h9) rfl dX6_of_28 ?_
      refine lv_iconst (v := nI 5) hx hb dX6_of_31 (by decide) ?_
      refine lv_bipush (v := nI 6) hx hb dX6_of_32 (by decide) ?_
      refine lv_iload_n hx hb dX6_of_34 rfl (lv_at hl 2 rfl) ?_
      refine qv_top (e_wh) ?_
      refine qv_imul hx hb (6 * tN wh) dX6_of_35 (by omega) ?_
      refine qv_iadd hx hb (6 * tN wh + 5) dX6_of_36 (by omega) ?_
      refine lv_iload_n hx hb dX6_of_37 rfl (lv_at hl 1 rfl) ?_
      refine qv_top (e_i) ?_
      refine qv_iadd hx hb (6 * tN wh + tN i + 5) dX6_of_38 (by omega) ?_
      refine qv_ald (v := w (6 * tN wh + tN i + 5)) hx hb hK hP 1 0 rfl rfl (by omega) (by decide) (rfl) dX6_of_39 ?_
      have hP9 : va_P (dC, dI) vwCl (mW q cI cZ w kp tx td ab be su po st nu li fi ga hh) H := hP
      exact W.iret (v := w (6 * tN wh + tN i + 5)) hx hb hr (fun t ht hW => ⟨⟨_, (su), rfl, hO.symm.trans hF, by rw [ht]; exact hP9, va_K.moved hW.alike hK, hD⟩, hS.F ht⟩) hS.2.2 dX6_of_40
    · rw [if_neg c_17] at hF
      refine lv_aload_n hx hb dX6_of_20 rfl (lv_at hl 0 rfl) ?_
      refine lv_bipush (v := (-2)) hx hb dX6_of_21 (by decide) ?_
      refine qc_Vi (C := RX6) (As := [.int ((-2))]) (rest := []) (ci := 6) (k0 := 0) ⟨hx, hb, hml, hown, hts⟩ (c_X6_bad l dC dI q cI cZ H.size w kp tx td ab be su po st nu li fi ga hh ((-2)) ) (cwV 1 hts gX6_of_X6_bad rfl rfl rfl (by decide +kernel) ⟨Nat.le_of_ble_eq_true rfl, Nat.le_of_ble_eq_true rfl⟩) hK hP hD hS hA rfl rfl rfl rfl hl.1 rfl (Nat.le_of_ble_eq_true rfl) dX6_of_23 ⟨Nat.zero_le _, Nat.zero_le _⟩ (fun r_23 u_23 H locs hw_23 hP hD hS => ?_)
      obtain ⟨su_23, rfl⟩ : ∃ z, z = u_23 := ⟨_, rfl⟩
      have hP : va_P (dC, dI) vwCl (mW q cI cZ w kp tx td ab be su_23 po st nu li fi ga hh) H := hP
      have hD : va_D A (mW q cI cZ w kp tx td ab be su_23 po st nu li fi ga hh) := hD
      rw [hw_23, let2_mk r_23 su_23] at hF
      have hP9 : va_P (dC, dI) vwCl (mW q cI cZ w kp tx td ab be su_23 po st nu li fi ga hh) H := hP
      exact W.iret (v := r_23) hx hb hr (fun t ht hW => ⟨⟨_, (su_23), rfl, hO.symm.trans hF, by rw [ht]; exact hP9, va_K.moved hW.alike hK, hD⟩, hS.F ht⟩) hS.2.2 dX6_of_26
def F_X6_worth (w : Nat → Int32) (su : Nat → Int32) (h : Int32) (wh : Int32) : Int32 × (Nat → Int32) := if (F_X6_in h.toInt64 0 9) = true then (if (F_X6_in wh.toInt64 0 1) = true then let1 (F_X6_comesNow w 0 (nI (tN h))) (fun r_32 => if tN wh = 0 then (r_32, su) else (if r_32 = 0 then (nI 0, su) else let1 (F_X6_isDone w 0) (fun z_50 => if z_50 = true then (nI 0, su) else let1 (F_X6_runsNow w 0 r_32) (fun r_63 => (r_63, su))))) else let2 (F_X6_bad su ((-2))) (fun r_25 su_25 => (r_25, su_25))) else let2 (F_X6_bad su ((-2))) (fun r_25 su_25 => (r_25, su_25))
set_option maxHeartbeats 4000000 in
set_option maxRecDepth 100000 in
theorem c_X6_worth (l : Launch) (dC : Nat → ClassId) (dI : Nat → Nat → Nat) (q : Nat → Nat) (cI cZ : ClassId) (sz : Nat) (w : Nat → Int32) (kp : Nat → Int32) (tx : Nat → Int32) (td : Int32) (ab : Int64) (be : Int64) (su : Nat → Int32) (po : Int32) (st : Int32) (nu : Int32) (li : Nat → Int32) (fi : Nat → Int32) (ga : Nat → Int32) (hh : Int64) (h : Int32) (wh : Int32) (pN : okN (w 2)) : Met l yX6_worth wsX6_worth { frames := 4, cells := 0, slots := 0, locals := 87 } (mPc (dC, dI) vwCl (mT cI cZ) (mW q cI cZ w kp tx td ab be su po st nu li fi ga hh) sz [.ref (q 0), .int h, .int wh]) (va_Qi (fun (r : Int32) (u : (Nat → Int32)) => F_X6_worth w su h wh = (r, u)) (mB (dC, dI) vwCl (mT cI cZ) (va_A (mW q cI cZ w kp tx td ab be su po st nu li fi ga hh) sz) (fun u => mW q cI cZ w kp tx td ab be u po st nu li fi ga hh)) (va_A (mW q cI cZ w kp tx td ab be su po st nu li fi ga hh) sz)) 0 0 (va_A (mW q cI cZ w kp tx td ab be su po st nu li fi ga hh) sz) := by
  refine Met.ofW (cc := cX6_worth) (maxL := 4) (ret := (some .int)) (by decide) rfl ?_
  intro p e s m args below meth c s₁ B hml hv
  obtain ⟨rfl, hsz, hP, hK, hD0⟩ := hv
  have hx := B.exec
  have hb := B.bytes
  have hr := B.returns
  have hts := atoms_spec (ws := wsX6_worth) B.pre
  have hown : s.vm.findClass RX6 = some m.cls := findClass_of_methodNamed B.named
  have hlocks := B.notSynchronized
  subst hsz
  have hD := hD0.self (sz := s.heap.size)
  generalize hAe : va_A (mW q cI cZ w kp tx td ab be su po st nu li fi ga hh) s.heap.size = A at hD ⊢
  have hA : ∀ q : Nat, s.heap.size ≤ q → A q := fun q h => by rw [← hAe]; exact Or.inr h
  have hS : va_S A s.heap s.heap [] := va_S.rf
  have hl := lv_entry ([.ref (q 0), .int h, .int wh]) (n := 4) (Nat.le_of_ble_eq_true rfl)
  rw [lg_entry_eq]
  generalize (lg_sl ([.ref (q 0), .int h, .int wh]) ++ List.replicate (4 - (lg_sl ([.ref (q 0), .int h, .int wh])).length) Slot.unset).toArray = ls at hl ⊢
  have hl : lv_has ls 4 [(0, .ref (q 0)), (1, .int h), (2, .int wh)] := hl
  obtain ⟨OUT, hO⟩ : ∃ z, z = F_X6_worth w su h wh := ⟨_, rfl⟩
  have hF := hO
  unfold F_X6_worth at hF
  refine lv_iload_n hx hb dX6_worth_0 rfl (lv_at hl 1 rfl) ?_
  refine lv_i2l hx hb dX6_worth_1 rfl ?_
  refine lv_lconst (v := 0) hx hb dX6_worth_2 (by decide) ?_
  refine lv_ldc2 (v := 9) hx hb hown (hts (.constantLong RX6 175 9) (by decide +kernel)) dX6_worth_3 ?_
  refine qc_Si (As := [.long h.toInt64, .long 0, .long 9]) (rest := []) ⟨hx, hb, hml, hown, hts⟩ (c_X6_in l h.toInt64 0 9) (va_cwS 3 hts gX6_worth_X6_in rfl rfl rfl (by decide +kernel) ⟨Nat.le_of_ble_eq_true rfl, Nat.le_of_ble_eq_true rfl⟩) rfl hl.1 rfl (Nat.le_of_ble_eq_true rfl) dX6_worth_6 ⟨Nat.zero_le _, Nat.zero_le _⟩ (fun r_6 hw_6 => ?_)
  subst hw_6
  refine qv_zif_eq (tgt := 22) hx hb dX6_worth_9 (by decide) (fun c_9 => ?_) (fun c_9 => ?_)
  · rw [if_neg c_9] at hF
    refine lv_aload_n hx hb dX6_worth_22 rfl (lv_at hl 0 rfl) ?_
    refine lv_bipush (v := (-2)) hx hb dX6_worth_23 (by decide) ?_
    refine qc_Vi (C := RX6) (As := [.int ((-2))]) (rest := []) (ci := 6) (k0 := 0) ⟨hx, hb, hml, hown, hts⟩ (c_X6_bad l dC dI q cI cZ s.heap.size w kp tx td ab be su po st nu li fi ga hh ((-2)) ) (cwV 1 hts gX6_worth_X6_bad rfl rfl rfl (by decide +kernel) ⟨Nat.le_of_ble_eq_true rfl, Nat.le_of_ble_eq_true rfl⟩) hK hP hD hS hA rfl rfl rfl rfl hl.1 rfl (Nat.le_of_ble_eq_true rfl) dX6_worth_25 ⟨Nat.zero_le _, Nat.zero_le _⟩ (fun r_25 u_25 H locs hw_25 hP hD hS => ?_)
    obtain ⟨su_25, rfl⟩ : ∃ z, z = u_25 := ⟨_, rfl⟩
    have hP : va_P (dC, dI) vwCl (mW q cI cZ w kp tx td ab be su_25 po st nu li fi ga hh) H := hP
    have hD : va_D A (mW q cI cZ w kp tx td ab be su_25 po st nu li fi ga hh) := hD
    rw [hw_25, let2_mk r_25 su_25] at hF
    have hP9 : va_P (dC, dI) vwCl (mW q cI cZ w kp tx td ab be su_25 po st nu li fi ga hh) H := hP
    exact W.iret (v := r_25) hx hb hr (fun t ht hW => ⟨⟨_, (su_25), rfl, hO.symm.trans hF, by rw [ht]; exact hP9, va_K.moved hW.alike hK, hD⟩, hS.F ht⟩) hS.2.2 dX6_worth_28
  · rw [if_pos c_9] at hF
    obtain ⟨f_h, fa_h, fb_h⟩ := in_nat (lo := 0) (hi := 9) rfl rfl (by decide) (by decide) c_9
    have e_h := tN_eq f_h
    refine lv_iload_n hx hb dX6_worth_12 rfl (lv_at hl 2 rfl) ?_
    refine lv_i2l hx hb dX6_worth_13 rfl ?_
    refine lv_lconst (v := 0) hx hb dX6_worth_14 (by decide) ?_
    refine lv_lconst (v := 1) hx hb dX6_worth_15 (by decide) ?_
    refine qc_Si (As := [.long wh.toInt64, .long 0, .long 1]) (rest := []) ⟨hx, hb, hml, hown, hts⟩ (c_X6_in l wh.toInt64 0 1) (va_cwS 3 hts gX6_worth_X6_in rfl rfl rfl (by decide +kernel) ⟨Nat.le_of_ble_eq_true rfl, Nat.le_of_ble_eq_true rfl⟩) rfl hl.1 rfl (Nat.le_of_ble_eq_true rfl) dX6_worth_16 ⟨Nat.zero_le _, Nat.zero_le _⟩ (fun r_16 hw_16 => ?_)
    subst hw_16
    refine qv_zif_ne (tgt := 29) hx hb dX6_worth_19 (by decide) (fun c_19 => ?_) (fun c_19 => ?_)
    · rw [if_pos c_19] at hF
      obtain ⟨f_wh, fa_wh, fb_wh⟩ := in_nat (lo := 0) (hi := 1) rfl rfl (by decide) (by decide) c_19
      have e_wh := tN_eq f_wh
      refine lv_aload_n hx hb dX6_worth_29 rfl (lv_at hl 0 rfl) ?_
      refine lv_iconst (v := nI 0) hx hb dX6_worth_30 (by decide) ?_
      refine lv_iload_n hx hb dX6_worth_31 rfl (lv_at hl 1 rfl) ?_
      refine qv_top (e_h) ?_
      refine qc_Vi (C := RX6) (As := [.int (nI 0), .int (nI (tN h))]) (rest := []) (ci := 6) (k0 := 0) ⟨hx, hb, hml, hown, hts⟩ (c_X6_comesNow l dC dI q cI cZ s.heap.size w kp tx td ab be su po st nu li fi ga hh 0 (nI (tN h)) (by omega)) (cwV 2 hts gX6_worth_X6_comesNow rfl rfl rfl (by decide +kernel) ⟨Nat.le_of_ble_eq_true rfl, Nat.le_of_ble_eq_true rfl⟩) hK hP hD hS hA rfl rfl rfl rfl hl.1 rfl (Nat.le_of_ble_eq_true rfl) dX6_worth_32 ⟨Nat.zero_le _, Nat.zero_le _⟩ (fun r_32 u_32 H locs hw_32 hP hD hS => ?_)
      rw [hw_32, let1_mk r_32] at hF
      refine lv_istore_n (lv' := [(3, .int r_32), (0, .ref (q 0)), (1, .int h), (2, .int wh)]) hx hb dX6_worth_35 rfl hl (by decide) rfl (fun ls hl => ?_)
      refine lv_iload_n hx hb dX6_worth_36 rfl (lv_at hl 3 rfl) ?_
      refine qv_top (e_wh) ?_
      refine qv_if_ne (tgt := 44) hx hb dX6_worth_37 (by decide) (by omega) (fun c_37 => ?_) (fun c_37 => ?_)
      · rw [if_neg c_37] at hF
        refine lv_iload_n hx hb dX6_worth_44 rfl (lv_at hl 0 rfl) ?_
        refine lv_if_eq (tgt := 56) hx hb dX6_worth_45 (by decide) (fun c_45 => ?_) (fun c_45 => ?_)
        · rw [if_pos c_45] at hF
          refine lv_iconst (v := nI 0) hx hb dX6_worth_56 (by decide) ?_
          refine lv_goto (tgt := 66) hx hb dX6_worth_57 (by decide) ?_
          have hP9 : va_P (dC, dI) vwCl (mW q cI cZ w kp tx td ab be su po st nu li fi ga hh) H := hP
          exact W.iret (v := nI 0) hx hb hr (fun t ht hW => ⟨⟨_, (su), rfl, hO.symm.trans hF, by rw [ht]; exact hP9, va_K.moved hW.alike hK, hD⟩, hS.F ht⟩) hS.2.2 dX6_worth_66
        · rw [if_neg c_45] at hF
          refine lv_aload_n hx hb dX6_worth_48 rfl (lv_at hl 1 rfl) ?_
          refine lv_iconst (v := nI 0) hx hb dX6_worth_49 (by decide) ?_
          refine qc_Vi (C := RX6) (As := [.int (nI 0)]) (rest := []) (ci := 6) (k0 := 0) ⟨hx, hb, hml, hown, hts⟩ (c_X6_isDone l dC dI q cI cZ H.size w kp tx td ab be su po st nu li fi ga hh 0 (by omega)) (cwV 1 hts gX6_worth_X6_isDone rfl rfl rfl (by decide +kernel) ⟨Nat.le_of_ble_eq_true rfl, Nat.le_of_ble_eq_true rfl⟩) hK hP hD hS hA rfl rfl rfl rfl hl.1 rfl (Nat.le_of_ble_eq_true rfl) dX6_worth_50 ⟨Nat.zero_le _, Nat.zero_le _⟩ (fun r_50 u_50 H locs hw_50 hP hD hS => ?_)
          obtain ⟨z_50, hw_50, rfl⟩ := hw_50
          rw [hw_50, let1_mk z_50] at hF
          refine qv_zif_eq (tgt := 60) hx hb dX6_worth_53 (by decide) (fun c_53 => ?_) (fun c_53 => ?_)
          · rw [if_neg c_53] at hF
            have pI : inB (w 2) 5 := pN.resolve_left (isDone_no hw_50 c_53)
            refine lv_aload_n hx hb dX6_worth_60 rfl (lv_at hl 1 rfl) ?_
            refine lv_iconst (v := nI 0) hx hb dX6_worth_61 (by decide) ?_
            refine lv_iload_n hx hb dX6_worth_62 rfl (lv_at hl 0 rfl) ?_
            refine qc_Vi (C := RX6) (As := [.int (nI 0), .int r_32]) (rest := []) (ci := 6) (k0 := 0) ⟨hx, hb, hml, hown, hts⟩ (c_X6_runsNow l dC dI q cI cZ H.size w kp tx td ab be su po st nu li fi ga hh 0 r_32 (by omega) (pI : inB (w 2) 5)) (cwV 2 hts gX6_worth_X6_runsNow rfl rfl rfl (by decide +kernel) ⟨Nat.le_of_ble_eq_true rfl, Nat.le_of_ble_eq_true rfl⟩) hK hP hD hS hA rfl rfl rfl rfl hl.1 rfl (Nat.le_of_ble_eq_true rfl) dX6_worth_63 ⟨Nat.zero_le _, Nat.zero_le _⟩ (fun r_63 u_63 H locs hw_63 hP hD hS => ?_)
            rw [hw_63, let1_mk r_63] at hF
            have hP9 : va_P (dC, dI) vwCl (mW q cI cZ w kp tx td ab be su po st nu li fi ga hh) H := hP
            exact W.iret (v := r_63) hx hb hr (fun t ht hW => ⟨⟨_, (su), rfl, hO.symm.trans hF, by rw [ht]; exact hP9, va_K.moved hW.alike hK, hD⟩, hS.F ht⟩) hS.2.2 dX6_worth_66
          · rw [if_pos c_53] at hF
            refine lv_iconst (v := nI 0) hx hb dX6_worth_56 (by decide) ?_
            refine lv_goto (tgt := 66) hx hb dX6_worth_57 (by decide) ?_
            have hP9 : va_P (dC, dI) vwCl (mW q cI cZ w kp tx td ab be su po st nu li fi ga hh) H := hP
            exact W.iret (v := nI 0) hx hb hr (fun t ht hW => ⟨⟨_, (su), rfl, hO.symm.trans hF, by rw [ht]; exact hP9, va_K.moved hW.alike hK, hD⟩, hS.F ht⟩) hS.2.2 dX6_worth_66
      · rw [if_pos c_37] at hF
        refine lv_iload_n hx hb dX6_worth_40 rfl (lv_at hl 0 rfl) ?_
        refine lv_goto (tgt := 66) hx hb dX6_worth_41 (by decide) ?_
        have hP9 : va_P (dC, dI) vwCl (mW q cI cZ w kp tx td ab be su po st nu li fi ga hh) H := hP
        exact W.iret (v := r_32) hx hb hr (fun t ht hW => ⟨⟨_, (su), rfl, hO.symm.trans hF, by rw [ht]; exact hP9, va_K.moved hW.alike hK, hD⟩, hS.F ht⟩) hS.2.2 dX6_worth_66
    · rw [if_neg c_19] at hF
      refine lv_aload_n hx hb dX6_worth_22 rfl (lv_at hl 0 rfl) ?_
      refine lv_bipush (v := (-2)) hx hb dX6_worth_23 (by decide) ?_
      refine qc_Vi (C := RX6) (As := [.int ((-2))]) (rest := []) (ci := 6) (k0 := 0) ⟨hx, hb, hml, hown, hts⟩ (c_X6_bad l dC dI q cI cZ s.heap.size w kp tx td ab be su po st nu li fi ga hh ((-2)) ) (cwV 1 hts gX6_worth_X6_bad rfl rfl rfl (by decide +kernel) ⟨Nat.le_of_ble_eq_true rfl, Nat.le_of_ble_eq_true rfl⟩) hK hP hD hS hA rfl rfl rfl rfl hl.1 rfl (Nat.le_of_ble_eq_true rfl) dX6_worth_25 ⟨Nat.zero_le _, Nat.zero_le _⟩ (fun r_25 u_25 H locs hw_25 hP hD hS => ?_)
      obtain ⟨su_25, rfl⟩ : ∃ z, z = u_25 := ⟨_, rfl⟩
      have hP : va_P (dC, dI) vwCl (mW q cI cZ w kp tx td ab be su_25 po st nu li fi ga hh) H := hP
      have hD : va_D A (mW q cI cZ w kp tx td ab be su_25 po st nu li fi ga hh) := hD
      rw [hw_25, let2_mk r_25 su_25] at hF
      have hP9 : va_P (dC, dI) vwCl (mW q cI cZ w kp tx td ab be su_25 po st nu li fi ga hh) H := hP
      exact W.iret (v := r_25) hx hb hr (fun t ht hW => ⟨⟨_, (su_25), rfl, hO.symm.trans hF, by rw [ht]; exact hP9, va_K.moved hW.alike hK, hD⟩, hS.F ht⟩) hS.2.2 dX6_worth_28
def F_X6_note (w : Nat → Int32) (su : Nat → Int32) (ti : Int32) (h : Int32) (g : Int32) : Int32 × (Nat → Int32) × (Nat → Int32) := if (F_X6_in ti.toInt64 0 99) = true then (if (F_X6_in h.toInt64 0 9) = true then (if (F_X6_in g.toInt64 0 20) = true then (if tN (w 31) = 6 then let2 (F_X6_full su) (fun r_56 su_56 => (r_56, w, su_56)) else (nI (tN (w 31) + 1), (upd (upd (upd (upd w (3 * tN (w 31) + 32) (nI (tN ti))) (3 * tN (w 31) + 33) (nI (tN h))) (3 * tN (w 31) + 34) (nI (tN g))) 31 (nI (tN (w 31) + 1))), su)) else let2 (F_X6_bad su ((-2))) (fun r_39 su_39 => (r_39, w, su_39))) else let2 (F_X6_bad su ((-2))) (fun r_39 su_39 => (r_39, w, su_39))) else let2 (F_X6_bad su ((-2))) (fun r_39 su_39 => (r_39, w, su_39))
set_option maxHeartbeats 4000000 in
set_option maxRecDepth 100000 in
theorem c_X6_note (l : Launch) (dC : Nat → ClassId) (dI : Nat → Nat → Nat) (q : Nat → Nat) (cI cZ : ClassId) (sz : Nat) (w : Nat → Int32) (kp : Nat → Int32) (tx : Nat → Int32) (td : Int32) (ab : Int64) (be : Int64) (su : Nat → Int32) (po : Int32) (st : Int32) (nu : Int32) (li : Nat → Int32) (fi : Nat → Int32) (ga : Nat → Int32) (hh : Int64) (ti : Int32) (h : Int32) (g : Int32) (pNo : inB (w 31) 6) : Met l yX6_note wsX6_note { frames := 1, cells := 0, slots := 0, locals := 25 } (mPc (dC, dI) vwCl (mT cI cZ) (mW q cI cZ w kp tx td ab be su po st nu li fi ga hh) sz [.ref (q 0), .int ti, .int h, .int g]) (va_Qi (fun (r : Int32) (u : (Nat → Int32) × (Nat → Int32)) => F_X6_note w su ti h g = (r, u)) (mB (dC, dI) vwCl (mT cI cZ) (va_A (mW q cI cZ w kp tx td ab be su po st nu li fi ga hh) sz) (fun u => mW q cI cZ u.1 kp tx td ab be u.2 po st nu li fi ga hh)) (va_A (mW q cI cZ w kp tx td ab be su po st nu li fi ga hh) sz)) 0 0 (va_A (mW q cI cZ w kp tx td ab be su po st nu li fi ga hh) sz) := by
  refine Met.ofW (cc := cX6_note) (maxL := 5) (ret := (some .int)) (by decide) rfl ?_
  intro p e s m args below meth c s₁ B hml hv
  obtain ⟨rfl, hsz, hP, hK, hD0⟩ := hv
  have hx := B.exec
  have hb := B.bytes
  have hr := B.returns
  have hts := atoms_spec (ws := wsX6_note) B.pre
  have hown : s.vm.findClass RX6 = some m.cls := findClass_of_methodNamed B.named
  have hlocks := B.notSynchronized
  subst hsz
  have hD := hD0.self (sz := s.heap.size)
  generalize hAe : va_A (mW q cI cZ w kp tx td ab be su po st nu li fi ga hh) s.heap.size = A at hD ⊢
  have hA : ∀ q : Nat, s.heap.size ≤ q → A q := fun q h => by rw [← hAe]; exact Or.inr h
  have hS : va_S A s.heap s.heap [] := va_S.rf
  have hin : ∀ w ∈ wsX60, w ∈ wsX6_note := by decide +kernel
  have lk7 := hts (.fieldLink RX6 7 "PostRoundersModel" "w" "[I") (by decide +kernel)
  have hl := lv_entry ([.ref (q 0), .int ti, .int h, .int g]) (n := 5) (Nat.le_of_ble_eq_true rfl)
  rw [lg_entry_eq]
  generalize (lg_sl ([.ref (q 0), .int ti, .int h, .int g]) ++ List.replicate (5 - (lg_sl ([.ref (q 0), .int ti, .int h, .int g])).length) Slot.unset).toArray = ls at hl ⊢
  have hl : lv_has ls 5 [(0, .ref (q 0)), (1, .int ti), (2, .int h), (3, .int g)] := hl
  obtain ⟨OUT, hO⟩ : ∃ z, z = F_X6_note w su ti h g := ⟨_, rfl⟩
  have hF := hO
  unfold F_X6_note at hF
  have e_pNo := tN_eq pNo.1
  have b_pNo := pNo.2
  refine lv_iload_n hx hb dX6_note_0 rfl (lv_at hl 1 rfl) ?_
  refine lv_i2l hx hb dX6_note_1 rfl ?_
  refine lv_lconst (v := 0) hx hb dX6_note_2 (by decide) ?_
  refine lv_ldc2 (v := 99) hx hb hown (hts (.constantLong RX6 226 99) (by decide +kernel)) dX6_note_3 ?_
  refine qc_Si (As := [.long ti.toInt64, .long 0, .long 99]) (rest := []) ⟨hx, hb, hml, hown, hts⟩ (c_X6_in l ti.toInt64 0 99) (va_cwS 3 hts gX6_note_X6_in rfl rfl rfl (by decide +kernel) ⟨Nat.le_of_ble_eq_true rfl, Nat.le_of_ble_eq_true rfl⟩) rfl hl.1 rfl (Nat.le_of_ble_eq_true rfl) dX6_note_6 ⟨Nat.zero_le _, Nat.zero_le _⟩ (fun r_6 hw_6 => ?_)
  subst hw_6
  refine qv_zif_eq (tgt := 36) hx hb dX6_note_9 (by decide) (fun c_9 => ?_) (fun c_9 => ?_)
  · rw [if_neg c_9] at hF
    refine lv_aload_n hx hb dX6_note_36 rfl (lv_at hl 0 rfl) ?_
    refine lv_bipush (v := (-2)) hx hb dX6_note_37 (by decide) ?_
    refine qc_Vi (C := RX6) (As := [.int ((-2))]) (rest := []) (ci := 6) (k0 := 0) ⟨hx, hb, hml, hown, hts⟩ (c_X6_bad l dC dI q cI cZ s.heap.size w kp tx td ab be su po st nu li fi ga hh ((-2)) ) (cwV 1 hts gX6_note_X6_bad rfl rfl rfl (by decide +kernel) ⟨Nat.le_of_ble_eq_true rfl, Nat.le_of_ble_eq_true rfl⟩) hK hP hD hS hA rfl rfl rfl rfl hl.1 rfl (Nat.le_of_ble_eq_true rfl) dX6_note_39 ⟨Nat.zero_le _, Nat.zero_le _⟩ (fun r_39 u_39 H locs hw_39 hP hD hS => ?_)
    obtain ⟨su_39, rfl⟩ : ∃ z, z = u_39 := ⟨_, rfl⟩
    have hP : va_P (dC, dI) vwCl (mW q cI cZ w kp tx td ab be su_39 po st nu li fi ga hh) H := hP
    have hD : va_D A (mW q cI cZ w kp tx td ab be su_39 po st nu li fi ga hh) := hD
    rw [hw_39, let2_mk r_39 su_39] at hF
    have hP9 : va_P (dC, dI) vwCl (mW q cI cZ w kp tx td ab be su_39 po st nu li fi ga hh) H := hP
    exact W.iret (v := r_39) hx hb hr (fun t ht hW => ⟨⟨_, ((w, su_39)), rfl, hO.symm.trans hF, by rw [ht]; exact hP9, va_K.moved hW.alike hK, hD⟩, hS.F ht⟩) hS.2.2 dX6_note_42
  · rw [if_pos c_9] at hF
    obtain ⟨f_ti, fa_ti, fb_ti⟩ := in_nat (lo := 0) (hi := 99) rfl rfl (by decide) (by decide) c_9
    have e_ti := tN_eq f_ti
    refine lv_iload_n hx hb dX6_note_12 rfl (lv_at hl 2 rfl) ?_
    refine lv_i2l hx hb dX6_note_13 rfl ?_
    refine lv_lconst (v := 0) hx hb dX6_note_14 (by decide) ?_
    refine lv_ldc2 (v := 9) hx hb hown (hts (.constantLong RX6 175 9) (by decide +kernel)) dX6_note_15 ?_
    refine qc_Si (As := [.long h.toInt64, .long 0, .long 9]) (rest := []) ⟨hx, hb, hml, hown, hts⟩ (c_X6_in l h.toInt64 0 9) (va_cwS 3 hts gX6_note_X6_in rfl rfl rfl (by decide +kernel) ⟨Nat.le_of_ble_eq_true rfl, Nat.le_of_ble_eq_true rfl⟩) rfl hl.1 rfl (Nat.le_of_ble_eq_true rfl) dX6_note_18 ⟨Nat.zero_le _, Nat.zero_le _⟩ (fun r_18 hw_18 => ?_)
    subst hw_18
    refine qv_zif_eq (tgt := 36) hx hb dX6_note_21 (by decide) (fun c_21 => ?_) (fun c_21 => ?_)
    · rw [if_neg c_21] at hF
      refine lv_aload_n hx hb dX6_note_36 rfl (lv_at hl 0 rfl) ?_
      refine lv_bipush (v := (-2)) hx hb dX6_note_37 (by decide) ?_
      refine qc_Vi (C := RX6) (As := [.int ((-2))]) (rest := []) (ci := 6) (k0 := 0) ⟨hx, hb, hml, hown, hts⟩ (c_X6_bad l dC dI q cI cZ s.heap.size w kp tx td ab be su po st nu li fi ga hh ((-2)) ) (cwV 1 hts gX6_note_X6_bad rfl rfl rfl (by decide +kernel) ⟨Nat.le_of_ble_eq_true rfl, Nat.le_of_ble_eq_true rfl⟩) hK hP hD hS hA rfl rfl rfl rfl hl.1 rfl (Nat.le_of_ble_eq_true rfl) dX6_note_39 ⟨Nat.zero_le _, Nat.zero_le _⟩ (fun r_39 u_39 H locs hw_39 hP hD hS => ?_)
      obtain ⟨su_39, rfl⟩ : ∃ z, z = u_39 := ⟨_, rfl⟩
      have hP : va_P (dC, dI) vwCl (mW q cI cZ w kp tx td ab be su_39 po st nu li fi ga hh) H := hP
      have hD : va_D A (mW q cI cZ w kp tx td ab be su_39 po st nu li fi ga hh) := hD
      rw [hw_39, let2_mk r_39 su_39] at hF
      have hP9 : va_P (dC, dI) vwCl (mW q cI cZ w kp tx td ab be su_39 po st nu li fi ga hh) H := hP
      exact W.iret (v := r_39) hx hb hr (fun t ht hW => ⟨⟨_, ((w, su_39)), rfl, hO.symm.trans hF, by rw [ht]; exact hP9, va_K.moved hW.alike hK, hD⟩, hS.F ht⟩) hS.2.2 dX6_note_42
    · rw [if_pos c_21] at hF
      obtain ⟨f_h, fa_h, fb_h⟩ := in_nat (lo := 0) (hi := 9) rfl rfl (by decide) (by decide) c_21
      have e_h := tN_eq f_h
      refine lv_iload_n hx hb dX6_note_24 rfl (lv_at hl 3 rfl) ?_
      refine lv_i2l hx hb dX6_note_25 rfl ?_
      refine lv_lconst (v := 0) hx hb dX6_note_26 (by decide) ?_
      refine lv_ldc2 (v := 20) hx hb hown (hts (.constantLong RX6 214 20) (by decide +kernel)) dX6_note_27 ?_
      refine qc_Si (As := [.long g.toInt64, .long 0, .long 20]) (rest := []) ⟨hx, hb, hml, hown, hts⟩ (c_X6_in l g.toInt64 0 20) (va_cwS 3 hts gX6_note_X6_in rfl rfl rfl (by decide +kernel) ⟨Nat.le_of_ble_eq_true rfl, Nat.le_of_ble_eq_true rfl⟩) rfl hl.1 rfl (Nat.le_of_ble_eq_true rfl) dX6_note_30 ⟨Nat.zero_le _, Nat.zero_le _⟩ (fun r_30 hw_30 => ?_)
      subst hw_30
      refine qv_zif_ne (tgt := 43) hx hb dX6_note_33 (by decide) (fun c_33 => ?_) (fun c_33 => ?_)
      · rw [if_pos c_33] at hF
        obtain ⟨f_g, fa_g, fb_g⟩ := in_nat (lo := 0) (hi := 20) rfl rfl (by decide) (by decide) c_33
        have e_g := tN_eq f_g
        refine lv_aload_n hx hb dX6_note_43 rfl (lv_at hl 0 rfl) ?_
        refine va_get (D := (dC, dI)) (ci := 6) (v := .ref (q 1)) (C := RX6) (T := TX6) (N := 14) hx hb hts hin hown hK hP 0 rfl rfl 0 (by decide) lk7 (fun _ h9 => h9) rfl dX6_note_44 ?_
        refine lv_bipush (v := nI 31) hx hb dX6_note_47 (by decide) ?_
        refine qv_ald (v := w 31) hx hb hK hP 1 0 rfl rfl (by omega) (by decide) (rfl) dX6_note_49 ?_
        refine qv_top (e_pNo) ?_
        refine lv_bipush (v := nI 6) hx hb dX6_note_50 (by decide) ?_
        refine qv_icmp_ne (tgt := 60) hx hb dX6_note_52 (by decide) (by omega) (by omega) (fun c_52 => ?_) (fun c_52 => ?_)
        · rw [if_neg c_52] at hF
          refine lv_bipush (v := nI 32) hx hb dX6_note_60 (by decide) ?_
          refine lv_iconst (v := nI 3) hx hb dX6_note_62 (by decide) ?_
          refine lv_aload_n hx hb dX6_note_63 rfl (lv_at hl 0 rfl) ?_
          refine va_get (D := (dC, dI)) (ci := 6) (v := .ref (q 1)) (C := RX6) (T := TX6) (N := 14) hx hb hts hin hown hK hP 0 rfl rfl 0 (by decide) lk7 (fun _ h9 => h9) rfl dX6_note_64 ?_
          refine lv_bipush (v := nI 31) hx hb dX6_note_67 (by decide) ?_
          refine qv_ald (v := w 31) hx hb hK hP 1 0 rfl rfl (by omega) (by decide) (rfl) dX6_note_69 ?_
          refine qv_top (e_pNo) ?_
          refine qv_imul hx hb (3 * tN (w 31)) dX6_note_70 (by omega) ?_
          refine qv_iadd hx hb (3 * tN (w 31) + 32) dX6_note_71 (by omega) ?_
          refine lv_istore (lv' := [(4, .int (nI (3 * tN (w 31) + 32))), (0, .ref (q 0)), (1, .int ti), (2, .int h), (3, .int g)]) hx hb dX6_note_72 hl (by decide) rfl (fun ls hl => ?_)
          refine lv_aload_n hx hb dX6_note_74 rfl (lv_at hl 1 rfl) ?_
          refine va_get (D := (dC, dI)) (ci := 6) (v := .ref (q 1)) (C := RX6) (T := TX6) (N := 14) hx hb hts hin hown hK hP 0 rfl rfl 0 (by decide) lk7 (fun _ h9 => h9) rfl dX6_note_75 ?_
          refine lv_iload hx hb dX6_note_78 (lv_at hl 0 rfl) ?_
          refine lv_iload_n hx hb dX6_note_80 rfl (lv_at hl 2 rfl) ?_
          refine qv_top (e_ti) ?_
          refine qv_ast (ws' := mW q cI cZ (upd w (3 * tN (w 31) + 32) (nI (tN ti))) kp tx td ab be su po st nu li fi ga hh) hx hb hK hP hD hS 1 0 rfl rfl (by omega) (by decide) dX6_note_81 rfl (fun H locs hP hD hS => ?_)
          refine lv_aload_n hx hb dX6_note_82 rfl (lv_at hl 1 rfl) ?_
          refine va_get (D := (dC, dI)) (ci := 6) (v := .ref (q 1)) (C := RX6) (T := TX6) (N := 14) hx hb hts hin hown hK hP 0 rfl rfl 0 (by decide) lk7 (fun _ h9 => h9) rfl dX6_note_83 ?_
          refine lv_iload hx hb dX6_note_86 (lv_at hl 0 rfl) ?_
          refine lv_iconst (v := nI 1) hx hb dX6_note_88 (by decide) ?_
          refine qv_iadd hx hb (3 * tN (w 31) + 33) dX6_note_89 (by omega) ?_
          refine lv_iload_n hx hb dX6_note_90 rfl (lv_at hl 3 rfl) ?_
          refine qv_top (e_h) ?_
          refine qv_ast (ws' := mW q cI cZ (upd (upd w (3 * tN (w 31) + 32) (nI (tN ti))) (3 * tN (w 31) + 33) (nI (tN h))) kp tx td ab be su po st nu li fi ga hh) hx hb hK hP hD hS 1 0 rfl rfl (by omega) (by decide) dX6_note_91 rfl (fun H locs hP hD hS => ?_)
          refine lv_aload_n hx hb dX6_note_92 rfl (lv_at hl 1 rfl) ?_
          refine va_get (D := (dC, dI)) (ci := 6) (v := .ref (q 1)) (C := RX6) (T := TX6) (N := 14) hx hb hts hin hown hK hP 0 rfl rfl 0 (by decide) lk7 (fun _ h9 => h9) rfl dX6_note_93 ?_
          refine lv_iload hx hb dX6_note_96 (lv_at hl 0 rfl) ?_
          refine lv_iconst (v := nI 2) hx hb dX6_note_98 (by decide) ?_
          refine qv_iadd hx hb (3 * tN (w 31) + 34) dX6_note_99 (by omega) ?_
          refine lv_iload_n hx hb dX6_note_100 rfl (lv_at hl 4 rfl) ?_
          refine qv_top (e_g) ?_
          refine qv_ast (ws' := mW q cI cZ (upd (upd (upd w (3 * tN (w 31) + 32) (nI (tN ti))) (3 * tN (w 31) + 33) (nI (tN h))) (3 * tN (w 31) + 34) (nI (tN g))) kp tx td ab be su po st nu li fi ga hh) hx hb hK hP hD hS 1 0 rfl rfl (by omega) (by decide) dX6_note_101 rfl (fun H locs hP hD hS => ?_)
          refine lv_aload_n hx hb dX6_note_102 rfl (lv_at hl 1 rfl) ?_
          refine va_get (D := (dC, dI)) (ci := 6) (v := .ref (q 1)) (C := RX6) (T := TX6) (N := 14) hx hb hts hin hown hK hP 0 rfl rfl 0 (by decide) lk7 (fun _ h9 => h9) rfl dX6_note_103 ?_
          refine lv_bipush (v := nI 31) hx hb dX6_note_106 (by decide) ?_
          refine lv_dup2_11 hx hb dX6_note_108 rfl rfl ?_
          refine qv_ald (v := w 31) hx hb hK hP 1 0 rfl rfl (by omega) (by decide) ((pk_un (by omega)).trans ((pk_un (by omega)).trans (pk_un (by omega)))) dX6_note_109 ?_
          refine qv_top (e_pNo) ?_
          refine lv_iconst (v := nI 1) hx hb dX6_note_110 (by decide) ?_
          refine qv_iadd hx hb (tN (w 31) + 1) dX6_note_111 (by omega) ?_
          refine qv_ast (ws' := mW q cI cZ (upd (upd (upd (upd w (3 * tN (w 31) + 32) (nI (tN ti))) (3 * tN (w 31) + 33) (nI (tN h))) (3 * tN (w 31) + 34) (nI (tN g))) 31 (nI (tN (w 31) + 1))) kp tx td ab be su po st nu li fi ga hh) hx hb hK hP hD hS 1 0 rfl rfl (by omega) (by decide) dX6_note_112 rfl (fun H locs hP hD hS => ?_)
          refine lv_aload_n hx hb dX6_note_113 rfl (lv_at hl 1 rfl) ?_
          refine va_get (D := (dC, dI)) (ci := 6) (v := .ref (q 1)) (C := RX6) (T := TX6) (N := 14) hx hb hts hin hown hK hP 0 rfl rfl 0 (by decide) lk7 (fun _ h9 => h9) rfl dX6_note_114 ?_
          refine lv_bipush (v := nI 31) hx hb dX6_note_117 (by decide) ?_
          refine qv_ald (v := nI (tN (w 31) + 1)) hx hb hK hP 1 0 rfl rfl (by omega) (by decide) (pk_us) dX6_note_119 ?_
          have hP9 : va_P (dC, dI) vwCl (mW q cI cZ (upd (upd (upd (upd w (3 * tN (w 31) + 32) (nI (tN ti))) (3 * tN (w 31) + 33) (nI (tN h))) (3 * tN (w 31) + 34) (nI (tN g))) 31 (nI (tN (w 31) + 1))) kp tx td ab be su po st nu li fi ga hh) H := hP
          exact W.iret (v := nI (tN (w 31) + 1)) hx hb hr (fun t ht hW => ⟨⟨_, ((upd (upd (upd (upd w (3 * tN (w 31) + 32) (nI (tN ti))) (3 * tN (w 31) + 33) (nI (tN h))) (3 * tN (w 31) + 34) (nI (tN g))) 31 (nI (tN (w 31) + 1)), su)), rfl, hO.symm.trans hF, by rw [ht]; exact hP9, va_K.moved hW.alike hK, hD⟩, hS.F ht⟩) hS.2.2 dX6_note_120
        · rw [if_pos c_52] at hF
          refine lv_aload_n hx hb dX6_note_55 rfl (lv_at hl 0 rfl) ?_
          refine qc_Vi (C := RX6) (As := []) (rest := []) (ci := 6) (k0 := 0) ⟨hx, hb, hml, hown, hts⟩ (c_X6_full l dC dI q cI cZ s.heap.size w kp tx td ab be su po st nu li fi ga hh  ) (cwV 0 hts gX6_note_X6_full rfl rfl rfl (by decide +kernel) ⟨Nat.le_of_ble_eq_true rfl, Nat.le_of_ble_eq_true rfl⟩) hK hP hD hS hA rfl rfl rfl rfl hl.1 rfl (Nat.le_of_ble_eq_true rfl) dX6_note_56 ⟨Nat.zero_le _, Nat.zero_le _⟩ (fun r_56 u_56 H locs hw_56 hP hD hS => ?_)
          obtain ⟨su_56, rfl⟩ : ∃ z, z = u_56 := ⟨_, rfl⟩
          have hP : va_P (dC, dI) vwCl (mW q cI cZ w kp tx td ab be su_56 po st nu li fi ga hh) H := hP
          have hD : va_D A (mW q cI cZ w kp tx td ab be su_56 po st nu li fi ga hh) := hD
          rw [hw_56, let2_mk r_56 su_56] at hF
          have hP9 : va_P (dC, dI) vwCl (mW q cI cZ w kp tx td ab be su_56 po st nu li fi ga hh) H := hP
          exact W.iret (v := r_56) hx hb hr (fun t ht hW => ⟨⟨_, ((w, su_56)), rfl, hO.symm.trans hF, by rw [ht]; exact hP9, va_K.moved hW.alike hK, hD⟩, hS.F ht⟩) hS.2.2 dX6_note_59
      · rw [if_neg c_33] at hF
        refine lv_aload_n hx hb dX6_note_36 rfl (lv_at hl 0 rfl) ?_
        refine lv_bipush (v := (-2)) hx hb dX6_note_37 (by decide) ?_
        refine qc_Vi (C := RX6) (As := [.int ((-2))]) (rest := []) (ci := 6) (k0 := 0) ⟨hx, hb, hml, hown, hts⟩ (c_X6_bad l dC dI q cI cZ s.heap.size w kp tx td ab be su po st nu li fi ga hh ((-2)) ) (cwV 1 hts gX6_note_X6_bad rfl rfl rfl (by decide +kernel) ⟨Nat.le_of_ble_eq_true rfl, Nat.le_of_ble_eq_true rfl⟩) hK hP hD hS hA rfl rfl rfl rfl hl.1 rfl (Nat.le_of_ble_eq_true rfl) dX6_note_39 ⟨Nat.zero_le _, Nat.zero_le _⟩ (fun r_39 u_39 H locs hw_39 hP hD hS => ?_)
        obtain ⟨su_39, rfl⟩ : ∃ z, z = u_39 := ⟨_, rfl⟩
        have hP : va_P (dC, dI) vwCl (mW q cI cZ w kp tx td ab be su_39 po st nu li fi ga hh) H := hP
        have hD : va_D A (mW q cI cZ w kp tx td ab be su_39 po st nu li fi ga hh) := hD
        rw [hw_39, let2_mk r_39 su_39] at hF
        have hP9 : va_P (dC, dI) vwCl (mW q cI cZ w kp tx td ab be su_39 po st nu li fi ga hh) H := hP
        exact W.iret (v := r_39) hx hb hr (fun t ht hW => ⟨⟨_, ((w, su_39)), rfl, hO.symm.trans hF, by rw [ht]; exact hP9, va_K.moved hW.alike hK, hD⟩, hS.F ht⟩) hS.2.2 dX6_note_42
def F_X6_mark (w : Nat → Int32) (su : Nat → Int32) (i : Int32) (lg : Int32) (g : Int32) (x : Int32) : Int32 × (Nat → Int32) × (Nat → Int32) := let1 (F_X6_isBatter w i) (fun z_2 => if z_2 = true then (if (F_X6_in lg.toInt64 1 5) = true then (if (F_X6_in g.toInt64 0 20) = true then (if (F_X6_in x.toInt64 0 9) = true then (if tN (w 50) = 6 then let2 (F_X6_full su) (fun r_65 su_65 => (r_65, w, su_65)) else (nI (tN (w 50) + 1), (upd (upd (upd (upd (upd w (4 * tN (w 50) + 51) (nI (tN i))) (4 * tN (w 50) + 52) (nI (tN lg))) (4 * tN (w 50) + 53) (nI (tN g))) (4 * tN (w 50) + 54) (nI (tN x))) 50 (nI (tN (w 50) + 1))), su)) else let2 (F_X6_bad su ((-2))) (fun r_48 su_48 => (r_48, w, su_48))) else let2 (F_X6_bad su ((-2))) (fun r_48 su_48 => (r_48, w, su_48))) else let2 (F_X6_bad su ((-2))) (fun r_48 su_48 => (r_48, w, su_48))) else let2 (F_X6_bad su ((-2))) (fun r_48 su_48 => (r_48, w, su_48)))
set_option maxHeartbeats 4000000 in
set_option maxRecDepth 100000 in
theorem c_X6_mark (l : Launch) (dC : Nat → ClassId) (dI : Nat → Nat → Nat) (q : Nat → Nat) (cI cZ : ClassId) (sz : Nat) (w : Nat → Int32) (kp : Nat → Int32) (tx : Nat → Int32) (td : Int32) (ab : Int64) (be : Int64) (su : Nat → Int32) (po : Int32) (st : Int32) (nu : Int32) (li : Nat → Int32) (fi : Nat → Int32) (ga : Nat → Int32) (hh : Int64) (i : Int32) (lg : Int32) (g : Int32) (x : Int32) (pB : inB (w 0) 6) (pMa : inB (w 50) 6) : Met l yX6_mark wsX6_mark { frames := 2, cells := 0, slots := 0, locals := 46 } (mPc (dC, dI) vwCl (mT cI cZ) (mW q cI cZ w kp tx td ab be su po st nu li fi ga hh) sz [.ref (q 0), .int i, .int lg, .int g, .int x]) (va_Qi (fun (r : Int32) (u : (Nat → Int32) × (Nat → Int32)) => F_X6_mark w su i lg g x = (r, u)) (mB (dC, dI) vwCl (mT cI cZ) (va_A (mW q cI cZ w kp tx td ab be su po st nu li fi ga hh) sz) (fun u => mW q cI cZ u.1 kp tx td ab be u.2 po st nu li fi ga hh)) (va_A (mW q cI cZ w kp tx td ab be su po st nu li fi ga hh) sz)) 0 0 (va_A (mW q cI cZ w kp tx td ab be su po st nu li fi ga hh) sz) := by
  refine Met.ofW (cc := cX6_mark) (maxL := 6) (ret := (some .int)) (by decide) rfl ?_
  intro p e s m args below meth c s₁ B hml hv
  obtain ⟨rfl, hsz, hP, hK, hD0⟩ := hv
  have hx := B.exec
  have hb := B.bytes
  have hr := B.returns
  have hts := atoms_spec (ws := wsX6_mark) B.pre
  have hown : s.vm.findClass RX6 = some m.cls := findClass_of_methodNamed B.named
  have hlocks := B.notSynchronized
  subst hsz
  have hD := hD0.self (sz := s.heap.size)
  generalize hAe : va_A (mW q cI cZ w kp tx td ab be su po st nu li fi ga hh) s.heap.size = A at hD ⊢
  have hA : ∀ q : Nat, s.heap.size ≤ q → A q := fun q h => by rw [← hAe]; exact Or.inr h
  have hS : va_S A s.heap s.heap [] := va_S.rf
  have hin : ∀ w ∈ wsX60, w ∈ wsX6_mark := by decide +kernel
  have lk7 := hts (.fieldLink RX6 7 "PostRoundersModel" "w" "[I") (by decide +kernel)
  have hl := lv_entry ([.ref (q 0), .int i, .int lg, .int g, .int x]) (n := 6) (Nat.le_of_ble_eq_true rfl)
  rw [lg_entry_eq]
  generalize (lg_sl ([.ref (q 0), .int i, .int lg, .int g, .int x]) ++ List.replicate (6 - (lg_sl ([.ref (q 0), .int i, .int lg, .int g, .int x])).length) Slot.unset).toArray = ls at hl ⊢
  have hl : lv_has ls 6 [(0, .ref (q 0)), (1, .int i), (2, .int lg), (3, .int g), (4, .int x)] := hl
  obtain ⟨OUT, hO⟩ : ∃ z, z = F_X6_mark w su i lg g x := ⟨_, rfl⟩
  have hF := hO
  unfold F_X6_mark at hF
  have e_pB := tN_eq pB.1
  have b_pB := pB.2
  have e_pMa := tN_eq pMa.1
  have b_pMa := pMa.2
  refine lv_aload_n hx hb dX6_mark_0 rfl (lv_at hl 0 rfl) ?_
  refine lv_iload_n hx hb dX6_mark_1 rfl (lv_at hl 1 rfl) ?_
  refine qc_Vi (C := RX6) (As := [.int i]) (rest := []) (ci := 6) (k0 := 0) ⟨hx, hb, hml, hown, hts⟩ (c_X6_isBatter l dC dI q cI cZ s.heap.size w kp tx td ab be su po st nu li fi ga hh i ) (cwV 1 hts gX6_mark_X6_isBatter rfl rfl rfl (by decide +kernel) ⟨Nat.le_of_ble_eq_true rfl, Nat.le_of_ble_eq_true rfl⟩) hK hP hD hS hA rfl rfl rfl rfl hl.1 rfl (Nat.le_of_ble_eq_true rfl) dX6_mark_2 ⟨Nat.zero_le _, Nat.zero_le _⟩ (fun r_2 u_2 H locs hw_2 hP hD hS => ?_)
  obtain ⟨z_2, hw_2, rfl⟩ := hw_2
  rw [hw_2, let1_mk z_2] at hF
  refine qv_zif_eq (tgt := 45) hx hb dX6_mark_5 (by decide) (fun c_5 => ?_) (fun c_5 => ?_)
  · rw [if_neg c_5] at hF
    refine lv_aload_n hx hb dX6_mark_45 rfl (lv_at hl 0 rfl) ?_
    refine lv_bipush (v := (-2)) hx hb dX6_mark_46 (by decide) ?_
    refine qc_Vi (C := RX6) (As := [.int ((-2))]) (rest := []) (ci := 6) (k0 := 0) ⟨hx, hb, hml, hown, hts⟩ (c_X6_bad l dC dI q cI cZ H.size w kp tx td ab be su po st nu li fi ga hh ((-2)) ) (cwV 1 hts gX6_mark_X6_bad rfl rfl rfl (by decide +kernel) ⟨Nat.le_of_ble_eq_true rfl, Nat.le_of_ble_eq_true rfl⟩) hK hP hD hS hA rfl rfl rfl rfl hl.1 rfl (Nat.le_of_ble_eq_true rfl) dX6_mark_48 ⟨Nat.zero_le _, Nat.zero_le _⟩ (fun r_48 u_48 H locs hw_48 hP hD hS => ?_)
    obtain ⟨su_48, rfl⟩ : ∃ z, z = u_48 := ⟨_, rfl⟩
    have hP : va_P (dC, dI) vwCl (mW q cI cZ w kp tx td ab be su_48 po st nu li fi ga hh) H := hP
    have hD : va_D A (mW q cI cZ w kp tx td ab be su_48 po st nu li fi ga hh) := hD
    rw [hw_48, let2_mk r_48 su_48] at hF
    have hP9 : va_P (dC, dI) vwCl (mW q cI cZ w kp tx td ab be su_48 po st nu li fi ga hh) H := hP
    exact W.iret (v := r_48) hx hb hr (fun t ht hW => ⟨⟨_, ((w, su_48)), rfl, hO.symm.trans hF, by rw [ht]; exact hP9, va_K.moved hW.alike hK, hD⟩, hS.F ht⟩) hS.2.2 dX6_mark_51
  · rw [if_pos c_5] at hF
    obtain ⟨f_i, fb_i⟩ := isBatter_nat hw_2 c_5 pB
    have e_i := tN_eq f_i
    refine lv_iload_n hx hb dX6_mark_8 rfl (lv_at hl 2 rfl) ?_
    refine lv_i2l hx hb dX6_mark_9 rfl ?_
    refine lv_lconst (v := 1) hx hb dX6_mark_10 (by decide) ?_
    refine lv_ldc2 (v := 5) hx hb hown (hts (.constantLong RX6 87 5) (by decide +kernel)) dX6_mark_11 ?_
    refine qc_Si (As := [.long lg.toInt64, .long 1, .long 5]) (rest := []) ⟨hx, hb, hml, hown, hts⟩ (c_X6_in l lg.toInt64 1 5) (va_cwS 3 hts gX6_mark_X6_in rfl rfl rfl (by decide +kernel) ⟨Nat.le_of_ble_eq_true rfl, Nat.le_of_ble_eq_true rfl⟩) rfl hl.1 rfl (Nat.le_of_ble_eq_true rfl) dX6_mark_14 ⟨Nat.zero_le _, Nat.zero_le _⟩ (fun r_14 hw_14 => ?_)
    subst hw_14
    refine qv_zif_eq (tgt := 45) hx hb dX6_mark_17 (by decide) (fun c_17 => ?_) (fun c_17 => ?_)
    · rw [if_neg c_17] at hF
      refine lv_aload_n hx hb dX6_mark_45 rfl (lv_at hl 0 rfl) ?_
      refine lv_bipush (v := (-2)) hx hb dX6_mark_46 (by decide) ?_
      refine qc_Vi (C := RX6) (As := [.int ((-2))]) (rest := []) (ci := 6) (k0 := 0) ⟨hx, hb, hml, hown, hts⟩ (c_X6_bad l dC dI q cI cZ H.size w kp tx td ab be su po st nu li fi ga hh ((-2)) ) (cwV 1 hts gX6_mark_X6_bad rfl rfl rfl (by decide +kernel) ⟨Nat.le_of_ble_eq_true rfl, Nat.le_of_ble_eq_true rfl⟩) hK hP hD hS hA rfl rfl rfl rfl hl.1 rfl (Nat.le_of_ble_eq_true rfl) dX6_mark_48 ⟨Nat.zero_le _, Nat.zero_le _⟩ (fun r_48 u_48 H locs hw_48 hP hD hS => ?_)
      obtain ⟨su_48, rfl⟩ : ∃ z, z = u_48 := ⟨_, rfl⟩
      have hP : va_P (dC, dI) vwCl (mW q cI cZ w kp tx td ab be su_48 po st nu li fi ga hh) H := hP
      have hD : va_D A (mW q cI cZ w kp tx td ab be su_48 po st nu li fi ga hh) := hD
      rw [hw_48, let2_mk r_48 su_48] at hF
      have hP9 : va_P (dC, dI) vwCl (mW q cI cZ w kp tx td ab be su_48 po st nu li fi ga hh) H := hP
      exact W.iret (v := r_48) hx hb hr (fun t ht hW => ⟨⟨_, ((w, su_48)), rfl, hO.symm.trans hF, by rw [ht]; exact hP9, va_K.moved hW.alike hK, hD⟩, hS.F ht⟩) hS.2.2 dX6_mark_51
    · rw [if_pos c_17] at hF
      obtain ⟨f_lg, fa_lg, fb_lg⟩ := in_nat (lo := 1) (hi := 5) rfl rfl (by decide) (by decide) c_17
      have e_lg := tN_eq f_lg
      refine lv_iload_n hx hb dX6_mark_20 rfl (lv_at hl 3 rfl) ?_
      refine lv_i2l hx hb dX6_mark_21 rfl ?_
      refine lv_lconst (v := 0) hx hb dX6_mark_22 (by decide) ?_
      refine lv_ldc2 (v := 20) hx hb hown (hts (.constantLong RX6 214 20) (by decide +kernel)) dX6_mark_23 ?_
      refine qc_Si (As := [.long g.toInt64, .long 0, .long 20]) (rest := []) ⟨hx, hb, hml, hown, hts⟩ (c_X6_in l g.toInt64 0 20) (va_cwS 3 hts gX6_mark_X6_in rfl rfl rfl (by decide +kernel) ⟨Nat.le_of_ble_eq_true rfl, Nat.le_of_ble_eq_true rfl⟩) rfl hl.1 rfl (Nat.le_of_ble_eq_true rfl) dX6_mark_26 ⟨Nat.zero_le _, Nat.zero_le _⟩ (fun r_26 hw_26 => ?_)
      subst hw_26
      refine qv_zif_eq (tgt := 45) hx hb dX6_mark_29 (by decide) (fun c_29 => ?_) (fun c_29 => ?_)
      · rw [if_neg c_29] at hF
        refine lv_aload_n hx hb dX6_mark_45 rfl (lv_at hl 0 rfl) ?_
        refine lv_bipush (v := (-2)) hx hb dX6_mark_46 (by decide) ?_
        refine qc_Vi (C := RX6) (As := [.int ((-2))]) (rest := []) (ci := 6) (k0 := 0) ⟨hx, hb, hml, hown, hts⟩ (c_X6_bad l dC dI q cI cZ H.size w kp tx td ab be su po st nu li fi ga hh ((-2)) ) (cwV 1 hts gX6_mark_X6_bad rfl rfl rfl (by decide +kernel) ⟨Nat.le_of_ble_eq_true rfl, Nat.le_of_ble_eq_true rfl⟩) hK hP hD hS hA rfl rfl rfl rfl hl.1 rfl (Nat.le_of_ble_eq_true rfl) dX6_mark_48 ⟨Nat.zero_le _, Nat.zero_le _⟩ (fun r_48 u_48 H locs hw_48 hP hD hS => ?_)
        obtain ⟨su_48, rfl⟩ : ∃ z, z = u_48 := ⟨_, rfl⟩
        have hP : va_P (dC, dI) vwCl (mW q cI cZ w kp tx td ab be su_48 po st nu li fi ga hh) H := hP
        have hD : va_D A (mW q cI cZ w kp tx td ab be su_48 po st nu li fi ga hh) := hD
        rw [hw_48, let2_mk r_48 su_48] at hF
        have hP9 : va_P (dC, dI) vwCl (mW q cI cZ w kp tx td ab be su_48 po st nu li fi ga hh) H := hP
        exact W.iret (v := r_48) hx hb hr (fun t ht hW => ⟨⟨_, ((w, su_48)), rfl, hO.symm.trans hF, by rw [ht]; exact hP9, va_K.moved hW.alike hK, hD⟩, hS.F ht⟩) hS.2.2 dX6_mark_51
      · rw [if_pos c_29] at hF
        obtain ⟨f_g, fa_g, fb_g⟩ := in_nat (lo := 0) (hi := 20) rfl rfl (by decide) (by decide) c_29
        have e_g := tN_eq f_g
        refine lv_iload hx hb dX6_mark_32 (lv_at hl 4 rfl) ?_
        refine lv_i2l hx hb dX6_mark_34 rfl ?_
        refine lv_lconst (v := 0) hx hb dX6_mark_35 (by decide) ?_
        refine lv_ldc2 (v := 9) hx hb hown (hts (.constantLong RX6 175 9) (by decide +kernel)) dX6_mark_36 ?_
        refine qc_Si (As := [.long x.toInt64, .long 0, .long 9]) (rest := []) ⟨hx, hb, hml, hown, hts⟩ (c_X6_in l x.toInt64 0 9) (va_cwS 3 hts gX6_mark_X6_in rfl rfl rfl (by decide +kernel) ⟨Nat.le_of_ble_eq_true rfl, Nat.le_of_ble_eq_true rfl⟩) rfl hl.1 rfl (Nat.le_of_ble_eq_true rfl) dX6_mark_39 ⟨Nat.zero_le _, Nat.zero_le _⟩ (fun r_39 hw_39 => ?_)
        subst hw_39
        refine qv_zif_ne (tgt := 52) hx hb dX6_mark_42 (by decide) (fun c_42 => ?_) (fun c_42 => ?_)
        · rw [if_pos c_42] at hF
          obtain ⟨f_x, fa_x, fb_x⟩ := in_nat (lo := 0) (hi := 9) rfl rfl (by decide) (by decide) c_42
          have e_x := tN_eq f_x
          refine lv_aload_n hx hb dX6_mark_52 rfl (lv_at hl 0 rfl) ?_
          refine va_get (D := (dC, dI)) (ci := 6) (v := .ref (q 1)) (C := RX6) (T := TX6) (N := 14) hx hb hts hin hown hK hP 0 rfl rfl 0 (by decide) lk7 (fun _ h9 => h9) rfl dX6_mark_53 ?_
          refine lv_bipush (v := nI 50) hx hb dX6_mark_56 (by decide) ?_
          refine qv_ald (v := w 50) hx hb hK hP 1 0 rfl rfl (by omega) (by decide) (rfl) dX6_mark_58 ?_
          refine qv_top (e_pMa) ?_
          refine lv_bipush (v := nI 6) hx hb dX6_mark_59 (by decide) ?_
          refine qv_icmp_ne (tgt := 69) hx hb dX6_mark_61 (by decide) (by omega) (by omega) (fun c_61 => ?_) (fun c_61 => ?_)
          · rw [if_neg c_61] at hF
            refine lv_bipush (v := nI 51) hx hb dX6_mark_69 (by decide) ?_
            refine lv_iconst (v := nI 4) hx hb dX6_mark_71 (by decide) ?_
            refine lv_aload_n hx hb dX6_mark_72 rfl (lv_at hl 0 rfl) ?_
            refine va_get (D := (dC, dI)) (ci := 6) (v := .ref (q 1)) (C := RX6) (T := TX6) (N := 14) hx hb hts hin hown hK hP 0 rfl rfl 0 (by decide) lk7 (fun _ h9 => h9) rfl dX6_mark_73 ?_
            refine lv_bipush (v := nI 50) hx hb dX6_mark_76 (by decide) ?_
            refine qv_ald (v := w 50) hx hb hK hP 1 0 rfl rfl (by omega) (by decide) (rfl) dX6_mark_78 ?_
            refine qv_top (e_pMa) ?_
            refine qv_imul hx hb (4 * tN (w 50)) dX6_mark_79 (by omega) ?_
            refine qv_iadd hx hb (4 * tN (w 50) + 51) dX6_mark_80 (by omega) ?_
            refine lv_istore (lv' := [(5, .int (nI (4 * tN (w 50) + 51))), (0, .ref (q 0)), (1, .int i), (2, .int lg), (3, .int g), (4, .int x)]) hx hb dX6_mark_81 hl (by decide) rfl (fun ls hl => ?_)
            refine lv_aload_n hx hb dX6_mark_83 rfl (lv_at hl 1 rfl) ?_
            refine va_get (D := (dC, dI)) (ci := 6) (v := .ref (q 1)) (C := RX6) (T := TX6) (N := 14) hx hb hts hin hown hK hP 0 rfl rfl 0 (by decide) lk7 (fun _ h9 => h9) rfl dX6_mark_84 ?_
            refine lv_iload hx hb dX6_mark_87 (lv_at hl 0 rfl) ?_
            refine lv_iload_n hx hb dX6_mark_89 rfl (lv_at hl 2 rfl) ?_
            refine qv_top (e_i) ?_
            refine qv_ast (ws' := mW q cI cZ (upd w (4 * tN (w 50) + 51) (nI (tN i))) kp tx td ab be su po st nu li fi ga hh) hx hb hK hP hD hS 1 0 rfl rfl (by omega) (by decide) dX6_mark_90 rfl (fun H locs hP hD hS => ?_)
            refine lv_aload_n hx hb dX6_mark_91 rfl (lv_at hl 1 rfl) ?_
            refine va_get (D := (dC, dI)) (ci := 6) (v := .ref (q 1)) (C := RX6) (T := TX6) (N := 14) hx hb hts hin hown hK hP 0 rfl rfl 0 (by decide) lk7 (fun _ h9 => h9) rfl dX6_mark_92 ?_
            refine lv_iload hx hb dX6_mark_95 (lv_at hl 0 rfl) ?_
            refine lv_iconst (v := nI 1) hx hb dX6_mark_97 (by decide) ?_
            refine qv_iadd hx hb (4 * tN (w 50) + 52) dX6_mark_98 (by omega) ?_
            refine lv_iload_n hx hb dX6_mark_99 rfl (lv_at hl 3 rfl) ?_
            refine qv_top (e_lg) ?_
            refine qv_ast (ws' := mW q cI cZ (upd (upd w (4 * tN (w 50) + 51) (nI (tN i))) (4 * tN (w 50) + 52) (nI (tN lg))) kp tx td ab be su po st nu li fi ga hh) hx hb hK hP hD hS 1 0 rfl rfl (by omega) (by decide) dX6_mark_100 rfl (fun H locs hP hD hS => ?_)
            refine lv_aload_n hx hb dX6_mark_101 rfl (lv_at hl 1 rfl) ?_
            refine va_get (D := (dC, dI)) (ci := 6) (v := .ref (q 1)) (C := RX6) (T := TX6) (N := 14) hx hb hts hin hown hK hP 0 rfl rfl 0 (by decide) lk7 (fun _ h9 => h9) rfl dX6_mark_102 ?_
            refine lv_iload hx hb dX6_mark_105 (lv_at hl 0 rfl) ?_
            refine lv_iconst (v := nI 2) hx hb dX6_mark_107 (by decide) ?_
            refine qv_iadd hx hb (4 * tN (w 50) + 53) dX6_mark_108 (by omega) ?_
            refine lv_iload_n hx hb dX6_mark_109 rfl (lv_at hl 4 rfl) ?_
            refine qv_top (e_g) ?_
            refine qv_ast (ws' := mW q cI cZ (upd (upd (upd w (4 * tN (w 50) + 51) (nI (tN i))) (4 * tN (w 50) + 52) (nI (tN lg))) (4 * tN (w 50) + 53) (nI (tN g))) kp tx td ab be su po st nu li fi ga hh) hx hb hK hP hD hS 1 0 rfl rfl (by omega) (by decide) dX6_mark_110 rfl (fun H locs hP hD hS => ?_)
            refine lv_aload_n hx hb dX6_mark_111 rfl (lv_at hl 1 rfl) ?_
            refine va_get (D := (dC, dI)) (ci := 6) (v := .ref (q 1)) (C := RX6) (T := TX6) (N := 14) hx hb hts hin hown hK hP 0 rfl rfl 0 (by decide) lk7 (fun _ h9 => h9) rfl dX6_mark_112 ?_
            refine lv_iload hx hb dX6_mark_115 (lv_at hl 0 rfl) ?_
            refine lv_iconst (v := nI 3) hx hb dX6_mark_117 (by decide) ?_
            refine qv_iadd hx hb (4 * tN (w 50) + 54) dX6_mark_118 (by omega) ?_
            refine lv_iload hx hb dX6_mark_119 (lv_at hl 5 rfl) ?_
            refine qv_top (e_x) ?_
            refine qv_ast (ws' := mW q cI cZ (upd (upd (upd (upd w (4 * tN (w 50) + 51) (nI (tN i))) (4 * tN (w 50) + 52) (nI (tN lg))) (4 * tN (w 50) + 53) (nI (tN g))) (4 * tN (w 50) + 54) (nI (tN x))) kp tx td ab be su po st nu li fi ga hh) hx hb hK hP hD hS 1 0 rfl rfl (by omega) (by decide) dX6_mark_121 rfl (fun H locs hP hD hS => ?_)
            refine lv_aload_n hx hb dX6_mark_122 rfl (lv_at hl 1 rfl) ?_
            refine va_get (D := (dC, dI)) (ci := 6) (v := .ref (q 1)) (C := RX6) (T := TX6) (N := 14) hx hb hts hin hown hK hP 0 rfl rfl 0 (by decide) lk7 (fun _ h9 => h9) rfl dX6_mark_123 ?_
            refine lv_bipush (v := nI 50) hx hb dX6_mark_126 (by decide) ?_
            refine lv_dup2_11 hx hb dX6_mark_128 rfl rfl ?_
            refine qv_ald (v := w 50) hx hb hK hP 1 0 rfl rfl (by omega) (by decide) ((pk_un (by omega)).trans ((pk_un (by omega)).trans ((pk_un (by omega)).trans (pk_un (by omega))))) dX6_mark_129 ?_
            refine qv_top (e_pMa) ?_
            refine lv_iconst (v := nI 1) hx hb dX6_mark_130 (by decide) ?_
            refine qv_iadd hx hb (tN (w 50) + 1) dX6_mark_131 (by omega) ?_
            refine qv_ast (ws' := mW q cI cZ (upd (upd (upd (upd (upd w (4 * tN (w 50) + 51) (nI (tN i))) (4 * tN (w 50) + 52) (nI (tN lg))) (4 * tN (w 50) + 53) (nI (tN g))) (4 * tN (w 50) + 54) (nI (tN x))) 50 (nI (tN (w 50) + 1))) kp tx td ab be su po st nu li fi ga hh) hx hb hK hP hD hS 1 0 rfl rfl (by omega) (by decide) dX6_mark_132 rfl (fun H locs hP hD hS => ?_)
            refine lv_aload_n hx hb dX6_mark_133 rfl (lv_at hl 1 rfl) ?_
            refine va_get (D := (dC, dI)) (ci := 6) (v := .ref (q 1)) (C := RX6) (T := TX6) (N := 14) hx hb hts hin hown hK hP 0 rfl rfl 0 (by decide) lk7 (fun _ h9 => h9) rfl dX6_mark_134 ?_
            refine lv_bipush (v := nI 50) hx hb dX6_mark_137 (by decide) ?_
            refine qv_ald (v := nI (tN (w 50) + 1)) hx hb hK hP 1 0 rfl rfl (by omega) (by decide) (pk_us) dX6_mark_139 ?_
            have hP9 : va_P (dC, dI) vwCl (mW q cI cZ (upd (upd (upd (upd (upd w (4 * tN (w 50) + 51) (nI (tN i))) (4 * tN (w 50) + 52) (nI (tN lg))) (4 * tN (w 50) + 53) (nI (tN g))) (4 * tN (w 50) + 54) (nI (tN x))) 50 (nI (tN (w 50) + 1))) kp tx td ab be su po st nu li fi ga hh) H := hP
            exact W.iret (v := nI (tN (w 50) + 1)) hx hb hr (fun t ht hW => ⟨⟨_, ((upd (upd (upd (upd (upd w (4 * tN (w 50) + 51) (nI (tN i))) (4 * tN (w 50) + 52) (nI (tN lg))) (4 * tN (w 50) + 53) (nI (tN g))) (4 * tN (w 50) + 54) (nI (tN x))) 50 (nI (tN (w 50) + 1)), su)), rfl, hO.symm.trans hF, by rw [ht]; exact hP9, va_K.moved hW.alike hK, hD⟩, hS.F ht⟩) hS.2.2 dX6_mark_140
          · rw [if_pos c_61] at hF
            refine lv_aload_n hx hb dX6_mark_64 rfl (lv_at hl 0 rfl) ?_
            refine qc_Vi (C := RX6) (As := []) (rest := []) (ci := 6) (k0 := 0) ⟨hx, hb, hml, hown, hts⟩ (c_X6_full l dC dI q cI cZ H.size w kp tx td ab be su po st nu li fi ga hh  ) (cwV 0 hts gX6_mark_X6_full rfl rfl rfl (by decide +kernel) ⟨Nat.le_of_ble_eq_true rfl, Nat.le_of_ble_eq_true rfl⟩) hK hP hD hS hA rfl rfl rfl rfl hl.1 rfl (Nat.le_of_ble_eq_true rfl) dX6_mark_65 ⟨Nat.zero_le _, Nat.zero_le _⟩ (fun r_65 u_65 H locs hw_65 hP hD hS => ?_)
            obtain ⟨su_65, rfl⟩ : ∃ z, z = u_65 := ⟨_, rfl⟩
            have hP : va_P (dC, dI) vwCl (mW q cI cZ w kp tx td ab be su_65 po st nu li fi ga hh) H := hP
            have hD : va_D A (mW q cI cZ w kp tx td ab be su_65 po st nu li fi ga hh) := hD
            rw [hw_65, let2_mk r_65 su_65] at hF
            have hP9 : va_P (dC, dI) vwCl (mW q cI cZ w kp tx td ab be su_65 po st nu li fi ga hh) H := hP
            exact W.iret (v := r_65) hx hb hr (fun t ht hW => ⟨⟨_, ((w, su_65)), rfl, hO.symm.trans hF, by rw [ht]; exact hP9, va_K.moved hW.alike hK, hD⟩, hS.F ht⟩) hS.2.2 dX6_mark_68
        · rw [if_neg c_42] at hF
          refine lv_aload_n hx hb dX6_mark_45 rfl (lv_at hl 0 rfl) ?_
          refine lv_bipush (v := (-2)) hx hb dX6_mark_46 (by decide) ?_
          refine qc_Vi (C := RX6) (As := [.int ((-2))]) (rest := []) (ci := 6) (k0 := 0) ⟨hx, hb, hml, hown, hts⟩ (c_X6_bad l dC dI q cI cZ H.size w kp tx td ab be su po st nu li fi ga hh ((-2)) ) (cwV 1 hts gX6_mark_X6_bad rfl rfl rfl (by decide +kernel) ⟨Nat.le_of_ble_eq_true rfl, Nat.le_of_ble_eq_true rfl⟩) hK hP hD hS hA rfl rfl rfl rfl hl.1 rfl (Nat.le_of_ble_eq_true rfl) dX6_mark_48 ⟨Nat.zero_le _, Nat.zero_le _⟩ (fun r_48 u_48 H locs hw_48 hP hD hS => ?_)
          obtain ⟨su_48, rfl⟩ : ∃ z, z = u_48 := ⟨_, rfl⟩
          have hP : va_P (dC, dI) vwCl (mW q cI cZ w kp tx td ab be su_48 po st nu li fi ga hh) H := hP
          have hD : va_D A (mW q cI cZ w kp tx td ab be su_48 po st nu li fi ga hh) := hD
          rw [hw_48, let2_mk r_48 su_48] at hF
          have hP9 : va_P (dC, dI) vwCl (mW q cI cZ w kp tx td ab be su_48 po st nu li fi ga hh) H := hP
          exact W.iret (v := r_48) hx hb hr (fun t ht hW => ⟨⟨_, ((w, su_48)), rfl, hO.symm.trans hF, by rw [ht]; exact hP9, va_K.moved hW.alike hK, hD⟩, hS.F ht⟩) hS.2.2 dX6_mark_51
def F_X6_forget (w : Nat → Int32) (su : Nat → Int32) (wh : Int32) : Int32 × (Nat → Int32) × (Nat → Int32) := if (F_X6_in wh.toInt64 0 1) = true then (if tN wh = 0 then (w 31, (upd w 31 (nI 0)), su) else (w 50, (upd w 50 (nI 0)), su)) else let2 (F_X6_bad su ((-2))) (fun r_13 su_13 => (r_13, w, su_13))
set_option maxHeartbeats 4000000 in
set_option maxRecDepth 100000 in
theorem c_X6_forget (l : Launch) (dC : Nat → ClassId) (dI : Nat → Nat → Nat) (q : Nat → Nat) (cI cZ : ClassId) (sz : Nat) (w : Nat → Int32) (kp : Nat → Int32) (tx : Nat → Int32) (td : Int32) (ab : Int64) (be : Int64) (su : Nat → Int32) (po : Int32) (st : Int32) (nu : Int32) (li : Nat → Int32) (fi : Nat → Int32) (ga : Nat → Int32) (hh : Int64) (wh : Int32) : Met l yX6_forget wsX6_forget { frames := 1, cells := 0, slots := 0, locals := 25 } (mPc (dC, dI) vwCl (mT cI cZ) (mW q cI cZ w kp tx td ab be su po st nu li fi ga hh) sz [.ref (q 0), .int wh]) (va_Qi (fun (r : Int32) (u : (Nat → Int32) × (Nat → Int32)) => F_X6_forget w su wh = (r, u)) (mB (dC, dI) vwCl (mT cI cZ) (va_A (mW q cI cZ w kp tx td ab be su po st nu li fi ga hh) sz) (fun u => mW q cI cZ u.1 kp tx td ab be u.2 po st nu li fi ga hh)) (va_A (mW q cI cZ w kp tx td ab be su po st nu li fi ga hh) sz)) 0 0 (va_A (mW q cI cZ w kp tx td ab be su po st nu li fi ga hh) sz) := by
  refine Met.ofW (cc := cX6_forget) (maxL := 4) (ret := (some .int)) (by decide) rfl ?_
  intro p e s m args below meth c s₁ B hml hv
  obtain ⟨rfl, hsz, hP, hK, hD0⟩ := hv
  have hx := B.exec
  have hb := B.bytes
  have hr := B.returns
  have hts := atoms_spec (ws := wsX6_forget) B.pre
  have hown : s.vm.findClass RX6 = some m.cls := findClass_of_methodNamed B.named
  have hlocks := B.notSynchronized
  subst hsz
  have hD := hD0.self (sz := s.heap.size)
  generalize hAe : va_A (mW q cI cZ w kp tx td ab be su po st nu li fi ga hh) s.heap.size = A at hD ⊢
  have hA : ∀ q : Nat, s.heap.size ≤ q → A q := fun q h => by rw [← hAe]; exact Or.inr h
  have hS : va_S A s.heap s.heap [] := va_S.rf
  have hin : ∀ w ∈ wsX60, w ∈ wsX6_forget := by decide +kernel
  have lk7 := hts (.fieldLink RX6 7 "PostRoundersModel" "w" "[I") (by decide +kernel)
  have hl := lv_entry ([.ref (q 0), .int wh]) (n := 4) (Nat.le_of_ble_eq_true rfl)
  rw [lg_entry_eq]
  generalize (lg_sl ([.ref (q 0), .int wh]) ++ List.replicate (4 - (lg_sl ([.ref (q 0), .int wh])).length) Slot.unset).toArray = ls at hl ⊢
  have hl : lv_has ls 4 [(0, .ref (q 0)), (1, .int wh)] := hl
  obtain ⟨OUT, hO⟩ : ∃ z, z = F_X6_forget w su wh := ⟨_, rfl⟩
  have hF := hO
  unfold F_X6_forget at hF
  refine lv_iload_n hx hb dX6_forget_0 rfl (lv_at hl 1 rfl) ?_
  refine lv_i2l hx hb dX6_forget_1 rfl ?_
  refine lv_lconst (v := 0) hx hb dX6_forget_2 (by decide) ?_
  refine lv_lconst (v := 1) hx hb dX6_forget_3 (by decide) ?_
  refine qc_Si (As := [.long wh.toInt64, .long 0, .long 1]) (rest := []) ⟨hx, hb, hml, hown, hts⟩ (c_X6_in l wh.toInt64 0 1) (va_cwS 3 hts gX6_forget_X6_in rfl rfl rfl (by decide +kernel) ⟨Nat.le_of_ble_eq_true rfl, Nat.le_of_ble_eq_true rfl⟩) rfl hl.1 rfl (Nat.le_of_ble_eq_true rfl) dX6_forget_4 ⟨Nat.zero_le _, Nat.zero_le _⟩ (fun r_4 hw_4 => ?_)
  subst hw_4
  refine qv_zif_ne (tgt := 17) hx hb dX6_forget_7 (by decide) (fun c_7 => ?_) (fun c_7 => ?_)
  · rw [if_pos c_7] at hF
    obtain ⟨f_wh, fa_wh, fb_wh⟩ := in_nat (lo := 0) (hi := 1) rfl rfl (by decide) (by decide) c_7
    have e_wh := tN_eq f_wh
    refine lv_iload_n hx hb dX6_forget_17 rfl (lv_at hl 1 rfl) ?_
    refine qv_top (e_wh) ?_
    refine qv_if_ne (tgt := 26) hx hb dX6_forget_18 (by decide) (by omega) (fun c_18 => ?_) (fun c_18 => ?_)
    · rw [if_neg c_18] at hF
      refine lv_bipush (v := nI 50) hx hb dX6_forget_26 (by decide) ?_
      refine lv_istore_n (lv' := [(2, .int (nI 50)), (0, .ref (q 0)), (1, .int wh)]) hx hb dX6_forget_28 rfl hl (by decide) rfl (fun ls hl => ?_)
      refine lv_aload_n hx hb dX6_forget_29 rfl (lv_at hl 1 rfl) ?_
      refine va_get (D := (dC, dI)) (ci := 6) (v := .ref (q 1)) (C := RX6) (T := TX6) (N := 14) hx hb hts hin hown hK hP 0 rfl rfl 0 (by decide) lk7 (fun _ h9 => h9) rfl dX6_forget_30 ?_
      refine lv_iload_n hx hb dX6_forget_33 rfl (lv_at hl 0 rfl) ?_
      refine qv_ald (v := w 50) hx hb hK hP 1 0 rfl rfl (by omega) (by decide) (rfl) dX6_forget_34 ?_
      refine lv_istore_n (lv' := [(3, .int (w 50)), (2, .int (nI 50)), (0, .ref (q 0)), (1, .int wh)]) hx hb dX6_forget_35 rfl hl (by decide) rfl (fun ls hl => ?_)
      refine lv_aload_n hx hb dX6_forget_36 rfl (lv_at hl 2 rfl) ?_
      refine va_get (D := (dC, dI)) (ci := 6) (v := .ref (q 1)) (C := RX6) (T := TX6) (N := 14) hx hb hts hin hown hK hP 0 rfl rfl 0 (by decide) lk7 (fun _ h9 => h9) rfl dX6_forget_37 ?_
      refine lv_iload_n hx hb dX6_forget_40 rfl (lv_at hl 1 rfl) ?_
      refine lv_iconst (v := nI 0) hx hb dX6_forget_41 (by decide) ?_
      refine qv_ast (ws' := mW q cI cZ (upd w 50 (nI 0)) kp tx td ab be su po st nu li fi ga hh) hx hb hK hP hD hS 1 0 rfl rfl (by omega) (by decide) dX6_forget_42 rfl (fun H locs hP hD hS => ?_)
      refine lv_iload_n hx hb dX6_forget_43 rfl (lv_at hl 0 rfl) ?_
      have hP9 : va_P (dC, dI) vwCl (mW q cI cZ (upd w 50 (nI 0)) kp tx td ab be su po st nu li fi ga hh) H := hP
      exact W.iret (v := w 50) hx hb hr (fun t ht hW => ⟨⟨_, ((upd w 50 (nI 0), su)), rfl, hO.symm.trans hF, by rw [ht]; exact hP9, va_K.moved hW.alike hK, hD⟩, hS.F ht⟩) hS.2.2 dX6_forget_44
    · rw [if_pos c_18] at hF
      refine lv_bipush (v := nI 31) hx hb dX6_forget_21 (by decide) ?_
      refine lv_goto (tgt := 28) hx hb dX6_forget_23 (by decide) ?_
      refine lv_istore_n (lv' := [(2, .int (nI 31)), (0, .ref (q 0)), (1, .int wh)]) hx hb dX6_forget_28 rfl hl (by decide) rfl (fun ls hl => ?_)
      refine lv_aload_n hx hb dX6_forget_29 rfl (lv_at hl 1 rfl) ?_
      refine va_get (D := (dC, dI)) (ci := 6) (v := .ref (q 1)) (C := RX6) (T := TX6) (N := 14) hx hb hts hin hown hK hP 0 rfl rfl 0 (by decide) lk7 (fun _ h9 => h9) rfl dX6_forget_30 ?_
      refine lv_iload_n hx hb dX6_forget_33 rfl (lv_at hl 0 rfl) ?_
      refine qv_ald (v := w 31) hx hb hK hP 1 0 rfl rfl (by omega) (by decide) (rfl) dX6_forget_34 ?_
      refine lv_istore_n (lv' := [(3, .int (w 31)), (2, .int (nI 31)), (0, .ref (q 0)), (1, .int wh)]) hx hb dX6_forget_35 rfl hl (by decide) rfl (fun ls hl => ?_)
      refine lv_aload_n hx hb dX6_forget_36 rfl (lv_at hl 2 rfl) ?_
      refine va_get (D := (dC, dI)) (ci := 6) (v := .ref (q 1)) (C := RX6) (T := TX6) (N := 14) hx hb hts hin hown hK hP 0 rfl rfl 0 (by decide) lk7 (fun _ h9 => h9) rfl dX6_forget_37 ?_
      refine lv_iload_n hx hb dX6_forget_40 rfl (lv_at hl 1 rfl) ?_
      refine lv_iconst (v := nI 0) hx hb dX6_forget_41 (by decide) ?_
      refine qv_ast (ws' := mW q cI cZ (upd w 31 (nI 0)) kp tx td ab be su po st nu li fi ga hh) hx hb hK hP hD hS 1 0 rfl rfl (by omega) (by decide) dX6_forget_42 rfl (fun H locs hP hD hS => ?_)
      refine lv_iload_n hx hb dX6_forget_43 rfl (lv_at hl 0 rfl) ?_
      have hP9 : va_P (dC, dI) vwCl (mW q cI cZ (upd w 31 (nI 0)) kp tx td ab be su po st nu li fi ga hh) H := hP
      exact W.iret (v := w 31) hx hb hr (fun t ht hW => ⟨⟨_, ((upd w 31 (nI 0), su)), rfl, hO.symm.trans hF, by rw [ht]; exact hP9, va_K.moved hW.alike hK, hD⟩, hS.F ht⟩) hS.2.2 dX6_forget_44
  · rw [if_neg c_7] at hF
    refine lv_aload_n hx hb dX6_forget_10 rfl (lv_at hl 0 rfl) ?_
    refine lv_bipush (v := (-2)) hx hb dX6_forget_11 (by decide) ?_
    refine qc_Vi (C := RX6) (As := [.int ((-2))]) (rest := []) (ci := 6) (k0 := 0) ⟨hx, hb, hml, hown, hts⟩ (c_X6_bad l dC dI q cI cZ s.heap.size w kp tx td ab be su po st nu li fi ga hh ((-2)) ) (cwV 1 hts gX6_forget_X6_bad rfl rfl rfl (by decide +kernel) ⟨Nat.le_of_ble_eq_true rfl, Nat.le_of_ble_eq_true rfl⟩) hK hP hD hS hA rfl rfl rfl rfl hl.1 rfl (Nat.le_of_ble_eq_true rfl) dX6_forget_13 ⟨Nat.zero_le _, Nat.zero_le _⟩ (fun r_13 u_13 H locs hw_13 hP hD hS => ?_)
    obtain ⟨su_13, rfl⟩ : ∃ z, z = u_13 := ⟨_, rfl⟩
    have hP : va_P (dC, dI) vwCl (mW q cI cZ w kp tx td ab be su_13 po st nu li fi ga hh) H := hP
    have hD : va_D A (mW q cI cZ w kp tx td ab be su_13 po st nu li fi ga hh) := hD
    rw [hw_13, let2_mk r_13 su_13] at hF
    have hP9 : va_P (dC, dI) vwCl (mW q cI cZ w kp tx td ab be su_13 po st nu li fi ga hh) H := hP
    exact W.iret (v := r_13) hx hb hr (fun t ht hW => ⟨⟨_, ((w, su_13)), rfl, hO.symm.trans hF, by rw [ht]; exact hP9, va_K.moved hW.alike hK, hD⟩, hS.F ht⟩) hS.2.2 dX6_forget_16
def F_X6_is_L13 : Nat → (Nat → Int32) → (Nat) → (Nat) → (Int32) → (Nat) × (Int32)
  | 0, _, _, k, sf => (k, sf)
  | n_13 + 1, w, kd, k, sf => if tN (w 31) ≤ k then (k, sf) else (if (F_X6_comesTo (nI kd) (w (3 * k + 33)) (w (3 * k + 32))) = (w (3 * k + 34)) then F_X6_is_L13 n_13 w kd (k + 1) sf else F_X6_is_L13 n_13 w kd (k + 1) (sf &&& (((nI 1) <<< ((nI kd) &&& 31)) ^^^ ((-1)))))
def F_X6_is_L5 : Nat → (Nat → Int32) → (Nat) → (Int32) → (Nat) × (Int32)
  | 0, _, kd, se => (kd, se)
  | n_5 + 1, w, kd, se => if 6 ≤ kd then (kd, se) else let2 (F_X6_is_L13 7 w kd 0 se) (fun k sf => F_X6_is_L5 n_5 w (kd + 1) sf)
def F_X6_is (w : Nat → Int32) : Int32 := let2 (F_X6_is_L5 7 w 0 (nI 63)) (fun kd se => se)
set_option maxHeartbeats 4000000 in
set_option maxRecDepth 100000 in
theorem c_X6_is (l : Launch) (dC : Nat → ClassId) (dI : Nat → Nat → Nat) (q : Nat → Nat) (cI cZ : ClassId) (sz : Nat) (w : Nat → Int32) (kp : Nat → Int32) (tx : Nat → Int32) (td : Int32) (ab : Int64) (be : Int64) (su : Nat → Int32) (po : Int32) (st : Int32) (nu : Int32) (li : Nat → Int32) (fi : Nat → Int32) (ga : Nat → Int32) (hh : Int64) (pNo : inB (w 31) 6) : Met l yX6_is wsX6_is { frames := 2, cells := 0, slots := 0, locals := 43 } (mPc (dC, dI) vwCl (mT cI cZ) (mW q cI cZ w kp tx td ab be su po st nu li fi ga hh) sz [.ref (q 0)]) (va_Qi (fun (r : Int32) (u : Unit) => F_X6_is w = r) (mB (dC, dI) vwCl (mT cI cZ) (va_A (mW q cI cZ w kp tx td ab be su po st nu li fi ga hh) sz) (fun u => mW q cI cZ w kp tx td ab be su po st nu li fi ga hh)) (va_A (mW q cI cZ w kp tx td ab be su po st nu li fi ga hh) sz)) 0 0 (va_A (mW q cI cZ w kp tx td ab be su po st nu li fi ga hh) sz) := by
  refine Met.ofW (cc := cX6_is) (maxL := 5) (ret := (some .int)) (by decide) rfl ?_
  intro p e s m args below meth c s₁ B hml hv
  obtain ⟨rfl, hsz, hP, hK, hD0⟩ := hv
  have hx := B.exec
  have hb := B.bytes
  have hr := B.returns
  have hts := atoms_spec (ws := wsX6_is) B.pre
  have hown : s.vm.findClass RX6 = some m.cls := findClass_of_methodNamed B.named
  have hlocks := B.notSynchronized
  subst hsz
  have hD := hD0.self (sz := s.heap.size)
  generalize hAe : va_A (mW q cI cZ w kp tx td ab be su po st nu li fi ga hh) s.heap.size = A at hD ⊢
  have hA : ∀ q : Nat, s.heap.size ≤ q → A q := fun q h => by rw [← hAe]; exact Or.inr h
  have hS : va_S A s.heap s.heap [] := va_S.rf
  have hin : ∀ w ∈ wsX60, w ∈ wsX6_is := by decide +kernel
  have lk7 := hts (.fieldLink RX6 7 "PostRoundersModel" "w" "[I") (by decide +kernel)
  have hl := lv_entry ([.ref (q 0)]) (n := 5) (Nat.le_of_ble_eq_true rfl)
  rw [lg_entry_eq]
  generalize (lg_sl ([.ref (q 0)]) ++ List.replicate (5 - (lg_sl ([.ref (q 0)])).length) Slot.unset).toArray = ls at hl ⊢
  have hl : lv_has ls 5 [(0, .ref (q 0))] := hl
  obtain ⟨OUT, hO⟩ : ∃ z, z = F_X6_is w := ⟨_, rfl⟩
  have hF := hO
  unfold F_X6_is at hF
  have e_pNo := tN_eq pNo.1
  have b_pNo := pNo.2
  refine lv_bipush (v := nI 63) hx hb dX6_is_0 (by decide) ?_
  refine lv_istore_n (lv' := [(1, .int (nI 63)), (0, .ref (q 0))]) hx hb dX6_is_2 rfl hl (by decide) rfl (fun ls hl => ?_)
  refine lv_iconst (v := nI 0) hx hb dX6_is_3 (by decide) ?_
  refine lv_istore_n (lv' := [(2, .int (nI 0)), (1, .int (nI 63)), (0, .ref (q 0))]) hx hb dX6_is_4 rfl hl (by decide) rfl (fun ls hl => ?_)
  have L_5 : ∀ (n_5 : Nat) (kd : Nat) (se : Int32) (H : Heap) (locs : List Loc), kd ≤ 6 → 6 - kd < n_5 → va_P (dC, dI) vwCl (mW q cI cZ w kp tx td ab be su po st nu li fi ga hh) H → va_D A (mW q cI cZ w kp tx td ab be su po st nu li fi ga hh) → va_S A s.heap H locs → ∀ (ls : Array Slot), lv_has ls 5 [(2, .int (nI kd)), (1, .int se), (0, .ref (q 0))] → OUT = let2 (F_X6_is_L5 n_5 w kd se) (fun kd se => se) → W p l e (headSpec wsX6_is { frames := 2, cells := 0, slots := 0, locals := 43 }).room s m ([.ref (q 0)] : List Value).toArray below meth c H locs 0 0 (MQ below (va_Qi (fun (r : Int32) (u : Unit) => F_X6_is w = r) (mB (dC, dI) vwCl (mT cI cZ) A (fun u => mW q cI cZ w kp tx td ab be su po st nu li fi ga hh)) A) ([.ref (q 0)] : List Value).toArray s 0 0 A) (F0 m 5 ls []) := by
    intro n_5
    induction n_5 with
    | zero => intro kd se H locs i0 hmu; exact absurd hmu (Nat.not_lt_zero _)
    | succ n_5 ih_5 =>
      intro kd se H locs i0 hmu_5 hP hD hS ls hl hF
      rw [F_X6_is_L5] at hF
      refine lv_iload_n hx hb dX6_is_5 rfl (lv_at hl 0 rfl) ?_
      refine lv_bipush (v := nI 6) hx hb dX6_is_6 (by decide) ?_
      refine qv_icmp_ge (tgt := 84) hx hb dX6_is_8 (by decide) (by omega) (by omega) (fun c_8 => ?_) (fun c_8 => ?_)
      · rw [if_pos c_8] at hF
        rw [let2_mk (kd : Nat) (se : Int32)] at hF
        refine lv_iload_n hx hb dX6_is_84 rfl (lv_at hl 1 rfl) ?_
        have hP9 : va_P (dC, dI) vwCl (mW q cI cZ w kp tx td ab be su po st nu li fi ga hh) H := hP
        exact W.iret (v := se) hx hb hr (fun t ht hW => ⟨⟨_, (()), rfl, hO.symm.trans hF, by rw [ht]; exact hP9, va_K.moved hW.alike hK, hD⟩, hS.F ht⟩) hS.2.2 dX6_is_85
      · rw [if_neg c_8] at hF
        refine lv_iconst (v := nI 0) hx hb dX6_is_11 (by decide) ?_
        refine lv_istore_n (lv' := [(3, .int (nI 0)), (2, .int (nI kd)), (1, .int se), (0, .ref (q 0))]) hx hb dX6_is_12 rfl hl (by decide) rfl (fun ls hl => ?_)
        have L_13 : ∀ (n_13 : Nat) (k : Nat) (sf : Int32) (H : Heap) (locs : List Loc), k ≤ tN (w 31) → tN (w 31) - k < n_13 → va_P (dC, dI) vwCl (mW q cI cZ w kp tx td ab be su po st nu li fi ga hh) H → va_D A (mW q cI cZ w kp tx td ab be su po st nu li fi ga hh) → va_S A s.heap H locs → ∀ (ls : Array Slot), lv_has ls 5 [(3, .int (nI k)), (2, .int (nI kd)), (1, .int sf), (0, .ref (q 0))] → OUT = let2 (let2 (F_X6_is_L13 n_13 w kd k sf) (fun k sf => F_X6_is_L5 n_5 w (kd + 1) sf)) (fun kd se => se) → W p l e (headSpec wsX6_is { frames := 2, cells := 0, slots := 0, locals := 43 }).room s m ([.ref (q 0)] : List Value).toArray below meth c H locs 0 0 (MQ below (va_Qi (fun (r : Int32) (u : Unit) => F_X6_is w = r) (mB (dC, dI) vwCl (mT cI cZ) A (fun u => mW q cI cZ w kp tx td ab be su po st nu li fi ga hh)) A) ([.ref (q 0)] : List Value).toArray s 0 0 A) (F0 m 13 ls []) := by
          intro n_13
          induction n_13 with
          | zero => intro k sf H locs j0 hmu; exact absurd hmu (Nat.not_lt_zero _)
          | succ n_13 ih_13 =>
            intro k sf H locs j0 hmu_13 hP hD hS ls hl hF
            rw [F_X6_is_L13] at hF
            refine lv_iload_n hx hb dX6_is_13 rfl (lv_at hl 0 rfl) ?_
            refine lv_aload_n hx hb dX6_is_14 rfl (lv_at hl 3 rfl) ?_
            refine va_get (D := (dC, dI)) (ci := 6) (v := .ref (q 1)) (C := RX6) (T := TX6) (N := 14) hx hb hts hin hown hK hP 0 rfl rfl 0 (by decide) lk7 (fun _ h9 => h9) rfl dX6_is_15 ?_
            refine lv_bipush (v := nI 31) hx hb dX6_is_18 (by decide) ?_
            refine qv_ald (v := w 31) hx hb hK hP 1 0 rfl rfl (by omega) (by decide) (rfl) dX6_is_20 ?_
            refine qv_top (e_pNo) ?_
            refine qv_icmp_ge (tgt := 78) hx hb dX6_is_21 (by decide) (by omega) (by omega) (fun c_21 => ?_) (fun c_21 => ?_)
            · rw [if_pos c_21] at hF
              rw [let2_mk (k : Nat) (sf : Int32)] at hF
              refine lv_iinc (v := nI (kd + 1)) (lv' := [(2, .int (nI (kd + 1))), (3, .int (nI k)), (1, .int sf), (0, .ref (q 0))]) hx hb dX6_is_78 hl (k := 1) rfl (qn_inc (c := 1) rfl (by omega)) (by decide) rfl (fun ls hl => ?_)
              refine lv_goto (tgt := 5) hx hb dX6_is_81 (by decide) ?_
              exact ih_5 (kd + 1) sf H locs (by omega) (by omega) hP hD hS ls (lv_sub hl [0, 2, 3] rfl) hF
            · rw [if_neg c_21] at hF
              refine lv_bipush (v := nI 32) hx hb dX6_is_24 (by decide) ?_
              refine lv_iconst (v := nI 3) hx hb dX6_is_26 (by decide) ?_
              refine lv_iload_n hx hb dX6_is_27 rfl (lv_at hl 0 rfl) ?_
              refine qv_imul hx hb (3 * k) dX6_is_28 (by omega) ?_
              refine qv_iadd hx hb (3 * k + 32) dX6_is_29 (by omega) ?_
              refine lv_istore (lv' := [(4, .int (nI (3 * k + 32))), (3, .int (nI k)), (2, .int (nI kd)), (1, .int sf), (0, .ref (q 0))]) hx hb dX6_is_30 hl (by decide) rfl (fun ls hl => ?_)
              refine lv_iload_n hx hb dX6_is_32 rfl (lv_at hl 2 rfl) ?_
              refine lv_aload_n hx hb dX6_is_33 rfl (lv_at hl 4 rfl) ?_
              refine va_get (D := (dC, dI)) (ci := 6) (v := .ref (q 1)) (C := RX6) (T := TX6) (N := 14) hx hb hts hin hown hK hP 0 rfl rfl 0 (by decide) lk7 (fun _ h9 => h9) rfl dX6_is_34 ?_
              refine lv_iload hx hb dX6_is_37 (lv_at hl 0 rfl) ?_
              refine lv_iconst (v := nI 1) hx hb dX6_is_39 (by decide) ?_
              refine qv_iadd hx hb (3 * k + 33) dX6_is_40 (by omega) ?_
              refine qv_ald (v := w (3 * k + 33)) hx hb hK hP 1 0 rfl rfl (by omega) (by decide) (rfl) dX6_is_41 ?_
              refine lv_aload_n hx hb dX6_is_42 rfl (lv_at hl 4 rfl) ?_
              refine va_get (D := (dC, dI)) (ci := 6) (v := .ref (q 1)) (C := RX6) (T := TX6) (N := 14) hx hb hts hin hown hK hP 0 rfl rfl 0 (by decide) lk7 (fun _ h9 => h9) rfl dX6_is_43 ?_
              refine lv_iload hx hb dX6_is_46 (lv_at hl 0 rfl) ?_
              refine qv_ald (v := w (3 * k + 32)) hx hb hK hP 1 0 rfl rfl (by omega) (by decide) (rfl) dX6_is_48 ?_
              refine qc_Si (As := [.int (nI kd), .int (w (3 * k + 33)), .int (w (3 * k + 32))]) (rest := []) ⟨hx, hb, hml, hown, hts⟩ (c_X6_comesTo l (nI kd) (w (3 * k + 33)) (w (3 * k + 32))) (va_cwS 3 hts gX6_is_X6_comesTo rfl rfl rfl (by decide +kernel) ⟨Nat.le_of_ble_eq_true rfl, Nat.le_of_ble_eq_true rfl⟩) rfl hl.1 rfl (Nat.le_of_ble_eq_true rfl) dX6_is_49 ⟨Nat.zero_le _, Nat.zero_le _⟩ (fun r_49 hw_49 => ?_)
              subst hw_49
              refine lv_aload_n hx hb dX6_is_52 rfl (lv_at hl 4 rfl) ?_
              refine va_get (D := (dC, dI)) (ci := 6) (v := .ref (q 1)) (C := RX6) (T := TX6) (N := 14) hx hb hts hin hown hK hP 0 rfl rfl 0 (by decide) lk7 (fun _ h9 => h9) rfl dX6_is_53 ?_
              refine lv_iload hx hb dX6_is_56 (lv_at hl 0 rfl) ?_
              refine lv_iconst (v := nI 2) hx hb dX6_is_58 (by decide) ?_
              refine qv_iadd hx hb (3 * k + 34) dX6_is_59 (by omega) ?_
              refine qv_ald (v := w (3 * k + 34)) hx hb hK hP 1 0 rfl rfl (by omega) (by decide) (rfl) dX6_is_60 ?_
              refine lv_icmp_eq (tgt := 72) hx hb dX6_is_61 (by decide) (fun c_61 => ?_) (fun c_61 => ?_)
              · rw [if_pos c_61] at hF
                refine lv_iinc (v := nI (k + 1)) (lv' := [(3, .int (nI (k + 1))), (4, .int (nI (3 * k + 32))), (2, .int (nI kd)), (1, .int sf), (0, .ref (q 0))]) hx hb dX6_is_72 hl (k := 1) rfl (qn_inc (c := 1) rfl (by omega)) (by decide) rfl (fun ls hl => ?_)
                refine lv_goto (tgt := 13) hx hb dX6_is_75 (by decide) ?_
                exact ih_13 (k + 1) sf H locs (by omega) (by omega) hP hD hS ls (lv_sub hl [0, 2, 3, 4] rfl) hF
              · rw [if_neg c_61] at hF
                refine lv_iload_n hx hb dX6_is_64 rfl (lv_at hl 3 rfl) ?_
                refine lv_iconst (v := nI 1) hx hb dX6_is_65 (by decide) ?_
                refine lv_iload_n hx hb dX6_is_66 rfl (lv_at hl 2 rfl) ?_
                refine lv_ishl hx hb dX6_is_67 ?_
                refine lv_iconst (v := (-1)) hx hb dX6_is_68 (by decide) ?_
                refine lv_ixor hx hb dX6_is_69 ?_
                refine lv_iand hx hb dX6_is_70 ?_
                refine lv_istore_n (lv' := [(1, .int (sf &&& (((nI 1) <<< ((nI kd) &&& 31)) ^^^ ((-1))))), (4, .int (nI (3 * k + 32))), (3, .int (nI k)), (2, .int (nI kd)), (0, .ref (q 0))]) hx hb dX6_is_71 rfl hl (by decide) rfl (fun ls hl => ?_)
                refine lv_iinc (v := nI (k + 1)) (lv' := [(3, .int (nI (k + 1))), (1, .int (sf &&& (((nI 1) <<< ((nI kd) &&& 31)) ^^^ ((-1))))), (4, .int (nI (3 * k + 32))), (2, .int (nI kd)), (0, .ref (q 0))]) hx hb dX6_is_72 hl (k := 2) rfl (qn_inc (c := 1) rfl (by omega)) (by decide) rfl (fun ls hl => ?_)
                refine lv_goto (tgt := 13) hx hb dX6_is_75 (by decide) ?_
                exact ih_13 (k + 1) (sf &&& (((nI 1) <<< ((nI kd) &&& 31)) ^^^ ((-1)))) H locs (by omega) (by omega) hP hD hS ls (lv_sub hl [0, 3, 1, 4] rfl) hF
        exact L_13 7 0 se H locs (by omega) (by omega) hP hD hS ls (lv_sub hl [0, 1, 2, 3] rfl) hF
  exact L_5 7 0 (nI 63) s.heap [] (by omega) (by omega) hP hD hS ls (lv_sub hl [0, 1, 2] rfl) hF
def F_X6_look_L39 : Nat → (Int32) → (Nat) → (Nat) → (Nat) → (Nat) → (Nat) × (Nat)
  | 0, _, _, _, b, n0 => (b, n0)
  | n_39 + 1, r_1, cd, a, b, n0 => if 6 ≤ b then (b, n0) else (if (F_X6_has r_1 (nI a)) = true then (if (F_X6_has r_1 (nI b)) = true then (if (F_X6_comesTo (nI a) (nI ((cd % 10))) (nI ((cd / 10)))) = (F_X6_comesTo (nI b) (nI ((cd % 10))) (nI ((cd / 10)))) then F_X6_look_L39 n_39 r_1 cd a (b + 1) (n0 + 1) else F_X6_look_L39 n_39 r_1 cd a (b + 1) n0) else F_X6_look_L39 n_39 r_1 cd a (b + 1) n0) else F_X6_look_L39 n_39 r_1 cd a (b + 1) n0)
def F_X6_look_L26 : Nat → (Int32) → (Nat) → (Nat) → (Nat) → (Nat) × (Nat)
  | 0, _, _, a, mo => (a, mo)
  | n_26 + 1, r_1, cd, a, mo => if 6 ≤ a then (a, mo) else let2 (F_X6_look_L39 7 r_1 cd a 0 0) (fun b n0 => if n0 ≤ mo then F_X6_look_L26 n_26 r_1 cd (a + 1) mo else F_X6_look_L26 n_26 r_1 cd (a + 1) n0)
def F_X6_look_L13 : Nat → (Int32) → (Nat) → (Int32) → (Int32) → (Nat) × (Int32) × (Int32)
  | 0, _, cd, bs, fw => (cd, bs, fw)
  | n_13 + 1, r_1, cd, bs, fw => if 100 ≤ cd then (cd, bs, fw) else let2 (F_X6_look_L26 7 r_1 cd 0 0) (fun a mo => if fw ≤ (nI mo) then F_X6_look_L13 n_13 r_1 (cd + 1) bs fw else F_X6_look_L13 n_13 r_1 (cd + 1) (nI cd) (nI mo))
def F_X6_look (w : Nat → Int32) : Int32 := let1 (F_X6_is w) (fun r_1 => let3 (F_X6_look_L13 101 r_1 0 ((-1)) 1000000) (fun cd bs fw => if r_1 = 0 then (-1) else bs))
set_option maxHeartbeats 4000000 in
set_option maxRecDepth 100000 in
theorem c_X6_look (l : Launch) (dC : Nat → ClassId) (dI : Nat → Nat → Nat) (q : Nat → Nat) (cI cZ : ClassId) (sz : Nat) (w : Nat → Int32) (kp : Nat → Int32) (tx : Nat → Int32) (td : Int32) (ab : Int64) (be : Int64) (su : Nat → Int32) (po : Int32) (st : Int32) (nu : Int32) (li : Nat → Int32) (fi : Nat → Int32) (ga : Nat → Int32) (hh : Int64) (pNo : inB (w 31) 6) : Met l yX6_look wsX6_look { frames := 3, cells := 0, slots := 0, locals := 67 } (mPc (dC, dI) vwCl (mT cI cZ) (mW q cI cZ w kp tx td ab be su po st nu li fi ga hh) sz [.ref (q 0)]) (va_Qi (fun (r : Int32) (u : Unit) => F_X6_look w = r) (mB (dC, dI) vwCl (mT cI cZ) (va_A (mW q cI cZ w kp tx td ab be su po st nu li fi ga hh) sz) (fun u => mW q cI cZ w kp tx td ab be su po st nu li fi ga hh)) (va_A (mW q cI cZ w kp tx td ab be su po st nu li fi ga hh) sz)) 0 0 (va_A (mW q cI cZ w kp tx td ab be su po st nu li fi ga hh) sz) := by
  refine Met.ofW (cc := cX6_look) (maxL := 9) (ret := (some .int)) (by decide) rfl ?_
  intro p e s m args below meth c s₁ B hml hv
  obtain ⟨rfl, hsz, hP, hK, hD0⟩ := hv
  have hx := B.exec
  have hb := B.bytes
  have hr := B.returns
  have hts := atoms_spec (ws := wsX6_look) B.pre
  have hown : s.vm.findClass RX6 = some m.cls := findClass_of_methodNamed B.named
  have hlocks := B.notSynchronized
  subst hsz
  have hD := hD0.self (sz := s.heap.size)
  generalize hAe : va_A (mW q cI cZ w kp tx td ab be su po st nu li fi ga hh) s.heap.size = A at hD ⊢
  have hA : ∀ q : Nat, s.heap.size ≤ q → A q := fun q h => by rw [← hAe]; exact Or.inr h
  have hS : va_S A s.heap s.heap [] := va_S.rf
  have hl := lv_entry ([.ref (q 0)]) (n := 9) (Nat.le_of_ble_eq_true rfl)
  rw [lg_entry_eq]
  generalize (lg_sl ([.ref (q 0)]) ++ List.replicate (9 - (lg_sl ([.ref (q 0)])).length) Slot.unset).toArray = ls at hl ⊢
  have hl : lv_has ls 9 [(0, .ref (q 0))] := hl
  obtain ⟨OUT, hO⟩ : ∃ z, z = F_X6_look w := ⟨_, rfl⟩
  have hF := hO
  unfold F_X6_look at hF
  have e_pNo := tN_eq pNo.1
  have b_pNo := pNo.2
  refine lv_aload_n hx hb dX6_look_0 rfl (lv_at hl 0 rfl) ?_
  refine qc_Vi (C := RX6) (As := []) (rest := []) (ci := 6) (k0 := 0) ⟨hx, hb, hml, hown, hts⟩ (c_X6_is l dC dI q cI cZ s.heap.size w kp tx td ab be su po st nu li fi ga hh  (pNo : inB (w 31) 6)) (cwV 0 hts gX6_look_X6_is rfl rfl rfl (by decide +kernel) ⟨Nat.le_of_ble_eq_true rfl, Nat.le_of_ble_eq_true rfl⟩) hK hP hD hS hA rfl rfl rfl rfl hl.1 rfl (Nat.le_of_ble_eq_true rfl) dX6_look_1 ⟨Nat.zero_le _, Nat.zero_le _⟩ (fun r_1 u_1 H locs hw_1 hP hD hS => ?_)
  rw [hw_1, let1_mk r_1] at hF
  refine lv_istore_n (lv' := [(1, .int r_1), (0, .ref (q 0))]) hx hb dX6_look_4 rfl hl (by decide) rfl (fun ls hl => ?_)
  refine lv_iconst (v := (-1)) hx hb dX6_look_5 (by decide) ?_
  refine lv_istore_n (lv' := [(2, .int ((-1))), (1, .int r_1), (0, .ref (q 0))]) hx hb dX6_look_6 rfl hl (by decide) rfl (fun ls hl => ?_)
  refine lv_ldc (v := 1000000) hx hb hown (hts (.constant RX6 208 1000000) (by decide +kernel)) dX6_look_7 ?_
  refine lv_istore_n (lv' := [(3, .int 1000000), (2, .int ((-1))), (1, .int r_1), (0, .ref (q 0))]) hx hb dX6_look_9 rfl hl (by decide) rfl (fun ls hl => ?_)
  refine lv_iconst (v := nI 0) hx hb dX6_look_10 (by decide) ?_
  refine lv_istore (lv' := [(4, .int (nI 0)), (3, .int 1000000), (2, .int ((-1))), (1, .int r_1), (0, .ref (q 0))]) hx hb dX6_look_11 hl (by decide) rfl (fun ls hl => ?_)
  have L_13 : ∀ (n_13 : Nat) (cd : Nat) (bs : Int32) (fw : Int32) (H : Heap) (locs : List Loc), cd ≤ 100 → 100 - cd < n_13 → va_P (dC, dI) vwCl (mW q cI cZ w kp tx td ab be su po st nu li fi ga hh) H → va_D A (mW q cI cZ w kp tx td ab be su po st nu li fi ga hh) → va_S A s.heap H locs → ∀ (ls : Array Slot), lv_has ls 9 [(4, .int (nI cd)), (3, .int fw), (2, .int bs), (1, .int r_1), (0, .ref (q 0))] → OUT = let3 (F_X6_look_L13 n_13 r_1 cd bs fw) (fun cd bs fw => if r_1 = 0 then (-1) else bs) → W p l e (headSpec wsX6_look { frames := 3, cells := 0, slots := 0, locals := 67 }).room s m ([.ref (q 0)] : List Value).toArray below meth c H locs 0 0 (MQ below (va_Qi (fun (r : Int32) (u : Unit) => F_X6_look w = r) (mB (dC, dI) vwCl (mT cI cZ) A (fun u => mW q cI cZ w kp tx td ab be su po st nu li fi ga hh)) A) ([.ref (q 0)] : List Value).toArray s 0 0 A) (F0 m 13 ls []) := by
    intro n_13
    induction n_13 with
    | zero => intro cd bs fw H locs i0 hmu; exact absurd hmu (Nat.not_lt_zero _)
    | succ n_13 ih_13 =>
      intro cd bs fw H locs i0 hmu_13 hP hD hS ls hl hF
      rw [F_X6_look_L13] at hF
      refine lv_iload hx hb dX6_look_13 (lv_at hl 0 rfl) ?_
      refine lv_bipush (v := nI 100) hx hb dX6_look_15 (by decide) ?_
      refine qv_icmp_ge (tgt := 167) hx hb dX6_look_17 (by decide) (by omega) (by omega) (fun c_17 => ?_) (fun c_17 => ?_)
      · rw [if_pos c_17] at hF
        rw [let3_mk (cd : Nat) (bs : Int32) (fw : Int32)] at hF
        refine lv_iload_n hx hb dX6_look_167 rfl (lv_at hl 3 rfl) ?_
        refine lv_if_ne (tgt := 175) hx hb dX6_look_168 (by decide) (fun c_168 => ?_) (fun c_168 => ?_)
        · rw [if_neg c_168] at hF
          refine lv_iload_n hx hb dX6_look_175 rfl (lv_at hl 2 rfl) ?_
          have hP9 : va_P (dC, dI) vwCl (mW q cI cZ w kp tx td ab be su po st nu li fi ga hh) H := hP
          exact W.iret (v := bs) hx hb hr (fun t ht hW => ⟨⟨_, (()), rfl, hO.symm.trans hF, by rw [ht]; exact hP9, va_K.moved hW.alike hK, hD⟩, hS.F ht⟩) hS.2.2 dX6_look_176
        · rw [if_pos c_168] at hF
          refine lv_iconst (v := (-1)) hx hb dX6_look_171 (by decide) ?_
          refine lv_goto (tgt := 176) hx hb dX6_look_172 (by decide) ?_
          have hP9 : va_P (dC, dI) vwCl (mW q cI cZ w kp tx td ab be su po st nu li fi ga hh) H := hP
          exact W.iret (v := (-1)) hx hb hr (fun t ht hW => ⟨⟨_, (()), rfl, hO.symm.trans hF, by rw [ht]; exact hP9, va_K.moved hW.alike hK, hD⟩, hS.F ht⟩) hS.2.2 dX6_look_176
      · rw [if_neg c_17] at hF
        refine lv_iconst (v := nI 0) hx hb dX6_look_20 (by decide) ?_
        refine lv_istore (lv' := [(5, .int (nI 0)), (4, .int (nI cd)), (3, .int fw), (2, .int bs), (1, .int r_1), (0, .ref (q 0))]) hx hb dX6_look_21 hl (by decide) rfl (fun ls hl => ?_)
        refine lv_iconst (v := nI 0) hx hb dX6_look_23 (by decide) ?_
        refine lv_istore (lv' := [(6, .int (nI 0)), (5, .int (nI 0)), (4, .int (nI cd)), (3, .int fw), (2, .int bs), (1, .int r_1), (0, .ref (q 0))]) hx hb dX6_look_24 hl (by decide) rfl (fun ls hl => ?_)
        have L_26 : ∀ (n_26 : Nat) (a : Nat) (mo : Nat) (H : Heap) (locs : List Loc), a ≤ 6 → mo ≤ 6 → 6 - a < n_26 → va_P (dC, dI) vwCl (mW q cI cZ w kp tx td ab be su po st nu li fi ga hh) H → va_D A (mW q cI cZ w kp tx td ab be su po st nu li fi ga hh) → va_S A s.heap H locs → ∀ (ls : Array Slot), lv_has ls 9 [(6, .int (nI a)), (5, .int (nI mo)), (4, .int (nI cd)), (3, .int fw), (2, .int bs), (1, .int r_1), (0, .ref (q 0))] → OUT = let3 (let2 (F_X6_look_L26 n_26 r_1 cd a mo) (fun a mo => if fw ≤ (nI mo) then F_X6_look_L13 n_13 r_1 (cd + 1) bs fw else F_X6_look_L13 n_13 r_1 (cd + 1) (nI cd) (nI mo))) (fun cd bs fw => if r_1 = 0 then (-1) else bs) → W p l e (headSpec wsX6_look { frames := 3, cells := 0, slots := 0, locals := 67 }).room s m ([.ref (q 0)] : List Value).toArray below meth c H locs 0 0 (MQ below (va_Qi (fun (r : Int32) (u : Unit) => F_X6_look w = r) (mB (dC, dI) vwCl (mT cI cZ) A (fun u => mW q cI cZ w kp tx td ab be su po st nu li fi ga hh)) A) ([.ref (q 0)] : List Value).toArray s 0 0 A) (F0 m 26 ls []) := by
          intro n_26
          induction n_26 with
          | zero => intro a mo H locs j0 j1 hmu; exact absurd hmu (Nat.not_lt_zero _)
          | succ n_26 ih_26 =>
            intro a mo H locs j0 j1 hmu_26 hP hD hS ls hl hF
            rw [F_X6_look_L26] at hF
            refine lv_iload hx hb dX6_look_26 (lv_at hl 0 rfl) ?_
            refine lv_bipush (v := nI 6) hx hb dX6_look_28 (by decide) ?_
            refine qv_icmp_ge (tgt := 135) hx hb dX6_look_30 (by decide) (by omega) (by omega) (fun c_30 => ?_) (fun c_30 => ?_)
            · rw [if_pos c_30] at hF
              rw [let2_mk (a : Nat) (mo : Nat)] at hF
              refine lv_iload hx hb dX6_look_135 (lv_at hl 1 rfl) ?_
              refine lv_iload_n hx hb dX6_look_137 rfl (lv_at hl 3 rfl) ?_
              refine lv_icmp_ge (tgt := 146) hx hb dX6_look_138 (by decide) (fun c_138 => ?_) (fun c_138 => ?_)
              · rw [if_pos c_138] at hF
                refine lv_iload_n hx hb dX6_look_146 rfl (lv_at hl 4 rfl) ?_
                refine lv_istore_n (lv' := [(2, .int bs), (6, .int (nI a)), (5, .int (nI mo)), (4, .int (nI cd)), (3, .int fw), (1, .int r_1), (0, .ref (q 0))]) hx hb dX6_look_147 rfl hl (by decide) rfl (fun ls hl => ?_)
                refine lv_iload hx hb dX6_look_148 (lv_at hl 2 rfl) ?_
                refine lv_iload_n hx hb dX6_look_150 rfl (lv_at hl 4 rfl) ?_
                refine lv_icmp_ge (tgt := 159) hx hb dX6_look_151 (by decide) (fun _ => ?_) (fun c_151 => absurd c_138 c_151)
                refine lv_iload_n hx hb dX6_look_159 rfl (lv_at hl 4 rfl) ?_
                refine lv_istore_n (lv' := [(3, .int fw), (2, .int bs), (6, .int (nI a)), (5, .int (nI mo)), (4, .int (nI cd)), (1, .int r_1), (0, .ref (q 0))]) hx hb dX6_look_160 rfl hl (by decide) rfl (fun ls hl => ?_)
                refine lv_iinc (v := nI (cd + 1)) (lv' := [(4, .int (nI (cd + 1))), (3, .int fw), (2, .int bs), (6, .int (nI a)), (5, .int (nI mo)), (1, .int r_1), (0, .ref (q 0))]) hx hb dX6_look_161 hl (k := 4) rfl (qn_inc (c := 1) rfl (by omega)) (by decide) rfl (fun ls hl => ?_)
                refine lv_goto (tgt := 13) hx hb dX6_look_164 (by decide) ?_
                exact ih_13 (cd + 1) bs fw H locs (by omega) (by omega) hP hD hS ls (lv_sub hl [0, 1, 2, 5, 6] rfl) hF
              · rw [if_neg c_138] at hF
                refine lv_iload hx hb dX6_look_141 (lv_at hl 2 rfl) ?_
                refine lv_goto (tgt := 147) hx hb dX6_look_143 (by decide) ?_
                refine lv_istore_n (lv' := [(2, .int (nI cd)), (6, .int (nI a)), (5, .int (nI mo)), (4, .int (nI cd)), (3, .int fw), (1, .int r_1), (0, .ref (q 0))]) hx hb dX6_look_147 rfl hl (by decide) rfl (fun ls hl => ?_)
                refine lv_iload hx hb dX6_look_148 (lv_at hl 2 rfl) ?_
                refine lv_iload_n hx hb dX6_look_150 rfl (lv_at hl 4 rfl) ?_
                refine lv_icmp_ge (tgt := 159) hx hb dX6_look_151 (by decide) (fun c_151 => absurd c_151 c_138) (fun _ => ?_)
                refine lv_iload hx hb dX6_look_154 (lv_at hl 2 rfl) ?_
                refine lv_goto (tgt := 160) hx hb dX6_look_156 (by decide) ?_
                refine lv_istore_n (lv' := [(3, .int (nI mo)), (2, .int (nI cd)), (6, .int (nI a)), (5, .int (nI mo)), (4, .int (nI cd)), (1, .int r_1), (0, .ref (q 0))]) hx hb dX6_look_160 rfl hl (by decide) rfl (fun ls hl => ?_)
                refine lv_iinc (v := nI (cd + 1)) (lv' := [(4, .int (nI (cd + 1))), (3, .int (nI mo)), (2, .int (nI cd)), (6, .int (nI a)), (5, .int (nI mo)), (1, .int r_1), (0, .ref (q 0))]) hx hb dX6_look_161 hl (k := 4) rfl (qn_inc (c := 1) rfl (by omega)) (by decide) rfl (fun ls hl => ?_)
                refine lv_goto (tgt := 13) hx hb dX6_look_164 (by decide) ?_
                exact ih_13 (cd + 1) (nI cd) (nI mo) H locs (by omega) (by omega) hP hD hS ls (lv_sub hl [0, 1, 2, 5, 6] rfl) hF
            · rw [if_neg c_30] at hF
              refine lv_iconst (v := nI 0) hx hb dX6_look_33 (by decide) ?_
              refine lv_istore (lv' := [(7, .int (nI 0)), (6, .int (nI a)), (5, .int (nI mo)), (4, .int (nI cd)), (3, .int fw), (2, .int bs), (1, .int r_1), (0, .ref (q 0))]) hx hb dX6_look_34 hl (by decide) rfl (fun ls hl => ?_)
              refine lv_iconst (v := nI 0) hx hb dX6_look_36 (by decide) ?_
              refine lv_istore (lv' := [(8, .int (nI 0)), (7, .int (nI 0)), (6, .int (nI a)), (5, .int (nI mo)), (4, .int (nI cd)), (3, .int fw), (2, .int bs), (1, .int r_1), (0, .ref (q 0))]) hx hb dX6_look_37 hl (by decide) rfl (fun ls hl => ?_)
              have L_39 : ∀ (n_39 : Nat) (b : Nat) (n0 : Nat) (H : Heap) (locs : List Loc), b ≤ 6 → n0 ≤ b → 6 - b < n_39 → va_P (dC, dI) vwCl (mW q cI cZ w kp tx td ab be su po st nu li fi ga hh) H → va_D A (mW q cI cZ w kp tx td ab be su po st nu li fi ga hh) → va_S A s.heap H locs → ∀ (ls : Array Slot), lv_has ls 9 [(8, .int (nI b)), (7, .int (nI n0)), (6, .int (nI a)), (5, .int (nI mo)), (4, .int (nI cd)), (3, .int fw), (2, .int bs), (1, .int r_1), (0, .ref (q 0))] → OUT = let3 (let2 (let2 (F_X6_look_L39 n_39 r_1 cd a b n0) (fun b n0 => if n0 ≤ mo then F_X6_look_L26 n_26 r_1 cd (a + 1) mo else F_X6_look_L26 n_26 r_1 cd (a + 1) n0)) (fun a mo => if fw ≤ (nI mo) then F_X6_look_L13 n_13 r_1 (cd + 1) bs fw else F_X6_look_L13 n_13 r_1 (cd + 1) (nI cd) (nI mo))) (fun cd bs fw => if r_1 = 0 then (-1) else bs) → W p l e (headSpec wsX6_look { frames := 3, cells := 0, slots := 0, locals := 67 }).room s m ([.ref (q 0)] : List Value).toArray below meth c H locs 0 0 (MQ below (va_Qi (fun (r : Int32) (u : Unit) => F_X6_look w = r) (mB (dC, dI) vwCl (mT cI cZ) A (fun u => mW q cI cZ w kp tx td ab be su po st nu li fi ga hh)) A) ([.ref (q 0)] : List Value).toArray s 0 0 A) (F0 m 39 ls []) := by
                intro n_39
                induction n_39 with
                | zero => intro b n0 H locs l0 l1 hmu; exact absurd hmu (Nat.not_lt_zero _)
                | succ n_39 ih_39 =>
                  intro b n0 H locs l0 l1 hmu_39 hP hD hS ls hl hF
                  rw [F_X6_look_L39] at hF
                  refine lv_iload hx hb dX6_look_39 (lv_at hl 0 rfl) ?_
                  refine lv_bipush (v := nI 6) hx hb dX6_look_41 (by decide) ?_
                  refine qv_icmp_ge (tgt := 113) hx hb dX6_look_43 (by decide) (by omega) (by omega) (fun c_43 => ?_) (fun c_43 => ?_)
                  · rw [if_pos c_43] at hF
                    rw [let2_mk (b : Nat) (n0 : Nat)] at hF
                    refine lv_iload hx hb dX6_look_113 (lv_at hl 1 rfl) ?_
                    refine lv_iload hx hb dX6_look_115 (lv_at hl 3 rfl) ?_
                    refine qv_icmp_le (tgt := 125) hx hb dX6_look_117 (by decide) (by omega) (by omega) (fun c_117 => ?_) (fun c_117 => ?_)
                    · rw [if_pos c_117] at hF
                      refine lv_iload hx hb dX6_look_125 (lv_at hl 3 rfl) ?_
                      refine lv_istore (lv' := [(5, .int (nI mo)), (8, .int (nI b)), (7, .int (nI n0)), (6, .int (nI a)), (4, .int (nI cd)), (3, .int fw), (2, .int bs), (1, .int r_1), (0, .ref (q 0))]) hx hb dX6_look_127 hl (by decide) rfl (fun ls hl => ?_)
                      refine lv_iinc (v := nI (a + 1)) (lv' := [(6, .int (nI (a + 1))), (5, .int (nI mo)), (8, .int (nI b)), (7, .int (nI n0)), (4, .int (nI cd)), (3, .int fw), (2, .int bs), (1, .int r_1), (0, .ref (q 0))]) hx hb dX6_look_129 hl (k := 3) rfl (qn_inc (c := 1) rfl (by omega)) (by decide) rfl (fun ls hl => ?_)
                      refine lv_goto (tgt := 26) hx hb dX6_look_132 (by decide) ?_
                      exact ih_26 (a + 1) mo H locs (by omega) (by omega) (by omega) hP hD hS ls (lv_sub hl [0, 1, 4, 5, 6, 7, 8] rfl) hF
                    · rw [if_neg c_117] at hF
                      refine lv_iload hx hb dX6_look_120 (lv_at hl 1 rfl) ?_
                      refine lv_goto (tgt := 127) hx hb dX6_look_122 (by decide) ?_
                      refine lv_istore (lv' := [(5, .int (nI n0)), (8, .int (nI b)), (7, .int (nI n0)), (6, .int (nI a)), (4, .int (nI cd)), (3, .int fw), (2, .int bs), (1, .int r_1), (0, .ref (q 0))]) hx hb dX6_look_127 hl (by decide) rfl (fun ls hl => ?_)
                      refine lv_iinc (v := nI (a + 1)) (lv' := [(6, .int (nI (a + 1))), (5, .int (nI n0)), (8, .int (nI b)), (7, .int (nI n0)), (4, .int (nI cd)), (3, .int fw), (2, .int bs), (1, .int r_1), (0, .ref (q 0))]) hx hb dX6_look_129 hl (k := 3) rfl (qn_inc (c := 1) rfl (by omega)) (by decide) rfl (fun ls hl => ?_)
                      refine lv_goto (tgt := 26) hx hb dX6_look_132 (by decide) ?_
                      exact ih_26 (a + 1) n0 H locs (by omega) (by omega) (by omega) hP hD hS ls (lv_sub hl [0, 1, 4, 5, 6, 7, 8] rfl) hF
                  · rw [if_neg c_43] at hF
                    refine lv_iload hx hb dX6_look_46 (lv_at hl 1 rfl) ?_
                    refine lv_iload_n hx hb dX6_look_48 rfl (lv_at hl 7 rfl) ?_
                    refine lv_iload hx hb dX6_look_49 (lv_at hl 2 rfl) ?_
                    refine qc_Si (As := [.int r_1, .int (nI a)]) (rest := [.int (nI n0)]) ⟨hx, hb, hml, hown, hts⟩ (c_X6_has l r_1 (nI a)) (va_cwS 2 hts gX6_look_X6_has rfl rfl rfl (by decide +kernel) ⟨Nat.le_of_ble_eq_true rfl, Nat.le_of_ble_eq_true rfl⟩) rfl hl.1 rfl (Nat.le_of_ble_eq_true rfl) dX6_look_51 ⟨Nat.zero_le _, Nat.zero_le _⟩ (fun r_51 hw_51 => ?_)
                    subst hw_51
                    refine qv_zif_eq (tgt := 103) hx hb dX6_look_54 (by decide) (fun c_54 => ?_) (fun c_54 => ?_)
                    · rw [if_neg c_54] at hF
                      refine lv_iconst (v := nI 0) hx hb dX6_look_103 (by decide) ?_
                      refine qv_iadd hx hb (n0) dX6_look_104 (by omega) ?_
                      refine lv_istore (lv' := [(7, .int (nI n0)), (8, .int (nI b)), (6, .int (nI a)), (5, .int (nI mo)), (4, .int (nI cd)), (3, .int fw), (2, .int bs), (1, .int r_1), (0, .ref (q 0))]) hx hb dX6_look_105 hl (by decide) rfl (fun ls hl => ?_)
                      refine lv_iinc (v := nI (b + 1)) (lv' := [(8, .int (nI (b + 1))), (7, .int (nI n0)), (6, .int (nI a)), (5, .int (nI mo)), (4, .int (nI cd)), (3, .int fw), (2, .int bs), (1, .int r_1), (0, .ref (q 0))]) hx hb dX6_look_107 hl (k := 1) rfl (qn_inc (c := 1) rfl (by omega)) (by decide) rfl (fun ls hl => ?_)
                      refine lv_goto (tgt := 39) hx hb dX6_look_110 (by decide) ?_
                      exact ih_39 (b + 1) n0 H locs (by omega) (by omega) (by omega) hP hD hS ls (lv_sub hl [0, 1, 2, 3, 4, 5, 6, 7, 8] rfl) hF
                    · rw [if_pos c_54] at hF
                      refine lv_iload_n hx hb dX6_look_57 rfl (lv_at hl 7 rfl) ?_
                      refine lv_iload hx hb dX6_look_58 (lv_at hl 0 rfl) ?_
                      refine qc_Si (As := [.int r_1, .int (nI b)]) (rest := [.int (nI n0)]) ⟨hx, hb, hml, hown, hts⟩ (c_X6_has l r_1 (nI b)) (va_cwS 2 hts gX6_look_X6_has rfl rfl rfl (by decide +kernel) ⟨Nat.le_of_ble_eq_true rfl, Nat.le_of_ble_eq_true rfl⟩) rfl hl.1 rfl (Nat.le_of_ble_eq_true rfl) dX6_look_60 ⟨Nat.zero_le _, Nat.zero_le _⟩ (fun r_60 hw_60 => ?_)
                      subst hw_60
                      refine qv_zif_eq (tgt := 103) hx hb dX6_look_63 (by decide) (fun c_63 => ?_) (fun c_63 => ?_)
                      · rw [if_neg c_63] at hF
                        refine lv_iconst (v := nI 0) hx hb dX6_look_103 (by decide) ?_
                        refine qv_iadd hx hb (n0) dX6_look_104 (by omega) ?_
                        refine lv_istore (lv' := [(7, .int (nI n0)), (8, .int (nI b)), (6, .int (nI a)), (5, .int (nI mo)), (4, .int (nI cd)), (3, .int fw), (2, .int bs), (1, .int r_1), (0, .ref (q 0))]) hx hb dX6_look_105 hl (by decide) rfl (fun ls hl => ?_)
                        refine lv_iinc (v := nI (b + 1)) (lv' := [(8, .int (nI (b + 1))), (7, .int (nI n0)), (6, .int (nI a)), (5, .int (nI mo)), (4, .int (nI cd)), (3, .int fw), (2, .int bs), (1, .int r_1), (0, .ref (q 0))]) hx hb dX6_look_107 hl (k := 1) rfl (qn_inc (c := 1) rfl (by omega)) (by decide) rfl (fun ls hl => ?_)
                        refine lv_goto (tgt := 39) hx hb dX6_look_110 (by decide) ?_
                        exact ih_39 (b + 1) n0 H locs (by omega) (by omega) (by omega) hP hD hS ls (lv_sub hl [0, 1, 2, 3, 4, 5, 6, 7, 8] rfl) hF
                      · rw [if_pos c_63] at hF
                        refine lv_iload hx hb dX6_look_66 (lv_at hl 2 rfl) ?_
                        refine lv_iload hx hb dX6_look_68 (lv_at hl 4 rfl) ?_
                        refine lv_bipush (v := nI 10) hx hb dX6_look_70 (by decide) ?_
                        refine qv_irem hx hb dX6_look_72 (by omega) (by omega) (by omega) ?_
                        refine lv_iload hx hb dX6_look_73 (lv_at hl 4 rfl) ?_
                        refine lv_bipush (v := nI 10) hx hb dX6_look_75 (by decide) ?_
                        refine qv_idiv hx hb dX6_look_77 (by omega) (by omega) (by omega) ?_
                        refine qc_Si (As := [.int (nI a), .int (nI ((cd % 10))), .int (nI ((cd / 10)))]) (rest := [.int (nI n0)]) ⟨hx, hb, hml, hown, hts⟩ (c_X6_comesTo l (nI a) (nI ((cd % 10))) (nI ((cd / 10)))) (va_cwS 3 hts gX6_look_X6_comesTo rfl rfl rfl (by decide +kernel) ⟨Nat.le_of_ble_eq_true rfl, Nat.le_of_ble_eq_true rfl⟩) rfl hl.1 rfl (Nat.le_of_ble_eq_true rfl) dX6_look_78 ⟨Nat.zero_le _, Nat.zero_le _⟩ (fun r_78 hw_78 => ?_)
                        subst hw_78
                        refine lv_iload hx hb dX6_look_81 (lv_at hl 0 rfl) ?_
                        refine lv_iload hx hb dX6_look_83 (lv_at hl 4 rfl) ?_
                        refine lv_bipush (v := nI 10) hx hb dX6_look_85 (by decide) ?_
                        refine qv_irem hx hb dX6_look_87 (by omega) (by omega) (by omega) ?_
                        refine lv_iload hx hb dX6_look_88 (lv_at hl 4 rfl) ?_
                        refine lv_bipush (v := nI 10) hx hb dX6_look_90 (by decide) ?_
                        refine qv_idiv hx hb dX6_look_92 (by omega) (by omega) (by omega) ?_
                        refine qc_Si (As := [.int (nI b), .int (nI ((cd % 10))), .int (nI ((cd / 10)))]) (rest := [.int (F_X6_comesTo (nI a) (nI ((cd % 10))) (nI ((cd / 10)))), .int (nI n0)]) ⟨hx, hb, hml, hown, hts⟩ (c_X6_comesTo l (nI b) (nI ((cd % 10))) (nI ((cd / 10)))) (va_cwS 3 hts gX6_look_X6_comesTo rfl rfl rfl (by decide +kernel) ⟨Nat.le_of_ble_eq_true rfl, Nat.le_of_ble_eq_true rfl⟩) rfl hl.1 rfl (Nat.le_of_ble_eq_true rfl) dX6_look_93 ⟨Nat.zero_le _, Nat.zero_le _⟩ (fun r_93 hw_93 => ?_)
                        subst hw_93
                        refine lv_icmp_ne (tgt := 103) hx hb dX6_look_96 (by decide) (fun c_96 => ?_) (fun c_96 => ?_)
                        · rw [if_neg c_96] at hF
                          refine lv_iconst (v := nI 0) hx hb dX6_look_103 (by decide) ?_
                          refine qv_iadd hx hb (n0) dX6_look_104 (by omega) ?_
                          refine lv_istore (lv' := [(7, .int (nI n0)), (8, .int (nI b)), (6, .int (nI a)), (5, .int (nI mo)), (4, .int (nI cd)), (3, .int fw), (2, .int bs), (1, .int r_1), (0, .ref (q 0))]) hx hb dX6_look_105 hl (by decide) rfl (fun ls hl => ?_)
                          refine lv_iinc (v := nI (b + 1)) (lv' := [(8, .int (nI (b + 1))), (7, .int (nI n0)), (6, .int (nI a)), (5, .int (nI mo)), (4, .int (nI cd)), (3, .int fw), (2, .int bs), (1, .int r_1), (0, .ref (q 0))]) hx hb dX6_look_107 hl (k := 1) rfl (qn_inc (c := 1) rfl (by omega)) (by decide) rfl (fun ls hl => ?_)
                          refine lv_goto (tgt := 39) hx hb dX6_look_110 (by decide) ?_
                          exact ih_39 (b + 1) n0 H locs (by omega) (by omega) (by omega) hP hD hS ls (lv_sub hl [0, 1, 2, 3, 4, 5, 6, 7, 8] rfl) hF
                        · rw [if_pos c_96] at hF
                          refine lv_iconst (v := nI 1) hx hb dX6_look_99 (by decide) ?_
                          refine lv_goto (tgt := 104) hx hb dX6_look_100 (by decide) ?_
                          refine qv_iadd hx hb (n0 + 1) dX6_look_104 (by omega) ?_
                          refine lv_istore (lv' := [(7, .int (nI (n0 + 1))), (8, .int (nI b)), (6, .int (nI a)), (5, .int (nI mo)), (4, .int (nI cd)), (3, .int fw), (2, .int bs), (1, .int r_1), (0, .ref (q 0))]) hx hb dX6_look_105 hl (by decide) rfl (fun ls hl => ?_)
                          refine lv_iinc (v := nI (b + 1)) (lv' := [(8, .int (nI (b + 1))), (7, .int (nI (n0 + 1))), (6, .int (nI a)), (5, .int (nI mo)), (4, .int (nI cd)), (3, .int fw), (2, .int bs), (1, .int r_1), (0, .ref (q 0))]) hx hb dX6_look_107 hl (k := 1) rfl (qn_inc (c := 1) rfl (by omega)) (by decide) rfl (fun ls hl => ?_)
                          refine lv_goto (tgt := 39) hx hb dX6_look_110 (by decide) ?_
                          exact ih_39 (b + 1) (n0 + 1) H locs (by omega) (by omega) (by omega) hP hD hS ls (lv_sub hl [0, 1, 2, 3, 4, 5, 6, 7, 8] rfl) hF
              exact L_39 7 0 0 H locs (by omega) (by omega) (by omega) hP hD hS ls (lv_sub hl [0, 1, 2, 3, 4, 5, 6, 7, 8] rfl) hF
        exact L_26 7 0 0 H locs (by omega) (by omega) (by omega) hP hD hS ls (lv_sub hl [0, 1, 2, 3, 4, 5, 6] rfl) hF
  exact L_13 101 0 ((-1)) 1000000 H locs (by omega) (by omega) hP hD hS ls (lv_sub hl [0, 1, 2, 3, 4] rfl) hF
def F_X6_whatOf_L14 : Nat → (Int32) → (Nat → Int32) → (Nat) → (Nat) → (Int32) → (Nat) × (Int32)
  | 0, _, _, _, k, sf => (k, sf)
  | n_14 + 1, i, w, kd, k, sf => if tN (w 50) ≤ k then (k, sf) else (if (w (4 * k + 51)) = i then (if (F_X6_runsBy (nI kd) (w (4 * k + 52)) (w (4 * k + 53))) = (w (4 * k + 54)) then F_X6_whatOf_L14 n_14 i w kd (k + 1) sf else F_X6_whatOf_L14 n_14 i w kd (k + 1) (sf &&& (((nI 1) <<< ((nI kd) &&& 31)) ^^^ ((-1))))) else F_X6_whatOf_L14 n_14 i w kd (k + 1) sf)
def F_X6_whatOf_L5 : Nat → (Int32) → (Nat → Int32) → (Nat) → (Int32) → (Nat) × (Int32)
  | 0, _, _, kd, se => (kd, se)
  | n_5 + 1, i, w, kd, se => if 6 ≤ kd then (kd, se) else let2 (F_X6_whatOf_L14 7 i w kd 0 se) (fun k sf => F_X6_whatOf_L5 n_5 i w (kd + 1) sf)
def F_X6_whatOf (w : Nat → Int32) (i : Int32) : Int32 := let2 (F_X6_whatOf_L5 7 i w 0 (nI 63)) (fun kd se => se)
set_option maxHeartbeats 4000000 in
set_option maxRecDepth 100000 in
theorem c_X6_whatOf (l : Launch) (dC : Nat → ClassId) (dI : Nat → Nat → Nat) (q : Nat → Nat) (cI cZ : ClassId) (sz : Nat) (w : Nat → Int32) (kp : Nat → Int32) (tx : Nat → Int32) (td : Int32) (ab : Int64) (be : Int64) (su : Nat → Int32) (po : Int32) (st : Int32) (nu : Int32) (li : Nat → Int32) (fi : Nat → Int32) (ga : Nat → Int32) (hh : Int64) (i : Int32) (pMa : inB (w 50) 6) : Met l yX6_whatOf wsX6_whatOf { frames := 3, cells := 0, slots := 0, locals := 64 } (mPc (dC, dI) vwCl (mT cI cZ) (mW q cI cZ w kp tx td ab be su po st nu li fi ga hh) sz [.ref (q 0), .int i]) (va_Qi (fun (r : Int32) (u : Unit) => F_X6_whatOf w i = r) (mB (dC, dI) vwCl (mT cI cZ) (va_A (mW q cI cZ w kp tx td ab be su po st nu li fi ga hh) sz) (fun u => mW q cI cZ w kp tx td ab be su po st nu li fi ga hh)) (va_A (mW q cI cZ w kp tx td ab be su po st nu li fi ga hh) sz)) 0 0 (va_A (mW q cI cZ w kp tx td ab be su po st nu li fi ga hh) sz) := by
  refine Met.ofW (cc := cX6_whatOf) (maxL := 6) (ret := (some .int)) (by decide) rfl ?_
  intro p e s m args below meth c s₁ B hml hv
  obtain ⟨rfl, hsz, hP, hK, hD0⟩ := hv
  have hx := B.exec
  have hb := B.bytes
  have hr := B.returns
  have hts := atoms_spec (ws := wsX6_whatOf) B.pre
  have hown : s.vm.findClass RX6 = some m.cls := findClass_of_methodNamed B.named
  have hlocks := B.notSynchronized
  subst hsz
  have hD := hD0.self (sz := s.heap.size)
  generalize hAe : va_A (mW q cI cZ w kp tx td ab be su po st nu li fi ga hh) s.heap.size = A at hD ⊢
  have hA : ∀ q : Nat, s.heap.size ≤ q → A q := fun q h => by rw [← hAe]; exact Or.inr h
  have hS : va_S A s.heap s.heap [] := va_S.rf
  have hin : ∀ w ∈ wsX60, w ∈ wsX6_whatOf := by decide +kernel
  have lk7 := hts (.fieldLink RX6 7 "PostRoundersModel" "w" "[I") (by decide +kernel)
  have hl := lv_entry ([.ref (q 0), .int i]) (n := 6) (Nat.le_of_ble_eq_true rfl)
  rw [lg_entry_eq]
  generalize (lg_sl ([.ref (q 0), .int i]) ++ List.replicate (6 - (lg_sl ([.ref (q 0), .int i])).length) Slot.unset).toArray = ls at hl ⊢
  have hl : lv_has ls 6 [(0, .ref (q 0)), (1, .int i)] := hl
  obtain ⟨OUT, hO⟩ : ∃ z, z = F_X6_whatOf w i := ⟨_, rfl⟩
  have hF := hO
  unfold F_X6_whatOf at hF
  have e_pMa := tN_eq pMa.1
  have b_pMa := pMa.2
  refine lv_bipush (v := nI 63) hx hb dX6_whatOf_0 (by decide) ?_
  refine lv_istore_n (lv' := [(2, .int (nI 63)), (0, .ref (q 0)), (1, .int i)]) hx hb dX6_whatOf_2 rfl hl (by decide) rfl (fun ls hl => ?_)
  refine lv_iconst (v := nI 0) hx hb dX6_whatOf_3 (by decide) ?_
  refine lv_istore_n (lv' := [(3, .int (nI 0)), (2, .int (nI 63)), (0, .ref (q 0)), (1, .int i)]) hx hb dX6_whatOf_4 rfl hl (by decide) rfl (fun ls hl => ?_)
  have L_5 : ∀ (n_5 : Nat) (kd : Nat) (se : Int32) (H : Heap) (locs : List Loc), kd ≤ 6 → 6 - kd < n_5 → va_P (dC, dI) vwCl (mW q cI cZ w kp tx td ab be su po st nu li fi ga hh) H → va_D A (mW q cI cZ w kp tx td ab be su po st nu li fi ga hh) → va_S A s.heap H locs → ∀ (ls : Array Slot), lv_has ls 6 [(3, .int (nI kd)), (2, .int se), (0, .ref (q 0)), (1, .int i)] → OUT = let2 (F_X6_whatOf_L5 n_5 i w kd se) (fun kd se => se) → W p l e (headSpec wsX6_whatOf { frames := 3, cells := 0, slots := 0, locals := 64 }).room s m ([.ref (q 0), .int i] : List Value).toArray below meth c H locs 0 0 (MQ below (va_Qi (fun (r : Int32) (u : Unit) => F_X6_whatOf w i = r) (mB (dC, dI) vwCl (mT cI cZ) A (fun u => mW q cI cZ w kp tx td ab be su po st nu li fi ga hh)) A) ([.ref (q 0), .int i] : List Value).toArray s 0 0 A) (F0 m 5 ls []) := by
    intro n_5
    induction n_5 with
    | zero => intro kd se H locs i0 hmu; exact absurd hmu (Nat.not_lt_zero _)
    | succ n_5 ih_5 =>
      intro kd se H locs i0 hmu_5 hP hD hS ls hl hF
      rw [F_X6_whatOf_L5] at hF
      refine lv_iload_n hx hb dX6_whatOf_5 rfl (lv_at hl 0 rfl) ?_
      refine lv_bipush (v := nI 6) hx hb dX6_whatOf_6 (by decide) ?_
      refine qv_icmp_ge (tgt := 100) hx hb dX6_whatOf_8 (by decide) (by omega) (by omega) (fun c_8 => ?_) (fun c_8 => ?_)
      · rw [if_pos c_8] at hF
        rw [let2_mk (kd : Nat) (se : Int32)] at hF
        refine lv_iload_n hx hb dX6_whatOf_100 rfl (lv_at hl 1 rfl) ?_
        have hP9 : va_P (dC, dI) vwCl (mW q cI cZ w kp tx td ab be su po st nu li fi ga hh) H := hP
        exact W.iret (v := se) hx hb hr (fun t ht hW => ⟨⟨_, (()), rfl, hO.symm.trans hF, by rw [ht]; exact hP9, va_K.moved hW.alike hK, hD⟩, hS.F ht⟩) hS.2.2 dX6_whatOf_101
      · rw [if_neg c_8] at hF
        refine lv_iconst (v := nI 0) hx hb dX6_whatOf_11 (by decide) ?_
        refine lv_istore (lv' := [(4, .int (nI 0)), (3, .int (nI kd)), (2, .int se), (0, .ref (q 0)), (1, .int i)]) hx hb dX6_whatOf_12 hl (by decide) rfl (fun ls hl => ?_)
        have L_14 : ∀ (n_14 : Nat) (k : Nat) (sf : Int32) (H : Heap) (locs : List Loc), k ≤ tN (w 50) → tN (w 50) - k < n_14 → va_P (dC, dI) vwCl (mW q cI cZ w kp tx td ab be su po st nu li fi ga hh) H → va_D A (mW q cI cZ w kp tx td ab be su po st nu li fi ga hh) → va_S A s.heap H locs → ∀ (ls : Array Slot), lv_has ls 6 [(4, .int (nI k)), (3, .int (nI kd)), (2, .int sf), (0, .ref (q 0)), (1, .int i)] → OUT = let2 (let2 (F_X6_whatOf_L14 n_14 i w kd k sf) (fun k sf => F_X6_whatOf_L5 n_5 i w (kd + 1) sf)) (fun kd se => se) → W p l e (headSpec wsX6_whatOf { frames := 3, cells := 0, slots := 0, locals := 64 }).room s m ([.ref (q 0), .int i] : List Value).toArray below meth c H locs 0 0 (MQ below (va_Qi (fun (r : Int32) (u : Unit) => F_X6_whatOf w i = r) (mB (dC, dI) vwCl (mT cI cZ) A (fun u => mW q cI cZ w kp tx td ab be su po st nu li fi ga hh)) A) ([.ref (q 0), .int i] : List Value).toArray s 0 0 A) (F0 m 14 ls []) := by
          intro n_14
          induction n_14 with
          | zero => intro k sf H locs j0 hmu; exact absurd hmu (Nat.not_lt_zero _)
          | succ n_14 ih_14 =>
            intro k sf H locs j0 hmu_14 hP hD hS ls hl hF
            rw [F_X6_whatOf_L14] at hF
            refine lv_iload hx hb dX6_whatOf_14 (lv_at hl 0 rfl) ?_
            refine lv_aload_n hx hb dX6_whatOf_16 rfl (lv_at hl 3 rfl) ?_
            refine va_get (D := (dC, dI)) (ci := 6) (v := .ref (q 1)) (C := RX6) (T := TX6) (N := 14) hx hb hts hin hown hK hP 0 rfl rfl 0 (by decide) lk7 (fun _ h9 => h9) rfl dX6_whatOf_17 ?_
            refine lv_bipush (v := nI 50) hx hb dX6_whatOf_20 (by decide) ?_
            refine qv_ald (v := w 50) hx hb hK hP 1 0 rfl rfl (by omega) (by decide) (rfl) dX6_whatOf_22 ?_
            refine qv_top (e_pMa) ?_
            refine qv_icmp_ge (tgt := 94) hx hb dX6_whatOf_23 (by decide) (by omega) (by omega) (fun c_23 => ?_) (fun c_23 => ?_)
            · rw [if_pos c_23] at hF
              rw [let2_mk (k : Nat) (sf : Int32)] at hF
              refine lv_iinc (v := nI (kd + 1)) (lv' := [(3, .int (nI (kd + 1))), (4, .int (nI k)), (2, .int sf), (0, .ref (q 0)), (1, .int i)]) hx hb dX6_whatOf_94 hl (k := 1) rfl (qn_inc (c := 1) rfl (by omega)) (by decide) rfl (fun ls hl => ?_)
              refine lv_goto (tgt := 5) hx hb dX6_whatOf_97 (by decide) ?_
              exact ih_5 (kd + 1) sf H locs (by omega) (by omega) hP hD hS ls (lv_sub hl [0, 2, 3, 4] rfl) hF
            · rw [if_neg c_23] at hF
              refine lv_bipush (v := nI 51) hx hb dX6_whatOf_26 (by decide) ?_
              refine lv_iconst (v := nI 4) hx hb dX6_whatOf_28 (by decide) ?_
              refine lv_iload hx hb dX6_whatOf_29 (lv_at hl 0 rfl) ?_
              refine qv_imul hx hb (4 * k) dX6_whatOf_31 (by omega) ?_
              refine qv_iadd hx hb (4 * k + 51) dX6_whatOf_32 (by omega) ?_
              refine lv_istore (lv' := [(5, .int (nI (4 * k + 51))), (4, .int (nI k)), (3, .int (nI kd)), (2, .int sf), (0, .ref (q 0)), (1, .int i)]) hx hb dX6_whatOf_33 hl (by decide) rfl (fun ls hl => ?_)
              refine lv_aload_n hx hb dX6_whatOf_35 rfl (lv_at hl 4 rfl) ?_
              refine va_get (D := (dC, dI)) (ci := 6) (v := .ref (q 1)) (C := RX6) (T := TX6) (N := 14) hx hb hts hin hown hK hP 0 rfl rfl 0 (by decide) lk7 (fun _ h9 => h9) rfl dX6_whatOf_36 ?_
              refine lv_iload hx hb dX6_whatOf_39 (lv_at hl 0 rfl) ?_
              refine qv_ald (v := w (4 * k + 51)) hx hb hK hP 1 0 rfl rfl (by omega) (by decide) (rfl) dX6_whatOf_41 ?_
              refine lv_iload_n hx hb dX6_whatOf_42 rfl (lv_at hl 5 rfl) ?_
              refine lv_icmp_ne (tgt := 88) hx hb dX6_whatOf_43 (by decide) (fun c_43 => ?_) (fun c_43 => ?_)
              · rw [if_neg c_43] at hF
                refine lv_iinc (v := nI (k + 1)) (lv' := [(4, .int (nI (k + 1))), (5, .int (nI (4 * k + 51))), (3, .int (nI kd)), (2, .int sf), (0, .ref (q 0)), (1, .int i)]) hx hb dX6_whatOf_88 hl (k := 1) rfl (qn_inc (c := 1) rfl (by omega)) (by decide) rfl (fun ls hl => ?_)
                refine lv_goto (tgt := 14) hx hb dX6_whatOf_91 (by decide) ?_
                exact ih_14 (k + 1) sf H locs (by omega) (by omega) hP hD hS ls (lv_sub hl [0, 2, 3, 4, 5] rfl) hF
              · rw [if_pos c_43] at hF
                refine lv_iload_n hx hb dX6_whatOf_46 rfl (lv_at hl 2 rfl) ?_
                refine lv_aload_n hx hb dX6_whatOf_47 rfl (lv_at hl 4 rfl) ?_
                refine va_get (D := (dC, dI)) (ci := 6) (v := .ref (q 1)) (C := RX6) (T := TX6) (N := 14) hx hb hts hin hown hK hP 0 rfl rfl 0 (by decide) lk7 (fun _ h9 => h9) rfl dX6_whatOf_48 ?_
                refine lv_iload hx hb dX6_whatOf_51 (lv_at hl 0 rfl) ?_
                refine lv_iconst (v := nI 1) hx hb dX6_whatOf_53 (by decide) ?_
                refine qv_iadd hx hb (4 * k + 52) dX6_whatOf_54 (by omega) ?_
                refine qv_ald (v := w (4 * k + 52)) hx hb hK hP 1 0 rfl rfl (by omega) (by decide) (rfl) dX6_whatOf_55 ?_
                refine lv_aload_n hx hb dX6_whatOf_56 rfl (lv_at hl 4 rfl) ?_
                refine va_get (D := (dC, dI)) (ci := 6) (v := .ref (q 1)) (C := RX6) (T := TX6) (N := 14) hx hb hts hin hown hK hP 0 rfl rfl 0 (by decide) lk7 (fun _ h9 => h9) rfl dX6_whatOf_57 ?_
                refine lv_iload hx hb dX6_whatOf_60 (lv_at hl 0 rfl) ?_
                refine lv_iconst (v := nI 2) hx hb dX6_whatOf_62 (by decide) ?_
                refine qv_iadd hx hb (4 * k + 53) dX6_whatOf_63 (by omega) ?_
                refine qv_ald (v := w (4 * k + 53)) hx hb hK hP 1 0 rfl rfl (by omega) (by decide) (rfl) dX6_whatOf_64 ?_
                refine qc_Si (As := [.int (nI kd), .int (w (4 * k + 52)), .int (w (4 * k + 53))]) (rest := []) ⟨hx, hb, hml, hown, hts⟩ (c_X6_runsBy l (nI kd) (w (4 * k + 52)) (w (4 * k + 53))) (va_cwS 3 hts gX6_whatOf_X6_runsBy rfl rfl rfl (by decide +kernel) ⟨Nat.le_of_ble_eq_true rfl, Nat.le_of_ble_eq_true rfl⟩) rfl hl.1 rfl (Nat.le_of_ble_eq_true rfl) dX6_whatOf_65 ⟨Nat.zero_le _, Nat.zero_le _⟩ (fun r_65 hw_65 => ?_)
                subst hw_65
                refine lv_aload_n hx hb dX6_whatOf_68 rfl (lv_at hl 4 rfl) ?_
                refine va_get (D := (dC, dI)) (ci := 6) (v := .ref (q 1)) (C := RX6) (T := TX6) (N := 14) hx hb hts hin hown hK hP 0 rfl rfl 0 (by decide) lk7 (fun _ h9 => h9) rfl dX6_whatOf_69 ?_
                refine lv_iload hx hb dX6_whatOf_72 (lv_at hl 0 rfl) ?_
                refine lv_iconst (v := nI 3) hx hb dX6_whatOf_74 (by decide) ?_
                refine qv_iadd hx hb (4 * k + 54) dX6_whatOf_75 (by omega) ?_
                refine qv_ald (v := w (4 * k + 54)) hx hb hK hP 1 0 rfl rfl (by omega) (by decide) (rfl) dX6_whatOf_76 ?_
                refine lv_icmp_eq (tgt := 88) hx hb dX6_whatOf_77 (by decide) (fun c_77 => ?_) (fun c_77 => ?_)
                · rw [if_pos c_77] at hF
                  refine lv_iinc (v := nI (k + 1)) (lv' := [(4, .int (nI (k + 1))), (5, .int (nI (4 * k + 51))), (3, .int (nI kd)), (2, .int sf), (0, .ref (q 0)), (1, .int i)]) hx hb dX6_whatOf_88 hl (k := 1) rfl (qn_inc (c := 1) rfl (by omega)) (by decide) rfl (fun ls hl => ?_)
                  refine lv_goto (tgt := 14) hx hb dX6_whatOf_91 (by decide) ?_
                  exact ih_14 (k + 1) sf H locs (by omega) (by omega) hP hD hS ls (lv_sub hl [0, 2, 3, 4, 5] rfl) hF
                · rw [if_neg c_77] at hF
                  refine lv_iload_n hx hb dX6_whatOf_80 rfl (lv_at hl 3 rfl) ?_
                  refine lv_iconst (v := nI 1) hx hb dX6_whatOf_81 (by decide) ?_
                  refine lv_iload_n hx hb dX6_whatOf_82 rfl (lv_at hl 2 rfl) ?_
                  refine lv_ishl hx hb dX6_whatOf_83 ?_
                  refine lv_iconst (v := (-1)) hx hb dX6_whatOf_84 (by decide) ?_
                  refine lv_ixor hx hb dX6_whatOf_85 ?_
                  refine lv_iand hx hb dX6_whatOf_86 ?_
                  refine lv_istore_n (lv' := [(2, .int (sf &&& (((nI 1) <<< ((nI kd) &&& 31)) ^^^ ((-1))))), (5, .int (nI (4 * k + 51))), (4, .int (nI k)), (3, .int (nI kd)), (0, .ref (q 0)), (1, .int i)]) hx hb dX6_whatOf_87 rfl hl (by decide) rfl (fun ls hl => ?_)
                  refine lv_iinc (v := nI (k + 1)) (lv' := [(4, .int (nI (k + 1))), (2, .int (sf &&& (((nI 1) <<< ((nI kd) &&& 31)) ^^^ ((-1))))), (5, .int (nI (4 * k + 51))), (3, .int (nI kd)), (0, .ref (q 0)), (1, .int i)]) hx hb dX6_whatOf_88 hl (k := 2) rfl (qn_inc (c := 1) rfl (by omega)) (by decide) rfl (fun ls hl => ?_)
                  refine lv_goto (tgt := 14) hx hb dX6_whatOf_91 (by decide) ?_
                  exact ih_14 (k + 1) (sf &&& (((nI 1) <<< ((nI kd) &&& 31)) ^^^ ((-1)))) H locs (by omega) (by omega) hP hD hS ls (lv_sub hl [0, 3, 1, 4, 5] rfl) hF
        exact L_14 7 0 se H locs (by omega) (by omega) hP hD hS ls (lv_sub hl [0, 1, 2, 3, 4] rfl) hF
  exact L_5 7 0 (nI 63) s.heap [] (by omega) (by omega) hP hD hS ls (lv_sub hl [0, 1, 2, 3] rfl) hF
def F_X6_kinds (w : Nat → Int32) (su : Nat → Int32) (i : Int32) : Int32 × (Nat → Int32) := let1 (F_X6_isBatter w i) (fun z_2 => if z_2 = true then let1 (F_X6_whatOf w i) (fun r_10 => (r_10, su)) else let2 (F_X6_bad su ((-2))) (fun r_19 su_19 => (r_19, su_19)))
set_option maxHeartbeats 4000000 in
set_option maxRecDepth 100000 in
theorem c_X6_kinds (l : Launch) (dC : Nat → ClassId) (dI : Nat → Nat → Nat) (q : Nat → Nat) (cI cZ : ClassId) (sz : Nat) (w : Nat → Int32) (kp : Nat → Int32) (tx : Nat → Int32) (td : Int32) (ab : Int64) (be : Int64) (su : Nat → Int32) (po : Int32) (st : Int32) (nu : Int32) (li : Nat → Int32) (fi : Nat → Int32) (ga : Nat → Int32) (hh : Int64) (i : Int32) (pB : inB (w 0) 6) (pMa : inB (w 50) 6) : Met l yX6_kinds wsX6_kinds { frames := 4, cells := 0, slots := 0, locals := 89 } (mPc (dC, dI) vwCl (mT cI cZ) (mW q cI cZ w kp tx td ab be su po st nu li fi ga hh) sz [.ref (q 0), .int i]) (va_Qi (fun (r : Int32) (u : (Nat → Int32)) => F_X6_kinds w su i = (r, u)) (mB (dC, dI) vwCl (mT cI cZ) (va_A (mW q cI cZ w kp tx td ab be su po st nu li fi ga hh) sz) (fun u => mW q cI cZ w kp tx td ab be u po st nu li fi ga hh)) (va_A (mW q cI cZ w kp tx td ab be su po st nu li fi ga hh) sz)) 0 0 (va_A (mW q cI cZ w kp tx td ab be su po st nu li fi ga hh) sz) := by
  refine Met.ofW (cc := cX6_kinds) (maxL := 2) (ret := (some .int)) (by decide) rfl ?_
  intro p e s m args below meth c s₁ B hml hv
  obtain ⟨rfl, hsz, hP, hK, hD0⟩ := hv
  have hx := B.exec
  have hb := B.bytes
  have hr := B.returns
  have hts := atoms_spec (ws := wsX6_kinds) B.pre
  have hown : s.vm.findClass RX6 = some m.cls := findClass_of_methodNamed B.named
  have hlocks := B.notSynchronized
  subst hsz
  have hD := hD0.self (sz := s.heap.size)
  generalize hAe : va_A (mW q cI cZ w kp tx td ab be su po st nu li fi ga hh) s.heap.size = A at hD ⊢
  have hA : ∀ q : Nat, s.heap.size ≤ q → A q := fun q h => by rw [← hAe]; exact Or.inr h
  have hS : va_S A s.heap s.heap [] := va_S.rf
  have hl := lv_entry ([.ref (q 0), .int i]) (n := 2) (Nat.le_of_ble_eq_true rfl)
  rw [lg_entry_eq]
  generalize (lg_sl ([.ref (q 0), .int i]) ++ List.replicate (2 - (lg_sl ([.ref (q 0), .int i])).length) Slot.unset).toArray = ls at hl ⊢
  have hl : lv_has ls 2 [(0, .ref (q 0)), (1, .int i)] := hl
  obtain ⟨OUT, hO⟩ : ∃ z, z = F_X6_kinds w su i := ⟨_, rfl⟩
  have hF := hO
  unfold F_X6_kinds at hF
  have e_pB := tN_eq pB.1
  have b_pB := pB.2
  have e_pMa := tN_eq pMa.1
  have b_pMa := pMa.2
  refine lv_aload_n hx hb dX6_kinds_0 rfl (lv_at hl 0 rfl) ?_
  refine lv_iload_n hx hb dX6_kinds_1 rfl (lv_at hl 1 rfl) ?_
  refine qc_Vi (C := RX6) (As := [.int i]) (rest := []) (ci := 6) (k0 := 0) ⟨hx, hb, hml, hown, hts⟩ (c_X6_isBatter l dC dI q cI cZ s.heap.size w kp tx td ab be su po st nu li fi ga hh i ) (cwV 1 hts gX6_kinds_X6_isBatter rfl rfl rfl (by decide +kernel) ⟨Nat.le_of_ble_eq_true rfl, Nat.le_of_ble_eq_true rfl⟩) hK hP hD hS hA rfl rfl rfl rfl hl.1 rfl (Nat.le_of_ble_eq_true rfl) dX6_kinds_2 ⟨Nat.zero_le _, Nat.zero_le _⟩ (fun r_2 u_2 H locs hw_2 hP hD hS => ?_)
  obtain ⟨z_2, hw_2, rfl⟩ := hw_2
  rw [hw_2, let1_mk z_2] at hF
  refine qv_zif_eq (tgt := 16) hx hb dX6_kinds_5 (by decide) (fun c_5 => ?_) (fun c_5 => ?_)
  · rw [if_neg c_5] at hF
    refine lv_aload_n hx hb dX6_kinds_16 rfl (lv_at hl 0 rfl) ?_
    refine lv_bipush (v := (-2)) hx hb dX6_kinds_17 (by decide) ?_
    refine qc_Vi (C := RX6) (As := [.int ((-2))]) (rest := []) (ci := 6) (k0 := 0) ⟨hx, hb, hml, hown, hts⟩ (c_X6_bad l dC dI q cI cZ H.size w kp tx td ab be su po st nu li fi ga hh ((-2)) ) (cwV 1 hts gX6_kinds_X6_bad rfl rfl rfl (by decide +kernel) ⟨Nat.le_of_ble_eq_true rfl, Nat.le_of_ble_eq_true rfl⟩) hK hP hD hS hA rfl rfl rfl rfl hl.1 rfl (Nat.le_of_ble_eq_true rfl) dX6_kinds_19 ⟨Nat.zero_le _, Nat.zero_le _⟩ (fun r_19 u_19 H locs hw_19 hP hD hS => ?_)
    obtain ⟨su_19, rfl⟩ : ∃ z, z = u_19 := ⟨_, rfl⟩
    have hP : va_P (dC, dI) vwCl (mW q cI cZ w kp tx td ab be su_19 po st nu li fi ga hh) H := hP
    have hD : va_D A (mW q cI cZ w kp tx td ab be su_19 po st nu li fi ga hh) := hD
    rw [hw_19, let2_mk r_19 su_19] at hF
    have hP9 : va_P (dC, dI) vwCl (mW q cI cZ w kp tx td ab be su_19 po st nu li fi ga hh) H := hP
    exact W.iret (v := r_19) hx hb hr (fun t ht hW => ⟨⟨_, (su_19), rfl, hO.symm.trans hF, by rw [ht]; exact hP9, va_K.moved hW.alike hK, hD⟩, hS.F ht⟩) hS.2.2 dX6_kinds_22
  · rw [if_pos c_5] at hF
    refine lv_aload_n hx hb dX6_kinds_8 rfl (lv_at hl 0 rfl) ?_
    refine lv_iload_n hx hb dX6_kinds_9 rfl (lv_at hl 1 rfl) ?_
    refine qc_Vi (C := RX6) (As := [.int i]) (rest := []) (ci := 6) (k0 := 0) ⟨hx, hb, hml, hown, hts⟩ (c_X6_whatOf l dC dI q cI cZ H.size w kp tx td ab be su po st nu li fi ga hh i (pMa : inB (w 50) 6)) (cwV 1 hts gX6_kinds_X6_whatOf rfl rfl rfl (by decide +kernel) ⟨Nat.le_of_ble_eq_true rfl, Nat.le_of_ble_eq_true rfl⟩) hK hP hD hS hA rfl rfl rfl rfl hl.1 rfl (Nat.le_of_ble_eq_true rfl) dX6_kinds_10 ⟨Nat.zero_le _, Nat.zero_le _⟩ (fun r_10 u_10 H locs hw_10 hP hD hS => ?_)
    rw [hw_10, let1_mk r_10] at hF
    refine lv_goto (tgt := 22) hx hb dX6_kinds_13 (by decide) ?_
    have hP9 : va_P (dC, dI) vwCl (mW q cI cZ w kp tx td ab be su po st nu li fi ga hh) H := hP
    exact W.iret (v := r_10) hx hb hr (fun t ht hW => ⟨⟨_, (su), rfl, hO.symm.trans hF, by rw [ht]; exact hP9, va_K.moved hW.alike hK, hD⟩, hS.F ht⟩) hS.2.2 dX6_kinds_22
def F_X6_ask_L67 : Nat → (Int32) → (Nat → Int32) → (Int32) → (Nat) → (Nat) → (Nat) → (Nat) → (Nat) × (Nat)
  | 0, _, _, _, _, _, b, n0 => (b, n0)
  | n_67 + 1, i, w, r_17, g, a, b, n0 => if 6 ≤ b then (b, n0) else (if (F_X6_has r_17 (nI a)) = true then (if (F_X6_has r_17 (nI b)) = true then (if (F_X6_runsBy (nI a) (w (tN i + 11)) (nI g)) = (F_X6_runsBy (nI b) (w (tN i + 11)) (nI g)) then F_X6_ask_L67 n_67 i w r_17 g a (b + 1) (n0 + 1) else F_X6_ask_L67 n_67 i w r_17 g a (b + 1) n0) else F_X6_ask_L67 n_67 i w r_17 g a (b + 1) n0) else F_X6_ask_L67 n_67 i w r_17 g a (b + 1) n0)
def F_X6_ask_L54 : Nat → (Int32) → (Nat → Int32) → (Int32) → (Nat) → (Nat) → (Nat) → (Nat) × (Nat)
  | 0, _, _, _, _, a, mo => (a, mo)
  | n_54 + 1, i, w, r_17, g, a, mo => if 6 ≤ a then (a, mo) else let2 (F_X6_ask_L67 7 i w r_17 g a 0 0) (fun b n0 => if n0 ≤ mo then F_X6_ask_L54 n_54 i w r_17 g (a + 1) mo else F_X6_ask_L54 n_54 i w r_17 g (a + 1) n0)
def F_X6_ask_L41 : Nat → (Int32) → (Nat → Int32) → (Int32) → (Nat) → (Int32) → (Int32) → (Nat) × (Int32) × (Int32)
  | 0, _, _, _, g, bs, fw => (g, bs, fw)
  | n_41 + 1, i, w, r_17, g, bs, fw => if 20 < g then (g, bs, fw) else let2 (F_X6_ask_L54 7 i w r_17 g 0 0) (fun a mo => if fw ≤ (nI mo) then F_X6_ask_L41 n_41 i w r_17 (g + 1) bs fw else F_X6_ask_L41 n_41 i w r_17 (g + 1) (nI g) (nI mo))
def F_X6_ask (w : Nat → Int32) (su : Nat → Int32) (i : Int32) : Int32 × (Nat → Int32) := let1 (F_X6_isBatter w i) (fun z_2 => if z_2 = true then let1 (F_X6_whatOf w (nI (tN i))) (fun r_17 => let3 (F_X6_ask_L41 21 i w r_17 1 ((-1)) 1000000) (fun g bs fw => if r_17 = 0 then ((-1), su) else (bs, su))) else let2 (F_X6_bad su ((-2))) (fun r_11 su_11 => (r_11, su_11)))
set_option maxHeartbeats 4000000 in
set_option maxRecDepth 100000 in
theorem c_X6_ask (l : Launch) (dC : Nat → ClassId) (dI : Nat → Nat → Nat) (q : Nat → Nat) (cI cZ : ClassId) (sz : Nat) (w : Nat → Int32) (kp : Nat → Int32) (tx : Nat → Int32) (td : Int32) (ab : Int64) (be : Int64) (su : Nat → Int32) (po : Int32) (st : Int32) (nu : Int32) (li : Nat → Int32) (fi : Nat → Int32) (ga : Nat → Int32) (hh : Int64) (i : Int32) (pB : inB (w 0) 6) (pMa : inB (w 50) 6) : Met l yX6_ask wsX6_ask { frames := 4, cells := 0, slots := 0, locals := 89 } (mPc (dC, dI) vwCl (mT cI cZ) (mW q cI cZ w kp tx td ab be su po st nu li fi ga hh) sz [.ref (q 0), .int i]) (va_Qi (fun (r : Int32) (u : (Nat → Int32)) => F_X6_ask w su i = (r, u)) (mB (dC, dI) vwCl (mT cI cZ) (va_A (mW q cI cZ w kp tx td ab be su po st nu li fi ga hh) sz) (fun u => mW q cI cZ w kp tx td ab be u po st nu li fi ga hh)) (va_A (mW q cI cZ w kp tx td ab be su po st nu li fi ga hh) sz)) 0 0 (va_A (mW q cI cZ w kp tx td ab be su po st nu li fi ga hh) sz) := by
  refine Met.ofW (cc := cX6_ask) (maxL := 11) (ret := (some .int)) (by decide) rfl ?_
  intro p e s m args below meth c s₁ B hml hv
  obtain ⟨rfl, hsz, hP, hK, hD0⟩ := hv
  have hx := B.exec
  have hb := B.bytes
  have hr := B.returns
  have hts := atoms_spec (ws := wsX6_ask) B.pre
  have hown : s.vm.findClass RX6 = some m.cls := findClass_of_methodNamed B.named
  have hlocks := B.notSynchronized
  subst hsz
  have hD := hD0.self (sz := s.heap.size)
  generalize hAe : va_A (mW q cI cZ w kp tx td ab be su po st nu li fi ga hh) s.heap.size = A at hD ⊢
  have hA : ∀ q : Nat, s.heap.size ≤ q → A q := fun q h => by rw [← hAe]; exact Or.inr h
  have hS : va_S A s.heap s.heap [] := va_S.rf
  have hin : ∀ w ∈ wsX60, w ∈ wsX6_ask := by decide +kernel
  have lk7 := hts (.fieldLink RX6 7 "PostRoundersModel" "w" "[I") (by decide +kernel)
  have hl := lv_entry ([.ref (q 0), .int i]) (n := 11) (Nat.le_of_ble_eq_true rfl)
  rw [lg_entry_eq]
  generalize (lg_sl ([.ref (q 0), .int i]) ++ List.replicate (11 - (lg_sl ([.ref (q 0), .int i])).length) Slot.unset).toArray = ls at hl ⊢
  have hl : lv_has ls 11 [(0, .ref (q 0)), (1, .int i)] := hl
  obtain ⟨OUT, hO⟩ : ∃ z, z = F_X6_ask w su i := ⟨_, rfl⟩
  have hF := hO
  unfold F_X6_ask at hF
  have e_pB := tN_eq pB.1
  have b_pB := pB.2
  have e_pMa := tN_eq pMa.1
  have b_pMa := pMa.2
  refine lv_aload_n hx hb dX6_ask_0 rfl (lv_at hl 0 rfl) ?_
  refine lv_iload_n hx hb dX6_ask_1 rfl (lv_at hl 1 rfl) ?_
  refine qc_Vi (C := RX6) (As := [.int i]) (rest := []) (ci := 6) (k0 := 0) ⟨hx, hb, hml, hown, hts⟩ (c_X6_isBatter l dC dI q cI cZ s.heap.size w kp tx td ab be su po st nu li fi ga hh i ) (cwV 1 hts gX6_ask_X6_isBatter rfl rfl rfl (by decide +kernel) ⟨Nat.le_of_ble_eq_true rfl, Nat.le_of_ble_eq_true rfl⟩) hK hP hD hS hA rfl rfl rfl rfl hl.1 rfl (Nat.le_of_ble_eq_true rfl) dX6_ask_2 ⟨Nat.zero_le _, Nat.zero_le _⟩ (fun r_2 u_2 H locs hw_2 hP hD hS => ?_)
  obtain ⟨z_2, hw_2, rfl⟩ := hw_2
  rw [hw_2, let1_mk z_2] at hF
  refine qv_zif_ne (tgt := 15) hx hb dX6_ask_5 (by decide) (fun c_5 => ?_) (fun c_5 => ?_)
  · rw [if_pos c_5] at hF
    obtain ⟨f_i, fb_i⟩ := isBatter_nat hw_2 c_5 pB
    have e_i := tN_eq f_i
    refine lv_aload_n hx hb dX6_ask_15 rfl (lv_at hl 0 rfl) ?_
    refine lv_iload_n hx hb dX6_ask_16 rfl (lv_at hl 1 rfl) ?_
    refine qv_top (e_i) ?_
    refine qc_Vi (C := RX6) (As := [.int (nI (tN i))]) (rest := []) (ci := 6) (k0 := 0) ⟨hx, hb, hml, hown, hts⟩ (c_X6_whatOf l dC dI q cI cZ H.size w kp tx td ab be su po st nu li fi ga hh (nI (tN i)) (pMa : inB (w 50) 6)) (cwV 1 hts gX6_ask_X6_whatOf rfl rfl rfl (by decide +kernel) ⟨Nat.le_of_ble_eq_true rfl, Nat.le_of_ble_eq_true rfl⟩) hK hP hD hS hA rfl rfl rfl rfl hl.1 rfl (Nat.le_of_ble_eq_true rfl) dX6_ask_17 ⟨Nat.zero_le _, Nat.zero_le _⟩ (fun r_17 u_17 H locs hw_17 hP hD hS => ?_)
    rw [hw_17, let1_mk r_17] at hF
    refine lv_istore_n (lv' := [(2, .int r_17), (0, .ref (q 0)), (1, .int i)]) hx hb dX6_ask_20 rfl hl (by decide) rfl (fun ls hl => ?_)
    refine lv_aload_n hx hb dX6_ask_21 rfl (lv_at hl 1 rfl) ?_
    refine va_get (D := (dC, dI)) (ci := 6) (v := .ref (q 1)) (C := RX6) (T := TX6) (N := 14) hx hb hts hin hown hK hP 0 rfl rfl 0 (by decide) lk7 (fun _ h9 => h9) rfl dX6_ask_22 ?_
    refine lv_bipush (v := nI 11) hx hb dX6_ask_25 (by decide) ?_
    refine lv_iload_n hx hb dX6_ask_27 rfl (lv_at hl 2 rfl) ?_
    refine qv_top (e_i) ?_
    refine qv_iadd hx hb (tN i + 11) dX6_ask_28 (by omega) ?_
    refine qv_ald (v := w (tN i + 11)) hx hb hK hP 1 0 rfl rfl (by omega) (by decide) (rfl) dX6_ask_29 ?_
    refine lv_istore_n (lv' := [(3, .int (w (tN i + 11))), (2, .int r_17), (0, .ref (q 0)), (1, .int i)]) hx hb dX6_ask_30 rfl hl (by decide) rfl (fun ls hl => ?_)
    refine lv_iconst (v := (-1)) hx hb dX6_ask_31 (by decide) ?_
    refine lv_istore (lv' := [(4, .int ((-1))), (3, .int (w (tN i + 11))), (2, .int r_17), (0, .ref (q 0)), (1, .int i)]) hx hb dX6_ask_32 hl (by decide) rfl (fun ls hl => ?_)
    refine lv_ldc (v := 1000000) hx hb hown (hts (.constant RX6 208 1000000) (by decide +kernel)) dX6_ask_34 ?_
    refine lv_istore (lv' := [(5, .int 1000000), (4, .int ((-1))), (3, .int (w (tN i + 11))), (2, .int r_17), (0, .ref (q 0)), (1, .int i)]) hx hb dX6_ask_36 hl (by decide) rfl (fun ls hl => ?_)
    refine lv_iconst (v := nI 1) hx hb dX6_ask_38 (by decide) ?_
    refine lv_istore (lv' := [(6, .int (nI 1)), (5, .int 1000000), (4, .int ((-1))), (3, .int (w (tN i + 11))), (2, .int r_17), (0, .ref (q 0)), (1, .int i)]) hx hb dX6_ask_39 hl (by decide) rfl (fun ls hl => ?_)
    have L_41 : ∀ (n_41 : Nat) (g : Nat) (bs : Int32) (fw : Int32) (H : Heap) (locs : List Loc), g ≤ 21 → 21 - g < n_41 → va_P (dC, dI) vwCl (mW q cI cZ w kp tx td ab be su po st nu li fi ga hh) H → va_D A (mW q cI cZ w kp tx td ab be su po st nu li fi ga hh) → va_S A s.heap H locs → ∀ (ls : Array Slot), lv_has ls 11 [(6, .int (nI g)), (5, .int fw), (4, .int bs), (3, .int (w (tN i + 11))), (2, .int r_17), (0, .ref (q 0)), (1, .int i)] → OUT = let3 (F_X6_ask_L41 n_41 i w r_17 g bs fw) (fun g bs fw => if r_17 = 0 then ((-1), su) else (bs, su)) → W p l e (headSpec wsX6_ask { frames := 4, cells := 0, slots := 0, locals := 89 }).room s m ([.ref (q 0), .int i] : List Value).toArray below meth c H locs 0 0 (MQ below (va_Qi (fun (r : Int32) (u : (Nat → Int32)) => F_X6_ask w su i = (r, u)) (mB (dC, dI) vwCl (mT cI cZ) A (fun u => mW q cI cZ w kp tx td ab be u po st nu li fi ga hh)) A) ([.ref (q 0), .int i] : List Value).toArray s 0 0 A) (F0 m 41 ls []) := by
      intro n_41
      induction n_41 with
      | zero => intro g bs fw H locs i0 hmu; exact absurd hmu (Nat.not_lt_zero _)
      | succ n_41 ih_41 =>
        intro g bs fw H locs i0 hmu_41 hP hD hS ls hl hF
        rw [F_X6_ask_L41] at hF
        refine lv_iload hx hb dX6_ask_41 (lv_at hl 0 rfl) ?_
        refine lv_bipush (v := nI 20) hx hb dX6_ask_43 (by decide) ?_
        refine qv_icmp_gt (tgt := 187) hx hb dX6_ask_45 (by decide) (by omega) (by omega) (fun c_45 => ?_) (fun c_45 => ?_)
        · rw [if_pos c_45] at hF
          rw [let3_mk (g : Nat) (bs : Int32) (fw : Int32)] at hF
          refine lv_iload_n hx hb dX6_ask_187 rfl (lv_at hl 4 rfl) ?_
          refine lv_if_ne (tgt := 195) hx hb dX6_ask_188 (by decide) (fun c_188 => ?_) (fun c_188 => ?_)
          · rw [if_neg c_188] at hF
            refine lv_iload hx hb dX6_ask_195 (lv_at hl 2 rfl) ?_
            have hP9 : va_P (dC, dI) vwCl (mW q cI cZ w kp tx td ab be su po st nu li fi ga hh) H := hP
            exact W.iret (v := bs) hx hb hr (fun t ht hW => ⟨⟨_, (su), rfl, hO.symm.trans hF, by rw [ht]; exact hP9, va_K.moved hW.alike hK, hD⟩, hS.F ht⟩) hS.2.2 dX6_ask_197
          · rw [if_pos c_188] at hF
            refine lv_iconst (v := (-1)) hx hb dX6_ask_191 (by decide) ?_
            refine lv_goto (tgt := 197) hx hb dX6_ask_192 (by decide) ?_
            have hP9 : va_P (dC, dI) vwCl (mW q cI cZ w kp tx td ab be su po st nu li fi ga hh) H := hP
            exact W.iret (v := (-1)) hx hb hr (fun t ht hW => ⟨⟨_, (su), rfl, hO.symm.trans hF, by rw [ht]; exact hP9, va_K.moved hW.alike hK, hD⟩, hS.F ht⟩) hS.2.2 dX6_ask_197
        · rw [if_neg c_45] at hF
          refine lv_iconst (v := nI 0) hx hb dX6_ask_48 (by decide) ?_
          refine lv_istore (lv' := [(7, .int (nI 0)), (6, .int (nI g)), (5, .int fw), (4, .int bs), (3, .int (w (tN i + 11))), (2, .int r_17), (0, .ref (q 0)), (1, .int i)]) hx hb dX6_ask_49 hl (by decide) rfl (fun ls hl => ?_)
          refine lv_iconst (v := nI 0) hx hb dX6_ask_51 (by decide) ?_
          refine lv_istore (lv' := [(8, .int (nI 0)), (7, .int (nI 0)), (6, .int (nI g)), (5, .int fw), (4, .int bs), (3, .int (w (tN i + 11))), (2, .int r_17), (0, .ref (q 0)), (1, .int i)]) hx hb dX6_ask_52 hl (by decide) rfl (fun ls hl => ?_)
          have L_54 : ∀ (n_54 : Nat) (a : Nat) (mo : Nat) (H : Heap) (locs : List Loc), a ≤ 6 → mo ≤ 6 → 6 - a < n_54 → va_P (dC, dI) vwCl (mW q cI cZ w kp tx td ab be su po st nu li fi ga hh) H → va_D A (mW q cI cZ w kp tx td ab be su po st nu li fi ga hh) → va_S A s.heap H locs → ∀ (ls : Array Slot), lv_has ls 11 [(8, .int (nI a)), (7, .int (nI mo)), (6, .int (nI g)), (5, .int fw), (4, .int bs), (3, .int (w (tN i + 11))), (2, .int r_17), (0, .ref (q 0)), (1, .int i)] → OUT = let3 (let2 (F_X6_ask_L54 n_54 i w r_17 g a mo) (fun a mo => if fw ≤ (nI mo) then F_X6_ask_L41 n_41 i w r_17 (g + 1) bs fw else F_X6_ask_L41 n_41 i w r_17 (g + 1) (nI g) (nI mo))) (fun g bs fw => if r_17 = 0 then ((-1), su) else (bs, su)) → W p l e (headSpec wsX6_ask { frames := 4, cells := 0, slots := 0, locals := 89 }).room s m ([.ref (q 0), .int i] : List Value).toArray below meth c H locs 0 0 (MQ below (va_Qi (fun (r : Int32) (u : (Nat → Int32)) => F_X6_ask w su i = (r, u)) (mB (dC, dI) vwCl (mT cI cZ) A (fun u => mW q cI cZ w kp tx td ab be u po st nu li fi ga hh)) A) ([.ref (q 0), .int i] : List Value).toArray s 0 0 A) (F0 m 54 ls []) := by
            intro n_54
            induction n_54 with
            | zero => intro a mo H locs j0 j1 hmu; exact absurd hmu (Nat.not_lt_zero _)
            | succ n_54 ih_54 =>
              intro a mo H locs j0 j1 hmu_54 hP hD hS ls hl hF
              rw [F_X6_ask_L54] at hF
              refine lv_iload hx hb dX6_ask_54 (lv_at hl 0 rfl) ?_
              refine lv_bipush (v := nI 6) hx hb dX6_ask_56 (by decide) ?_
              refine qv_icmp_ge (tgt := 149) hx hb dX6_ask_58 (by decide) (by omega) (by omega) (fun c_58 => ?_) (fun c_58 => ?_)
              · rw [if_pos c_58] at hF
                rw [let2_mk (a : Nat) (mo : Nat)] at hF
                refine lv_iload hx hb dX6_ask_149 (lv_at hl 1 rfl) ?_
                refine lv_iload hx hb dX6_ask_151 (lv_at hl 3 rfl) ?_
                refine lv_icmp_ge (tgt := 161) hx hb dX6_ask_153 (by decide) (fun c_153 => ?_) (fun c_153 => ?_)
                · rw [if_pos c_153] at hF
                  refine lv_iload hx hb dX6_ask_161 (lv_at hl 4 rfl) ?_
                  refine lv_istore (lv' := [(4, .int bs), (8, .int (nI a)), (7, .int (nI mo)), (6, .int (nI g)), (5, .int fw), (3, .int (w (tN i + 11))), (2, .int r_17), (0, .ref (q 0)), (1, .int i)]) hx hb dX6_ask_163 hl (by decide) rfl (fun ls hl => ?_)
                  refine lv_iload hx hb dX6_ask_165 (lv_at hl 2 rfl) ?_
                  refine lv_iload hx hb dX6_ask_167 (lv_at hl 4 rfl) ?_
                  refine lv_icmp_ge (tgt := 177) hx hb dX6_ask_169 (by decide) (fun _ => ?_) (fun c_169 => absurd c_153 c_169)
                  refine lv_iload hx hb dX6_ask_177 (lv_at hl 4 rfl) ?_
                  refine lv_istore (lv' := [(5, .int fw), (4, .int bs), (8, .int (nI a)), (7, .int (nI mo)), (6, .int (nI g)), (3, .int (w (tN i + 11))), (2, .int r_17), (0, .ref (q 0)), (1, .int i)]) hx hb dX6_ask_179 hl (by decide) rfl (fun ls hl => ?_)
                  refine lv_iinc (v := nI (g + 1)) (lv' := [(6, .int (nI (g + 1))), (5, .int fw), (4, .int bs), (8, .int (nI a)), (7, .int (nI mo)), (3, .int (w (tN i + 11))), (2, .int r_17), (0, .ref (q 0)), (1, .int i)]) hx hb dX6_ask_181 hl (k := 4) rfl (qn_inc (c := 1) rfl (by omega)) (by decide) rfl (fun ls hl => ?_)
                  refine lv_goto (tgt := 41) hx hb dX6_ask_184 (by decide) ?_
                  exact ih_41 (g + 1) bs fw H locs (by omega) (by omega) hP hD hS ls (lv_sub hl [0, 1, 2, 5, 6, 7, 8] rfl) hF
                · rw [if_neg c_153] at hF
                  refine lv_iload hx hb dX6_ask_156 (lv_at hl 2 rfl) ?_
                  refine lv_goto (tgt := 163) hx hb dX6_ask_158 (by decide) ?_
                  refine lv_istore (lv' := [(4, .int (nI g)), (8, .int (nI a)), (7, .int (nI mo)), (6, .int (nI g)), (5, .int fw), (3, .int (w (tN i + 11))), (2, .int r_17), (0, .ref (q 0)), (1, .int i)]) hx hb dX6_ask_163 hl (by decide) rfl (fun ls hl => ?_)
                  refine lv_iload hx hb dX6_ask_165 (lv_at hl 2 rfl) ?_
                  refine lv_iload hx hb dX6_ask_167 (lv_at hl 4 rfl) ?_
                  refine lv_icmp_ge (tgt := 177) hx hb dX6_ask_169 (by decide) (fun c_169 => absurd c_169 c_153) (fun _ => ?_)
                  refine lv_iload hx hb dX6_ask_172 (lv_at hl 2 rfl) ?_
                  refine lv_goto (tgt := 179) hx hb dX6_ask_174 (by decide) ?_
                  refine lv_istore (lv' := [(5, .int (nI mo)), (4, .int (nI g)), (8, .int (nI a)), (7, .int (nI mo)), (6, .int (nI g)), (3, .int (w (tN i + 11))), (2, .int r_17), (0, .ref (q 0)), (1, .int i)]) hx hb dX6_ask_179 hl (by decide) rfl (fun ls hl => ?_)
                  refine lv_iinc (v := nI (g + 1)) (lv' := [(6, .int (nI (g + 1))), (5, .int (nI mo)), (4, .int (nI g)), (8, .int (nI a)), (7, .int (nI mo)), (3, .int (w (tN i + 11))), (2, .int r_17), (0, .ref (q 0)), (1, .int i)]) hx hb dX6_ask_181 hl (k := 4) rfl (qn_inc (c := 1) rfl (by omega)) (by decide) rfl (fun ls hl => ?_)
                  refine lv_goto (tgt := 41) hx hb dX6_ask_184 (by decide) ?_
                  exact ih_41 (g + 1) (nI g) (nI mo) H locs (by omega) (by omega) hP hD hS ls (lv_sub hl [0, 1, 2, 5, 6, 7, 8] rfl) hF
              · rw [if_neg c_58] at hF
                refine lv_iconst (v := nI 0) hx hb dX6_ask_61 (by decide) ?_
                refine lv_istore (lv' := [(9, .int (nI 0)), (8, .int (nI a)), (7, .int (nI mo)), (6, .int (nI g)), (5, .int fw), (4, .int bs), (3, .int (w (tN i + 11))), (2, .int r_17), (0, .ref (q 0)), (1, .int i)]) hx hb dX6_ask_62 hl (by decide) rfl (fun ls hl => ?_)
                refine lv_iconst (v := nI 0) hx hb dX6_ask_64 (by decide) ?_
                refine lv_istore (lv' := [(10, .int (nI 0)), (9, .int (nI 0)), (8, .int (nI a)), (7, .int (nI mo)), (6, .int (nI g)), (5, .int fw), (4, .int bs), (3, .int (w (tN i + 11))), (2, .int r_17), (0, .ref (q 0)), (1, .int i)]) hx hb dX6_ask_65 hl (by decide) rfl (fun ls hl => ?_)
                have L_67 : ∀ (n_67 : Nat) (b : Nat) (n0 : Nat) (H : Heap) (locs : List Loc), b ≤ 6 → n0 ≤ b → 6 - b < n_67 → va_P (dC, dI) vwCl (mW q cI cZ w kp tx td ab be su po st nu li fi ga hh) H → va_D A (mW q cI cZ w kp tx td ab be su po st nu li fi ga hh) → va_S A s.heap H locs → ∀ (ls : Array Slot), lv_has ls 11 [(10, .int (nI b)), (9, .int (nI n0)), (8, .int (nI a)), (7, .int (nI mo)), (6, .int (nI g)), (5, .int fw), (4, .int bs), (3, .int (w (tN i + 11))), (2, .int r_17), (0, .ref (q 0)), (1, .int i)] → OUT = let3 (let2 (let2 (F_X6_ask_L67 n_67 i w r_17 g a b n0) (fun b n0 => if n0 ≤ mo then F_X6_ask_L54 n_54 i w r_17 g (a + 1) mo else F_X6_ask_L54 n_54 i w r_17 g (a + 1) n0)) (fun a mo => if fw ≤ (nI mo) then F_X6_ask_L41 n_41 i w r_17 (g + 1) bs fw else F_X6_ask_L41 n_41 i w r_17 (g + 1) (nI g) (nI mo))) (fun g bs fw => if r_17 = 0 then ((-1), su) else (bs, su)) → W p l e (headSpec wsX6_ask { frames := 4, cells := 0, slots := 0, locals := 89 }).room s m ([.ref (q 0), .int i] : List Value).toArray below meth c H locs 0 0 (MQ below (va_Qi (fun (r : Int32) (u : (Nat → Int32)) => F_X6_ask w su i = (r, u)) (mB (dC, dI) vwCl (mT cI cZ) A (fun u => mW q cI cZ w kp tx td ab be u po st nu li fi ga hh)) A) ([.ref (q 0), .int i] : List Value).toArray s 0 0 A) (F0 m 67 ls []) := by
                  intro n_67
                  induction n_67 with
                  | zero => intro b n0 H locs l0 l1 hmu; exact absurd hmu (Nat.not_lt_zero _)
                  | succ n_67 ih_67 =>
                    intro b n0 H locs l0 l1 hmu_67 hP hD hS ls hl hF
                    rw [F_X6_ask_L67] at hF
                    refine lv_iload hx hb dX6_ask_67 (lv_at hl 0 rfl) ?_
                    refine lv_bipush (v := nI 6) hx hb dX6_ask_69 (by decide) ?_
                    refine qv_icmp_ge (tgt := 127) hx hb dX6_ask_71 (by decide) (by omega) (by omega) (fun c_71 => ?_) (fun c_71 => ?_)
                    · rw [if_pos c_71] at hF
                      rw [let2_mk (b : Nat) (n0 : Nat)] at hF
                      refine lv_iload hx hb dX6_ask_127 (lv_at hl 1 rfl) ?_
                      refine lv_iload hx hb dX6_ask_129 (lv_at hl 3 rfl) ?_
                      refine qv_icmp_le (tgt := 139) hx hb dX6_ask_131 (by decide) (by omega) (by omega) (fun c_131 => ?_) (fun c_131 => ?_)
                      · rw [if_pos c_131] at hF
                        refine lv_iload hx hb dX6_ask_139 (lv_at hl 3 rfl) ?_
                        refine lv_istore (lv' := [(7, .int (nI mo)), (10, .int (nI b)), (9, .int (nI n0)), (8, .int (nI a)), (6, .int (nI g)), (5, .int fw), (4, .int bs), (3, .int (w (tN i + 11))), (2, .int r_17), (0, .ref (q 0)), (1, .int i)]) hx hb dX6_ask_141 hl (by decide) rfl (fun ls hl => ?_)
                        refine lv_iinc (v := nI (a + 1)) (lv' := [(8, .int (nI (a + 1))), (7, .int (nI mo)), (10, .int (nI b)), (9, .int (nI n0)), (6, .int (nI g)), (5, .int fw), (4, .int bs), (3, .int (w (tN i + 11))), (2, .int r_17), (0, .ref (q 0)), (1, .int i)]) hx hb dX6_ask_143 hl (k := 3) rfl (qn_inc (c := 1) rfl (by omega)) (by decide) rfl (fun ls hl => ?_)
                        refine lv_goto (tgt := 54) hx hb dX6_ask_146 (by decide) ?_
                        exact ih_54 (a + 1) mo H locs (by omega) (by omega) (by omega) hP hD hS ls (lv_sub hl [0, 1, 4, 5, 6, 7, 8, 9, 10] rfl) hF
                      · rw [if_neg c_131] at hF
                        refine lv_iload hx hb dX6_ask_134 (lv_at hl 1 rfl) ?_
                        refine lv_goto (tgt := 141) hx hb dX6_ask_136 (by decide) ?_
                        refine lv_istore (lv' := [(7, .int (nI n0)), (10, .int (nI b)), (9, .int (nI n0)), (8, .int (nI a)), (6, .int (nI g)), (5, .int fw), (4, .int bs), (3, .int (w (tN i + 11))), (2, .int r_17), (0, .ref (q 0)), (1, .int i)]) hx hb dX6_ask_141 hl (by decide) rfl (fun ls hl => ?_)
                        refine lv_iinc (v := nI (a + 1)) (lv' := [(8, .int (nI (a + 1))), (7, .int (nI n0)), (10, .int (nI b)), (9, .int (nI n0)), (6, .int (nI g)), (5, .int fw), (4, .int bs), (3, .int (w (tN i + 11))), (2, .int r_17), (0, .ref (q 0)), (1, .int i)]) hx hb dX6_ask_143 hl (k := 3) rfl (qn_inc (c := 1) rfl (by omega)) (by decide) rfl (fun ls hl => ?_)
                        refine lv_goto (tgt := 54) hx hb dX6_ask_146 (by decide) ?_
                        exact ih_54 (a + 1) n0 H locs (by omega) (by omega) (by omega) hP hD hS ls (lv_sub hl [0, 1, 4, 5, 6, 7, 8, 9, 10] rfl) hF
                    · rw [if_neg c_71] at hF
                      refine lv_iload hx hb dX6_ask_74 (lv_at hl 1 rfl) ?_
                      refine lv_iload_n hx hb dX6_ask_76 rfl (lv_at hl 8 rfl) ?_
                      refine lv_iload hx hb dX6_ask_77 (lv_at hl 2 rfl) ?_
                      refine qc_Si (As := [.int r_17, .int (nI a)]) (rest := [.int (nI n0)]) ⟨hx, hb, hml, hown, hts⟩ (c_X6_has l r_17 (nI a)) (va_cwS 2 hts gX6_ask_X6_has rfl rfl rfl (by decide +kernel) ⟨Nat.le_of_ble_eq_true rfl, Nat.le_of_ble_eq_true rfl⟩) rfl hl.1 rfl (Nat.le_of_ble_eq_true rfl) dX6_ask_79 ⟨Nat.zero_le _, Nat.zero_le _⟩ (fun r_79 hw_79 => ?_)
                      subst hw_79
                      refine qv_zif_eq (tgt := 117) hx hb dX6_ask_82 (by decide) (fun c_82 => ?_) (fun c_82 => ?_)
                      · rw [if_neg c_82] at hF
                        refine lv_iconst (v := nI 0) hx hb dX6_ask_117 (by decide) ?_
                        refine qv_iadd hx hb (n0) dX6_ask_118 (by omega) ?_
                        refine lv_istore (lv' := [(9, .int (nI n0)), (10, .int (nI b)), (8, .int (nI a)), (7, .int (nI mo)), (6, .int (nI g)), (5, .int fw), (4, .int bs), (3, .int (w (tN i + 11))), (2, .int r_17), (0, .ref (q 0)), (1, .int i)]) hx hb dX6_ask_119 hl (by decide) rfl (fun ls hl => ?_)
                        refine lv_iinc (v := nI (b + 1)) (lv' := [(10, .int (nI (b + 1))), (9, .int (nI n0)), (8, .int (nI a)), (7, .int (nI mo)), (6, .int (nI g)), (5, .int fw), (4, .int bs), (3, .int (w (tN i + 11))), (2, .int r_17), (0, .ref (q 0)), (1, .int i)]) hx hb dX6_ask_121 hl (k := 1) rfl (qn_inc (c := 1) rfl (by omega)) (by decide) rfl (fun ls hl => ?_)
                        refine lv_goto (tgt := 67) hx hb dX6_ask_124 (by decide) ?_
                        exact ih_67 (b + 1) n0 H locs (by omega) (by omega) (by omega) hP hD hS ls (lv_sub hl [0, 1, 2, 3, 4, 5, 6, 7, 8, 9, 10] rfl) hF
                      · rw [if_pos c_82] at hF
                        refine lv_iload_n hx hb dX6_ask_85 rfl (lv_at hl 8 rfl) ?_
                        refine lv_iload hx hb dX6_ask_86 (lv_at hl 0 rfl) ?_
                        refine qc_Si (As := [.int r_17, .int (nI b)]) (rest := [.int (nI n0)]) ⟨hx, hb, hml, hown, hts⟩ (c_X6_has l r_17 (nI b)) (va_cwS 2 hts gX6_ask_X6_has rfl rfl rfl (by decide +kernel) ⟨Nat.le_of_ble_eq_true rfl, Nat.le_of_ble_eq_true rfl⟩) rfl hl.1 rfl (Nat.le_of_ble_eq_true rfl) dX6_ask_88 ⟨Nat.zero_le _, Nat.zero_le _⟩ (fun r_88 hw_88 => ?_)
                        subst hw_88
                        refine qv_zif_eq (tgt := 117) hx hb dX6_ask_91 (by decide) (fun c_91 => ?_) (fun c_91 => ?_)
                        · rw [if_neg c_91] at hF
                          refine lv_iconst (v := nI 0) hx hb dX6_ask_117 (by decide) ?_
                          refine qv_iadd hx hb (n0) dX6_ask_118 (by omega) ?_
                          refine lv_istore (lv' := [(9, .int (nI n0)), (10, .int (nI b)), (8, .int (nI a)), (7, .int (nI mo)), (6, .int (nI g)), (5, .int fw), (4, .int bs), (3, .int (w (tN i + 11))), (2, .int r_17), (0, .ref (q 0)), (1, .int i)]) hx hb dX6_ask_119 hl (by decide) rfl (fun ls hl => ?_)
                          refine lv_iinc (v := nI (b + 1)) (lv' := [(10, .int (nI (b + 1))), (9, .int (nI n0)), (8, .int (nI a)), (7, .int (nI mo)), (6, .int (nI g)), (5, .int fw), (4, .int bs), (3, .int (w (tN i + 11))), (2, .int r_17), (0, .ref (q 0)), (1, .int i)]) hx hb dX6_ask_121 hl (k := 1) rfl (qn_inc (c := 1) rfl (by omega)) (by decide) rfl (fun ls hl => ?_)
                          refine lv_goto (tgt := 67) hx hb dX6_ask_124 (by decide) ?_
                          exact ih_67 (b + 1) n0 H locs (by omega) (by omega) (by omega) hP hD hS ls (lv_sub hl [0, 1, 2, 3, 4, 5, 6, 7, 8, 9, 10] rfl) hF
                        · rw [if_pos c_91] at hF
                          refine lv_iload hx hb dX6_ask_94 (lv_at hl 2 rfl) ?_
                          refine lv_iload_n hx hb dX6_ask_96 rfl (lv_at hl 7 rfl) ?_
                          refine lv_iload hx hb dX6_ask_97 (lv_at hl 4 rfl) ?_
                          refine qc_Si (As := [.int (nI a), .int (w (tN i + 11)), .int (nI g)]) (rest := [.int (nI n0)]) ⟨hx, hb, hml, hown, hts⟩ (c_X6_runsBy l (nI a) (w (tN i + 11)) (nI g)) (va_cwS 3 hts gX6_ask_X6_runsBy rfl rfl rfl (by decide +kernel) ⟨Nat.le_of_ble_eq_true rfl, Nat.le_of_ble_eq_true rfl⟩) rfl hl.1 rfl (Nat.le_of_ble_eq_true rfl) dX6_ask_99 ⟨Nat.zero_le _, Nat.zero_le _⟩ (fun r_99 hw_99 => ?_)
                          subst hw_99
                          refine lv_iload hx hb dX6_ask_102 (lv_at hl 0 rfl) ?_
                          refine lv_iload_n hx hb dX6_ask_104 rfl (lv_at hl 7 rfl) ?_
                          refine lv_iload hx hb dX6_ask_105 (lv_at hl 4 rfl) ?_
                          refine qc_Si (As := [.int (nI b), .int (w (tN i + 11)), .int (nI g)]) (rest := [.int (F_X6_runsBy (nI a) (w (tN i + 11)) (nI g)), .int (nI n0)]) ⟨hx, hb, hml, hown, hts⟩ (c_X6_runsBy l (nI b) (w (tN i + 11)) (nI g)) (va_cwS 3 hts gX6_ask_X6_runsBy rfl rfl rfl (by decide +kernel) ⟨Nat.le_of_ble_eq_true rfl, Nat.le_of_ble_eq_true rfl⟩) rfl hl.1 rfl (Nat.le_of_ble_eq_true rfl) dX6_ask_107 ⟨Nat.zero_le _, Nat.zero_le _⟩ (fun r_107 hw_107 => ?_)
                          subst hw_107
                          refine lv_icmp_ne (tgt := 117) hx hb dX6_ask_110 (by decide) (fun c_110 => ?_) (fun c_110 => ?_)
                          · rw [if_neg c_110] at hF
                            refine lv_iconst (v := nI 0) hx hb dX6_ask_117 (by decide) ?_
                            refine qv_iadd hx hb (n0) dX6_ask_118 (by omega) ?_
                            refine lv_istore (lv' := [(9, .int (nI n0)), (10, .int (nI b)), (8, .int (nI a)), (7, .int (nI mo)), (6, .int (nI g)), (5, .int fw), (4, .int bs), (3, .int (w (tN i + 11))), (2, .int r_17), (0, .ref (q 0)), (1, .int i)]) hx hb dX6_ask_119 hl (by decide) rfl (fun ls hl => ?_)
                            refine lv_iinc (v := nI (b + 1)) (lv' := [(10, .int (nI (b + 1))), (9, .int (nI n0)), (8, .int (nI a)), (7, .int (nI mo)), (6, .int (nI g)), (5, .int fw), (4, .int bs), (3, .int (w (tN i + 11))), (2, .int r_17), (0, .ref (q 0)), (1, .int i)]) hx hb dX6_ask_121 hl (k := 1) rfl (qn_inc (c := 1) rfl (by omega)) (by decide) rfl (fun ls hl => ?_)
                            refine lv_goto (tgt := 67) hx hb dX6_ask_124 (by decide) ?_
                            exact ih_67 (b + 1) n0 H locs (by omega) (by omega) (by omega) hP hD hS ls (lv_sub hl [0, 1, 2, 3, 4, 5, 6, 7, 8, 9, 10] rfl) hF
                          · rw [if_pos c_110] at hF
                            refine lv_iconst (v := nI 1) hx hb dX6_ask_113 (by decide) ?_
                            refine lv_goto (tgt := 118) hx hb dX6_ask_114 (by decide) ?_
                            refine qv_iadd hx hb (n0 + 1) dX6_ask_118 (by omega) ?_
                            refine lv_istore (lv' := [(9, .int (nI (n0 + 1))), (10, .int (nI b)), (8, .int (nI a)), (7, .int (nI mo)), (6, .int (nI g)), (5, .int fw), (4, .int bs), (3, .int (w (tN i + 11))), (2, .int r_17), (0, .ref (q 0)), (1, .int i)]) hx hb dX6_ask_119 hl (by decide) rfl (fun ls hl => ?_)
                            refine lv_iinc (v := nI (b + 1)) (lv' := [(10, .int (nI (b + 1))), (9, .int (nI (n0 + 1))), (8, .int (nI a)), (7, .int (nI mo)), (6, .int (nI g)), (5, .int fw), (4, .int bs), (3, .int (w (tN i + 11))), (2, .int r_17), (0, .ref (q 0)), (1, .int i)]) hx hb dX6_ask_121 hl (k := 1) rfl (qn_inc (c := 1) rfl (by omega)) (by decide) rfl (fun ls hl => ?_)
                            refine lv_goto (tgt := 67) hx hb dX6_ask_124 (by decide) ?_
                            exact ih_67 (b + 1) (n0 + 1) H locs (by omega) (by omega) (by omega) hP hD hS ls (lv_sub hl [0, 1, 2, 3, 4, 5, 6, 7, 8, 9, 10] rfl) hF
                exact L_67 7 0 0 H locs (by omega) (by omega) (by omega) hP hD hS ls (lv_sub hl [0, 1, 2, 3, 4, 5, 6, 7, 8, 9, 10] rfl) hF
          exact L_54 7 0 0 H locs (by omega) (by omega) (by omega) hP hD hS ls (lv_sub hl [0, 1, 2, 3, 4, 5, 6, 7, 8] rfl) hF
    exact L_41 21 1 ((-1)) 1000000 H locs (by omega) (by omega) hP hD hS ls (lv_sub hl [0, 1, 2, 3, 4, 5, 6] rfl) hF
  · rw [if_neg c_5] at hF
    refine lv_aload_n hx hb dX6_ask_8 rfl (lv_at hl 0 rfl) ?_
    refine lv_bipush (v := (-2)) hx hb dX6_ask_9 (by decide) ?_
    refine qc_Vi (C := RX6) (As := [.int ((-2))]) (rest := []) (ci := 6) (k0 := 0) ⟨hx, hb, hml, hown, hts⟩ (c_X6_bad l dC dI q cI cZ H.size w kp tx td ab be su po st nu li fi ga hh ((-2)) ) (cwV 1 hts gX6_ask_X6_bad rfl rfl rfl (by decide +kernel) ⟨Nat.le_of_ble_eq_true rfl, Nat.le_of_ble_eq_true rfl⟩) hK hP hD hS hA rfl rfl rfl rfl hl.1 rfl (Nat.le_of_ble_eq_true rfl) dX6_ask_11 ⟨Nat.zero_le _, Nat.zero_le _⟩ (fun r_11 u_11 H locs hw_11 hP hD hS => ?_)
    obtain ⟨su_11, rfl⟩ : ∃ z, z = u_11 := ⟨_, rfl⟩
    have hP : va_P (dC, dI) vwCl (mW q cI cZ w kp tx td ab be su_11 po st nu li fi ga hh) H := hP
    have hD : va_D A (mW q cI cZ w kp tx td ab be su_11 po st nu li fi ga hh) := hD
    rw [hw_11, let2_mk r_11 su_11] at hF
    have hP9 : va_P (dC, dI) vwCl (mW q cI cZ w kp tx td ab be su_11 po st nu li fi ga hh) H := hP
    exact W.iret (v := r_11) hx hb hr (fun t ht hW => ⟨⟨_, (su_11), rfl, hO.symm.trans hF, by rw [ht]; exact hP9, va_K.moved hW.alike hK, hD⟩, hS.F ht⟩) hS.2.2 dX6_ask_14
def F_X6_rests_L5 : Nat → (Nat) → (Nat) → (Nat → Int32) → (Nat → Int32) → (Nat) → (Bool) → (Nat) × (Bool)
  | 0, _, _, _, _, k, iz => (k, iz)
  | n_5 + 1, i, j, w, ga, k, iz => if 6 ≤ k then (k, iz) else (if iz = true then (if tN (w 0) ≤ k then (if (ga (6 * i + k)) < (ga (6 * i + j)) then F_X6_rests_L5 n_5 i j w ga (k + 1) false else F_X6_rests_L5 n_5 i j w ga (k + 1) true) else (if (w (k + 17)) = 0 then (if (ga (6 * i + j)) < (ga (6 * k + j)) then F_X6_rests_L5 n_5 i j w ga (k + 1) false else (if (ga (6 * i + k)) < (ga (6 * i + j)) then F_X6_rests_L5 n_5 i j w ga (k + 1) false else F_X6_rests_L5 n_5 i j w ga (k + 1) true)) else (if (ga (6 * i + k)) < (ga (6 * i + j)) then F_X6_rests_L5 n_5 i j w ga (k + 1) false else F_X6_rests_L5 n_5 i j w ga (k + 1) true))) else F_X6_rests_L5 n_5 i j w ga (k + 1) false)
def F_X6_rests (w : Nat → Int32) (ga : Nat → Int32) (i : Nat) (j : Nat) : Bool := let2 (F_X6_rests_L5 7 i j w ga 0 true) (fun k iz => iz)
set_option maxHeartbeats 4000000 in
set_option maxRecDepth 100000 in
theorem c_X6_rests (l : Launch) (dC : Nat → ClassId) (dI : Nat → Nat → Nat) (q : Nat → Nat) (cI cZ : ClassId) (sz : Nat) (w : Nat → Int32) (kp : Nat → Int32) (tx : Nat → Int32) (td : Int32) (ab : Int64) (be : Int64) (su : Nat → Int32) (po : Int32) (st : Int32) (nu : Int32) (li : Nat → Int32) (fi : Nat → Int32) (ga : Nat → Int32) (hh : Int64) (i : Nat) (j : Nat) (pB : inB (w 0) 6) (hi : i < 6) (hj : j < 6) : Met l yX6_rests wsX6_rests { frames := 0, cells := 0, slots := 0, locals := 0 } (mPc (dC, dI) vwCl (mT cI cZ) (mW q cI cZ w kp tx td ab be su po st nu li fi ga hh) sz [.ref (q 0), .int (nI i), .int (nI j)]) (va_Qi (fun (r : Int32) (u : Unit) => ∃ z : Bool, F_X6_rests w ga i j = z ∧ r = if z = true then 1 else 0) (mB (dC, dI) vwCl (mT cI cZ) (va_A (mW q cI cZ w kp tx td ab be su po st nu li fi ga hh) sz) (fun u => mW q cI cZ w kp tx td ab be su po st nu li fi ga hh)) (va_A (mW q cI cZ w kp tx td ab be su po st nu li fi ga hh) sz)) 0 0 (va_A (mW q cI cZ w kp tx td ab be su po st nu li fi ga hh) sz) := by
  refine Met.ofW (cc := cX6_rests) (maxL := 5) (ret := (some .boolean)) (by decide) rfl ?_
  intro p e s m args below meth c s₁ B hml hv
  obtain ⟨rfl, hsz, hP, hK, hD0⟩ := hv
  have hx := B.exec
  have hb := B.bytes
  have hr := B.returns
  have hts := atoms_spec (ws := wsX6_rests) B.pre
  have hown : s.vm.findClass RX6 = some m.cls := findClass_of_methodNamed B.named
  have hlocks := B.notSynchronized
  subst hsz
  have hD := hD0.self (sz := s.heap.size)
  generalize hAe : va_A (mW q cI cZ w kp tx td ab be su po st nu li fi ga hh) s.heap.size = A at hD ⊢
  have hA : ∀ q : Nat, s.heap.size ≤ q → A q := fun q h => by rw [← hAe]; exact Or.inr h
  have hS : va_S A s.heap s.heap [] := va_S.rf
  have hin : ∀ w ∈ wsX60, w ∈ wsX6_rests := by decide +kernel
  have lk7 := hts (.fieldLink RX6 7 "PostRoundersModel" "w" "[I") (by decide +kernel)
  have lk36 := hts (.fieldLink RX6 36 "PostRoundersModel" "gains" "[I") (by decide +kernel)
  have hl := lv_entry ([.ref (q 0), .int (nI i), .int (nI j)]) (n := 5) (Nat.le_of_ble_eq_true rfl)
  rw [lg_entry_eq]
  generalize (lg_sl ([.ref (q 0), .int (nI i), .int (nI j)]) ++ List.replicate (5 - (lg_sl ([.ref (q 0), .int (nI i), .int (nI j)])).length) Slot.unset).toArray = ls at hl ⊢
  have hl : lv_has ls 5 [(0, .ref (q 0)), (1, .int (nI i)), (2, .int (nI j))] := hl
  obtain ⟨OUT, hO⟩ : ∃ z, z = F_X6_rests w ga i j := ⟨_, rfl⟩
  have hF := hO
  unfold F_X6_rests at hF
  have e_pB := tN_eq pB.1
  have b_pB := pB.2
  refine lv_iconst (v := nI 1) hx hb dX6_rests_0 (by decide) ?_
  refine lv_istore_n (lv' := [(3, .int (nI 1)), (0, .ref (q 0)), (1, .int (nI i)), (2, .int (nI j))]) hx hb dX6_rests_1 rfl hl (by decide) rfl (fun ls hl => ?_)
  refine lv_iconst (v := nI 0) hx hb dX6_rests_2 (by decide) ?_
  refine lv_istore (lv' := [(4, .int (nI 0)), (3, .int (nI 1)), (0, .ref (q 0)), (1, .int (nI i)), (2, .int (nI j))]) hx hb dX6_rests_3 hl (by decide) rfl (fun ls hl => ?_)
  have L_5 : ∀ (n_5 : Nat) (k : Nat) (iz : Bool) (H : Heap) (locs : List Loc), k ≤ 6 → 6 - k < n_5 → va_P (dC, dI) vwCl (mW q cI cZ w kp tx td ab be su po st nu li fi ga hh) H → va_D A (mW q cI cZ w kp tx td ab be su po st nu li fi ga hh) → va_S A s.heap H locs → ∀ (ls : Array Slot), lv_has ls 5 [(4, .int (nI k)), (3, .int (if iz = true then 1 else 0)), (0, .ref (q 0)), (1, .int (nI i)), (2, .int (nI j))] → OUT = let2 (F_X6_rests_L5 n_5 i j w ga k iz) (fun k iz => iz) → W p l e (headSpec wsX6_rests { frames := 0, cells := 0, slots := 0, locals := 0 }).room s m ([.ref (q 0), .int (nI i), .int (nI j)] : List Value).toArray below meth c H locs 0 0 (MQ below (va_Qi (fun (r : Int32) (u : Unit) => ∃ z : Bool, F_X6_rests w ga i j = z ∧ r = if z = true then 1 else 0) (mB (dC, dI) vwCl (mT cI cZ) A (fun u => mW q cI cZ w kp tx td ab be su po st nu li fi ga hh)) A) ([.ref (q 0), .int (nI i), .int (nI j)] : List Value).toArray s 0 0 A) (F0 m 5 ls []) := by
    intro n_5
    induction n_5 with
    | zero => intro k iz H locs i0 hmu; exact absurd hmu (Nat.not_lt_zero _)
    | succ n_5 ih_5 =>
      intro k iz H locs i0 hmu_5 hP hD hS ls hl hF
      rw [F_X6_rests_L5] at hF
      refine lv_iload hx hb dX6_rests_5 (lv_at hl 0 rfl) ?_
      refine lv_bipush (v := nI 6) hx hb dX6_rests_7 (by decide) ?_
      refine qv_icmp_ge (tgt := 104) hx hb dX6_rests_9 (by decide) (by omega) (by omega) (fun c_9 => ?_) (fun c_9 => ?_)
      · rw [if_pos c_9] at hF
        rw [let2_mk (k : Nat) (iz : Bool)] at hF
        refine lv_iload_n hx hb dX6_rests_104 rfl (lv_at hl 1 rfl) ?_
        have hP9 : va_P (dC, dI) vwCl (mW q cI cZ w kp tx td ab be su po st nu li fi ga hh) H := hP
        exact W.zret (v := if iz = true then 1 else 0) hx hb hr (zb_nar _) (fun t ht hW => ⟨⟨_, (()), rfl, ⟨iz, hO.symm.trans hF, rfl⟩, by rw [ht]; exact hP9, va_K.moved hW.alike hK, hD⟩, hS.F ht⟩) hS.2.2 dX6_rests_105
      · rw [if_neg c_9] at hF
        refine lv_iload_n hx hb dX6_rests_12 rfl (lv_at hl 1 rfl) ?_
        refine qv_zif_eq (tgt := 96) hx hb dX6_rests_13 (by decide) (fun c_13 => ?_) (fun c_13 => ?_)
        · rw [if_neg c_13] at hF
          refine lv_iconst (v := nI 0) hx hb dX6_rests_96 (by decide) ?_
          refine lv_istore_n (lv' := [(3, .int (nI 0)), (4, .int (nI k)), (0, .ref (q 0)), (1, .int (nI i)), (2, .int (nI j))]) hx hb dX6_rests_97 rfl hl (by decide) rfl (fun ls hl => ?_)
          refine lv_iinc (v := nI (k + 1)) (lv' := [(4, .int (nI (k + 1))), (3, .int (nI 0)), (0, .ref (q 0)), (1, .int (nI i)), (2, .int (nI j))]) hx hb dX6_rests_98 hl (k := 1) rfl (qn_inc (c := 1) rfl (by omega)) (by decide) rfl (fun ls hl => ?_)
          refine lv_goto (tgt := 5) hx hb dX6_rests_101 (by decide) ?_
          exact ih_5 (k + 1) false H locs (by omega) (by omega) hP hD hS ls (lv_sub hl [0, 1, 2, 3, 4] rfl) hF
        · rw [if_pos c_13] at hF
          refine lv_iload hx hb dX6_rests_16 (lv_at hl 0 rfl) ?_
          refine lv_aload_n hx hb dX6_rests_18 rfl (lv_at hl 2 rfl) ?_
          refine va_get (D := (dC, dI)) (ci := 6) (v := .ref (q 1)) (C := RX6) (T := TX6) (N := 14) hx hb hts hin hown hK hP 0 rfl rfl 0 (by decide) lk7 (fun _ h9 => h9) rfl dX6_rests_19 ?_
          refine lv_iconst (v := nI 0) hx hb dX6_rests_22 (by decide) ?_
          refine qv_ald (v := w 0) hx hb hK hP 1 0 rfl rfl (by omega) (by decide) (rfl) dX6_rests_23 ?_
          refine qv_top (e_pB) ?_
          refine qv_icmp_ge (tgt := 66) hx hb dX6_rests_24 (by decide) (by omega) (by omega) (fun c_24 => ?_) (fun c_24 => ?_)
          · rw [if_pos c_24] at hF
            refine lv_aload_n hx hb dX6_rests_66 rfl (lv_at hl 2 rfl) ?_
            refine va_get (D := (dC, dI)) (ci := 6) (v := .ref (q 7)) (C := RX6) (T := TX6) (N := 14) hx hb hts hin hown hK hP 0 rfl rfl 12 (by decide) lk36 (fun _ h9 => h9) rfl dX6_rests_67 ?_
            refine lv_bipush (v := nI 6) hx hb dX6_rests_70 (by decide) ?_
            refine lv_iload_n hx hb dX6_rests_72 rfl (lv_at hl 3 rfl) ?_
            refine qv_imul hx hb (6 * i) dX6_rests_73 (by omega) ?_
            refine lv_iload hx hb dX6_rests_74 (lv_at hl 0 rfl) ?_
            refine qv_iadd hx hb (6 * i + k) dX6_rests_76 (by omega) ?_
            refine qv_ald (v := ga (6 * i + k)) hx hb hK hP 7 0 rfl rfl (by omega) (by decide) (rfl) dX6_rests_77 ?_
            refine lv_aload_n hx hb dX6_rests_78 rfl (lv_at hl 2 rfl) ?_
            refine va_get (D := (dC, dI)) (ci := 6) (v := .ref (q 7)) (C := RX6) (T := TX6) (N := 14) hx hb hts hin hown hK hP 0 rfl rfl 12 (by decide) lk36 (fun _ h9 => h9) rfl dX6_rests_79 ?_
            refine lv_bipush (v := nI 6) hx hb dX6_rests_82 (by decide) ?_
            refine lv_iload_n hx hb dX6_rests_84 rfl (lv_at hl 3 rfl) ?_
            refine qv_imul hx hb (6 * i) dX6_rests_85 (by omega) ?_
            refine lv_iload_n hx hb dX6_rests_86 rfl (lv_at hl 4 rfl) ?_
            refine qv_iadd hx hb (6 * i + j) dX6_rests_87 (by omega) ?_
            refine qv_ald (v := ga (6 * i + j)) hx hb hK hP 7 0 rfl rfl (by omega) (by decide) (rfl) dX6_rests_88 ?_
            refine lv_icmp_lt (tgt := 96) hx hb dX6_rests_89 (by decide) (fun c_89 => ?_) (fun c_89 => ?_)
            · rw [if_pos c_89] at hF
              refine lv_iconst (v := nI 0) hx hb dX6_rests_96 (by decide) ?_
              refine lv_istore_n (lv' := [(3, .int (nI 0)), (4, .int (nI k)), (0, .ref (q 0)), (1, .int (nI i)), (2, .int (nI j))]) hx hb dX6_rests_97 rfl hl (by decide) rfl (fun ls hl => ?_)
              refine lv_iinc (v := nI (k + 1)) (lv' := [(4, .int (nI (k + 1))), (3, .int (nI 0)), (0, .ref (q 0)), (1, .int (nI i)), (2, .int (nI j))]) hx hb dX6_rests_98 hl (k := 1) rfl (qn_inc (c := 1) rfl (by omega)) (by decide) rfl (fun ls hl => ?_)
              refine lv_goto (tgt := 5) hx hb dX6_rests_101 (by decide) ?_
              exact ih_5 (k + 1) false H locs (by omega) (by omega) hP hD hS ls (lv_sub hl [0, 1, 2, 3, 4] rfl) hF
            · rw [if_neg c_89] at hF
              refine lv_iconst (v := nI 1) hx hb dX6_rests_92 (by decide) ?_
              refine lv_goto (tgt := 97) hx hb dX6_rests_93 (by decide) ?_
              refine lv_istore_n (lv' := [(3, .int (nI 1)), (4, .int (nI k)), (0, .ref (q 0)), (1, .int (nI i)), (2, .int (nI j))]) hx hb dX6_rests_97 rfl hl (by decide) rfl (fun ls hl => ?_)
              refine lv_iinc (v := nI (k + 1)) (lv' := [(4, .int (nI (k + 1))), (3, .int (nI 1)), (0, .ref (q 0)), (1, .int (nI i)), (2, .int (nI j))]) hx hb dX6_rests_98 hl (k := 1) rfl (qn_inc (c := 1) rfl (by omega)) (by decide) rfl (fun ls hl => ?_)
              refine lv_goto (tgt := 5) hx hb dX6_rests_101 (by decide) ?_
              exact ih_5 (k + 1) true H locs (by omega) (by omega) hP hD hS ls (lv_sub hl [0, 1, 2, 3, 4] rfl) hF
          · rw [if_neg c_24] at hF
            refine lv_aload_n hx hb dX6_rests_27 rfl (lv_at hl 2 rfl) ?_
            refine va_get (D := (dC, dI)) (ci := 6) (v := .ref (q 1)) (C := RX6) (T := TX6) (N := 14) hx hb hts hin hown hK hP 0 rfl rfl 0 (by decide) lk7 (fun _ h9 => h9) rfl dX6_rests_28 ?_
            refine lv_bipush (v := nI 17) hx hb dX6_rests_31 (by decide) ?_
            refine lv_iload hx hb dX6_rests_33 (lv_at hl 0 rfl) ?_
            refine qv_iadd hx hb (k + 17) dX6_rests_35 (by omega) ?_
            refine qv_ald (v := w (k + 17)) hx hb hK hP 1 0 rfl rfl (by omega) (by decide) (rfl) dX6_rests_36 ?_
            refine lv_if_ne (tgt := 66) hx hb dX6_rests_37 (by decide) (fun c_37 => ?_) (fun c_37 => ?_)
            · rw [if_neg c_37] at hF
              refine lv_aload_n hx hb dX6_rests_66 rfl (lv_at hl 2 rfl) ?_
              refine va_get (D := (dC, dI)) (ci := 6) (v := .ref (q 7)) (C := RX6) (T := TX6) (N := 14) hx hb hts hin hown hK hP 0 rfl rfl 12 (by decide) lk36 (fun _ h9 => h9) rfl dX6_rests_67 ?_
              refine lv_bipush (v := nI 6) hx hb dX6_rests_70 (by decide) ?_
              refine lv_iload_n hx hb dX6_rests_72 rfl (lv_at hl 3 rfl) ?_
              refine qv_imul hx hb (6 * i) dX6_rests_73 (by omega) ?_
              refine lv_iload hx hb dX6_rests_74 (lv_at hl 0 rfl) ?_
              refine qv_iadd hx hb (6 * i + k) dX6_rests_76 (by omega) ?_
              refine qv_ald (v := ga (6 * i + k)) hx hb hK hP 7 0 rfl rfl (by omega) (by decide) (rfl) dX6_rests_77 ?_
              refine lv_aload_n hx hb dX6_rests_78 rfl (lv_at hl 2 rfl) ?_
              refine va_get (D := (dC, dI)) (ci := 6) (v := .ref (q 7)) (C := RX6) (T := TX6) (N := 14) hx hb hts hin hown hK hP 0 rfl rfl 12 (by decide) lk36 (fun _ h9 => h9) rfl dX6_rests_79 ?_
              refine lv_bipush (v := nI 6) hx hb dX6_rests_82 (by decide) ?_
              refine lv_iload_n hx hb dX6_rests_84 rfl (lv_at hl 3 rfl) ?_
              refine qv_imul hx hb (6 * i) dX6_rests_85 (by omega) ?_
              refine lv_iload_n hx hb dX6_rests_86 rfl (lv_at hl 4 rfl) ?_
              refine qv_iadd hx hb (6 * i + j) dX6_rests_87 (by omega) ?_
              refine qv_ald (v := ga (6 * i + j)) hx hb hK hP 7 0 rfl rfl (by omega) (by decide) (rfl) dX6_rests_88 ?_
              refine lv_icmp_lt (tgt := 96) hx hb dX6_rests_89 (by decide) (fun c_89 => ?_) (fun c_89 => ?_)
              · rw [if_pos c_89] at hF
                refine lv_iconst (v := nI 0) hx hb dX6_rests_96 (by decide) ?_
                refine lv_istore_n (lv' := [(3, .int (nI 0)), (4, .int (nI k)), (0, .ref (q 0)), (1, .int (nI i)), (2, .int (nI j))]) hx hb dX6_rests_97 rfl hl (by decide) rfl (fun ls hl => ?_)
                refine lv_iinc (v := nI (k + 1)) (lv' := [(4, .int (nI (k + 1))), (3, .int (nI 0)), (0, .ref (q 0)), (1, .int (nI i)), (2, .int (nI j))]) hx hb dX6_rests_98 hl (k := 1) rfl (qn_inc (c := 1) rfl (by omega)) (by decide) rfl (fun ls hl => ?_)
                refine lv_goto (tgt := 5) hx hb dX6_rests_101 (by decide) ?_
                exact ih_5 (k + 1) false H locs (by omega) (by omega) hP hD hS ls (lv_sub hl [0, 1, 2, 3, 4] rfl) hF
              · rw [if_neg c_89] at hF
                refine lv_iconst (v := nI 1) hx hb dX6_rests_92 (by decide) ?_
                refine lv_goto (tgt := 97) hx hb dX6_rests_93 (by decide) ?_
                refine lv_istore_n (lv' := [(3, .int (nI 1)), (4, .int (nI k)), (0, .ref (q 0)), (1, .int (nI i)), (2, .int (nI j))]) hx hb dX6_rests_97 rfl hl (by decide) rfl (fun ls hl => ?_)
                refine lv_iinc (v := nI (k + 1)) (lv' := [(4, .int (nI (k + 1))), (3, .int (nI 1)), (0, .ref (q 0)), (1, .int (nI i)), (2, .int (nI j))]) hx hb dX6_rests_98 hl (k := 1) rfl (qn_inc (c := 1) rfl (by omega)) (by decide) rfl (fun ls hl => ?_)
                refine lv_goto (tgt := 5) hx hb dX6_rests_101 (by decide) ?_
                exact ih_5 (k + 1) true H locs (by omega) (by omega) hP hD hS ls (lv_sub hl [0, 1, 2, 3, 4] rfl) hF
            · rw [if_pos c_37] at hF
              refine lv_aload_n hx hb dX6_rests_40 rfl (lv_at hl 2 rfl) ?_
              refine va_get (D := (dC, dI)) (ci := 6) (v := .ref (q 7)) (C := RX6) (T := TX6) (N := 14) hx hb hts hin hown hK hP 0 rfl rfl 12 (by decide) lk36 (fun _ h9 => h9) rfl dX6_rests_41 ?_
              refine lv_bipush (v := nI 6) hx hb dX6_rests_44 (by decide) ?_
              refine lv_iload hx hb dX6_rests_46 (lv_at hl 0 rfl) ?_
              refine qv_imul hx hb (6 * k) dX6_rests_48 (by omega) ?_
              refine lv_iload_n hx hb dX6_rests_49 rfl (lv_at hl 4 rfl) ?_
              refine qv_iadd hx hb (6 * k + j) dX6_rests_50 (by omega) ?_
              refine qv_ald (v := ga (6 * k + j)) hx hb hK hP 7 0 rfl rfl (by omega) (by decide) (rfl) dX6_rests_51 ?_
              refine lv_aload_n hx hb dX6_rests_52 rfl (lv_at hl 2 rfl) ?_
              refine va_get (D := (dC, dI)) (ci := 6) (v := .ref (q 7)) (C := RX6) (T := TX6) (N := 14) hx hb hts hin hown hK hP 0 rfl rfl 12 (by decide) lk36 (fun _ h9 => h9) rfl dX6_rests_53 ?_
              refine lv_bipush (v := nI 6) hx hb dX6_rests_56 (by decide) ?_
              refine lv_iload_n hx hb dX6_rests_58 rfl (lv_at hl 3 rfl) ?_
              refine qv_imul hx hb (6 * i) dX6_rests_59 (by omega) ?_
              refine lv_iload_n hx hb dX6_rests_60 rfl (lv_at hl 4 rfl) ?_
              refine qv_iadd hx hb (6 * i + j) dX6_rests_61 (by omega) ?_
              refine qv_ald (v := ga (6 * i + j)) hx hb hK hP 7 0 rfl rfl (by omega) (by decide) (rfl) dX6_rests_62 ?_
              refine lv_icmp_gt (tgt := 96) hx hb dX6_rests_63 (by decide) (fun c_63 => ?_) (fun c_63 => ?_)
              · rw [if_pos c_63] at hF
                refine lv_iconst (v := nI 0) hx hb dX6_rests_96 (by decide) ?_
                refine lv_istore_n (lv' := [(3, .int (nI 0)), (4, .int (nI k)), (0, .ref (q 0)), (1, .int (nI i)), (2, .int (nI j))]) hx hb dX6_rests_97 rfl hl (by decide) rfl (fun ls hl => ?_)
                refine lv_iinc (v := nI (k + 1)) (lv' := [(4, .int (nI (k + 1))), (3, .int (nI 0)), (0, .ref (q 0)), (1, .int (nI i)), (2, .int (nI j))]) hx hb dX6_rests_98 hl (k := 1) rfl (qn_inc (c := 1) rfl (by omega)) (by decide) rfl (fun ls hl => ?_)
                refine lv_goto (tgt := 5) hx hb dX6_rests_101 (by decide) ?_
                exact ih_5 (k + 1) false H locs (by omega) (by omega) hP hD hS ls (lv_sub hl [0, 1, 2, 3, 4] rfl) hF
              · rw [if_neg c_63] at hF
                refine lv_aload_n hx hb dX6_rests_66 rfl (lv_at hl 2 rfl) ?_
                refine va_get (D := (dC, dI)) (ci := 6) (v := .ref (q 7)) (C := RX6) (T := TX6) (N := 14) hx hb hts hin hown hK hP 0 rfl rfl 12 (by decide) lk36 (fun _ h9 => h9) rfl dX6_rests_67 ?_
                refine lv_bipush (v := nI 6) hx hb dX6_rests_70 (by decide) ?_
                refine lv_iload_n hx hb dX6_rests_72 rfl (lv_at hl 3 rfl) ?_
                refine qv_imul hx hb (6 * i) dX6_rests_73 (by omega) ?_
                refine lv_iload hx hb dX6_rests_74 (lv_at hl 0 rfl) ?_
                refine qv_iadd hx hb (6 * i + k) dX6_rests_76 (by omega) ?_
                refine qv_ald (v := ga (6 * i + k)) hx hb hK hP 7 0 rfl rfl (by omega) (by decide) (rfl) dX6_rests_77 ?_
                refine lv_aload_n hx hb dX6_rests_78 rfl (lv_at hl 2 rfl) ?_
                refine va_get (D := (dC, dI)) (ci := 6) (v := .ref (q 7)) (C := RX6) (T := TX6) (N := 14) hx hb hts hin hown hK hP 0 rfl rfl 12 (by decide) lk36 (fun _ h9 => h9) rfl dX6_rests_79 ?_
                refine lv_bipush (v := nI 6) hx hb dX6_rests_82 (by decide) ?_
                refine lv_iload_n hx hb dX6_rests_84 rfl (lv_at hl 3 rfl) ?_
                refine qv_imul hx hb (6 * i) dX6_rests_85 (by omega) ?_
                refine lv_iload_n hx hb dX6_rests_86 rfl (lv_at hl 4 rfl) ?_
                refine qv_iadd hx hb (6 * i + j) dX6_rests_87 (by omega) ?_
                refine qv_ald (v := ga (6 * i + j)) hx hb hK hP 7 0 rfl rfl (by omega) (by decide) (rfl) dX6_rests_88 ?_
                refine lv_icmp_lt (tgt := 96) hx hb dX6_rests_89 (by decide) (fun c_89 => ?_) (fun c_89 => ?_)
                · rw [if_pos c_89] at hF
                  refine lv_iconst (v := nI 0) hx hb dX6_rests_96 (by decide) ?_
                  refine lv_istore_n (lv' := [(3, .int (nI 0)), (4, .int (nI k)), (0, .ref (q 0)), (1, .int (nI i)), (2, .int (nI j))]) hx hb dX6_rests_97 rfl hl (by decide) rfl (fun ls hl => ?_)
                  refine lv_iinc (v := nI (k + 1)) (lv' := [(4, .int (nI (k + 1))), (3, .int (nI 0)), (0, .ref (q 0)), (1, .int (nI i)), (2, .int (nI j))]) hx hb dX6_rests_98 hl (k := 1) rfl (qn_inc (c := 1) rfl (by omega)) (by decide) rfl (fun ls hl => ?_)
                  refine lv_goto (tgt := 5) hx hb dX6_rests_101 (by decide) ?_
                  exact ih_5 (k + 1) false H locs (by omega) (by omega) hP hD hS ls (lv_sub hl [0, 1, 2, 3, 4] rfl) hF
                · rw [if_neg c_89] at hF
                  refine lv_iconst (v := nI 1) hx hb dX6_rests_92 (by decide) ?_
                  refine lv_goto (tgt := 97) hx hb dX6_rests_93 (by decide) ?_
                  refine lv_istore_n (lv' := [(3, .int (nI 1)), (4, .int (nI k)), (0, .ref (q 0)), (1, .int (nI i)), (2, .int (nI j))]) hx hb dX6_rests_97 rfl hl (by decide) rfl (fun ls hl => ?_)
                  refine lv_iinc (v := nI (k + 1)) (lv' := [(4, .int (nI (k + 1))), (3, .int (nI 1)), (0, .ref (q 0)), (1, .int (nI i)), (2, .int (nI j))]) hx hb dX6_rests_98 hl (k := 1) rfl (qn_inc (c := 1) rfl (by omega)) (by decide) rfl (fun ls hl => ?_)
                  refine lv_goto (tgt := 5) hx hb dX6_rests_101 (by decide) ?_
                  exact ih_5 (k + 1) true H locs (by omega) (by omega) hP hD hS ls (lv_sub hl [0, 1, 2, 3, 4] rfl) hF
  exact L_5 7 0 true s.heap [] (by omega) (by omega) hP hD hS ls (lv_sub hl [0, 1, 2, 3, 4] rfl) hF
def F_X6_captains_L95 : Nat → (Int32) → (Nat → Int32) → (Nat → Int32) → (Nat → Int32) → (Nat → Int32) → (Nat) → (Nat) → ((Nat) × (Nat)) ⊕ (Int32 × (Nat → Int32) × (Nat → Int32) × (Nat → Int32))
  | 0, _, _, _, _, _, e2, cn => .inl (e2, cn)
  | n_95 + 1, k, w, su, w1, g1, e2, cn => if 6 * tN (w 0) ≤ e2 then .inl (e2, cn) else (if (w1 ((e2 / 6) + 17)) = 0 then let1 (F_X6_rests w1 g1 ((e2 / 6)) ((e2 % 6))) (fun z_132 => if z_132 = true then (if (nI cn) = k then .inr ((nI (10 * (e2 / 6) + (e2 % 6)), w1, g1, su)) else F_X6_captains_L95 n_95 k w su w1 g1 (e2 + 1) (cn + 1)) else F_X6_captains_L95 n_95 k w su w1 g1 (e2 + 1) cn) else F_X6_captains_L95 n_95 k w su w1 g1 (e2 + 1) cn)
def F_X6_captains_L14 : Nat → (Nat → Int32) → (Nat) → (Nat → Int32) → (Nat → Int32) → (Nat) × (Nat → Int32) × (Nat → Int32)
  | 0, _, ev, w1, g1 => (ev, w1, g1)
  | n_14 + 1, w, ev, w1, g1 => if 6 * tN (w 0) ≤ ev then (ev, w1, g1) else let1 (F_X6_tries w1) (fun w_28 => if ((upd (upd w_28 594 (nI ((ev / 6)))) 593 (nI ((ev % 6)))) ((ev / 6) + 17)) = 0 then let2 (F_X6_scoreTried (upd (upd w_28 594 (nI ((ev / 6)))) 593 (nI ((ev % 6)))) 4) (fun r_77 w_77 => F_X6_captains_L14 n_14 w (ev + 1) w_77 (upd g1 ev (nI (tN r_77)))) else F_X6_captains_L14 n_14 w (ev + 1) (upd (upd w_28 594 (nI ((ev / 6)))) 593 (nI ((ev % 6)))) (upd g1 ev (nI 0)))
def F_X6_captains (w : Nat → Int32) (su : Nat → Int32) (ga : Nat → Int32) (k : Int32) : Int32 × (Nat → Int32) × (Nat → Int32) × (Nat → Int32) := if ((-1)) ≤ k then let3 (F_X6_captains_L14 37 w 0 w ga) (fun ev w1 g1 => sel2 (F_X6_captains_L95 37 k w su w1 g1 0 0) (fun e2 cn => if k = ((-1)) then (nI cn, w1, g1, su) else ((-5), w1, g1, su)) (fun r => r)) else let2 (F_X6_bad su ((-10))) (fun r_8 su_8 => (r_8, w, ga, su_8))
set_option maxHeartbeats 4000000 in
set_option maxRecDepth 100000 in
theorem c_X6_captains (l : Launch) (dC : Nat → ClassId) (dI : Nat → Nat → Nat) (q : Nat → Nat) (cI cZ : ClassId) (sz : Nat) (w : Nat → Int32) (kp : Nat → Int32) (tx : Nat → Int32) (td : Int32) (ab : Int64) (be : Int64) (su : Nat → Int32) (po : Int32) (st : Int32) (nu : Int32) (li : Nat → Int32) (fi : Nat → Int32) (ga : Nat → Int32) (hh : Int64) (k : Int32) (pB : inB (w 0) 6) : Met l yX6_captains wsX6_captains { frames := 7, cells := 0, slots := 0, locals := 160 } (mPc (dC, dI) vwCl (mT cI cZ) (mW q cI cZ w kp tx td ab be su po st nu li fi ga hh) sz [.ref (q 0), .int k]) (va_Qi (fun (r : Int32) (u : (Nat → Int32) × (Nat → Int32) × (Nat → Int32)) => F_X6_captains w su ga k = (r, u)) (mB (dC, dI) vwCl (mT cI cZ) (va_A (mW q cI cZ w kp tx td ab be su po st nu li fi ga hh) sz) (fun u => mW q cI cZ u.1 kp tx td ab be u.2.2 po st nu li fi u.2.1 hh)) (va_A (mW q cI cZ w kp tx td ab be su po st nu li fi ga hh) sz)) 0 0 (va_A (mW q cI cZ w kp tx td ab be su po st nu li fi ga hh) sz) := by
  refine Met.ofW (cc := cX6_captains) (maxL := 4) (ret := (some .int)) (by decide) rfl ?_
  intro p e s m args below meth c s₁ B hml hv
  obtain ⟨rfl, hsz, hP, hK, hD0⟩ := hv
  have hx := B.exec
  have hb := B.bytes
  have hr := B.returns
  have hts := atoms_spec (ws := wsX6_captains) B.pre
  have hown : s.vm.findClass RX6 = some m.cls := findClass_of_methodNamed B.named
  have hlocks := B.notSynchronized
  subst hsz
  have hD := hD0.self (sz := s.heap.size)
  generalize hAe : va_A (mW q cI cZ w kp tx td ab be su po st nu li fi ga hh) s.heap.size = A at hD ⊢
  have hA : ∀ q : Nat, s.heap.size ≤ q → A q := fun q h => by rw [← hAe]; exact Or.inr h
  have hS : va_S A s.heap s.heap [] := va_S.rf
  have hin : ∀ w ∈ wsX60, w ∈ wsX6_captains := by decide +kernel
  have lk7 := hts (.fieldLink RX6 7 "PostRoundersModel" "w" "[I") (by decide +kernel)
  have lk36 := hts (.fieldLink RX6 36 "PostRoundersModel" "gains" "[I") (by decide +kernel)
  have hl := lv_entry ([.ref (q 0), .int k]) (n := 4) (Nat.le_of_ble_eq_true rfl)
  rw [lg_entry_eq]
  generalize (lg_sl ([.ref (q 0), .int k]) ++ List.replicate (4 - (lg_sl ([.ref (q 0), .int k])).length) Slot.unset).toArray = ls at hl ⊢
  have hl : lv_has ls 4 [(0, .ref (q 0)), (1, .int k)] := hl
  obtain ⟨OUT, hO⟩ : ∃ z, z = F_X6_captains w su ga k := ⟨_, rfl⟩
  have hF := hO
  unfold F_X6_captains at hF
  have e_pB := tN_eq pB.1
  have b_pB := pB.2
  refine lv_iload_n hx hb dX6_captains_0 rfl (lv_at hl 1 rfl) ?_
  refine lv_iconst (v := (-1)) hx hb dX6_captains_1 (by decide) ?_
  refine lv_icmp_ge (tgt := 12) hx hb dX6_captains_2 (by decide) (fun c_2 => ?_) (fun c_2 => ?_)
  · rw [if_pos c_2] at hF
    refine lv_iconst (v := nI 0) hx hb dX6_captains_12 (by decide) ?_
    refine lv_istore_n (lv' := [(2, .int (nI 0)), (0, .ref (q 0)), (1, .int k)]) hx hb dX6_captains_13 rfl hl (by decide) rfl (fun ls hl => ?_)
    have L_14 : ∀ (n_14 : Nat) (ev : Nat) (w1 : Nat → Int32) (g1 : Nat → Int32) (H : Heap) (locs : List Loc), ev ≤ 6 * tN (w 0) → w1 0 = w 0 → 6 * tN (w 0) - ev < n_14 → va_P (dC, dI) vwCl (mW q cI cZ w1 kp tx td ab be su po st nu li fi g1 hh) H → va_D A (mW q cI cZ w1 kp tx td ab be su po st nu li fi g1 hh) → va_S A s.heap H locs → ∀ (ls : Array Slot), lv_has ls 4 [(2, .int (nI ev)), (0, .ref (q 0)), (1, .int k)] → OUT = let3 (F_X6_captains_L14 n_14 w ev w1 g1) (fun ev w1 g1 => sel2 (F_X6_captains_L95 37 k w su w1 g1 0 0) (fun e2 cn => if k = ((-1)) then (nI cn, w1, g1, su) else ((-5), w1, g1, su)) (fun r => r)) → W p l e (headSpec wsX6_captains { frames := 7, cells := 0, slots := 0, locals := 160 }).room s m ([.ref (q 0), .int k] : List Value).toArray below meth c H locs 0 0 (MQ below (va_Qi (fun (r : Int32) (u : (Nat → Int32) × (Nat → Int32) × (Nat → Int32)) => F_X6_captains w su ga k = (r, u)) (mB (dC, dI) vwCl (mT cI cZ) A (fun u => mW q cI cZ u.1 kp tx td ab be u.2.2 po st nu li fi u.2.1 hh)) A) ([.ref (q 0), .int k] : List Value).toArray s 0 0 A) (F0 m 14 ls []) := by
      intro n_14
      induction n_14 with
      | zero => intro ev w1 g1 H locs i0 i1 hmu; exact absurd hmu (Nat.not_lt_zero _)
      | succ n_14 ih_14 =>
        intro ev w1 g1 H locs i0 i1 hmu_14 hP hD hS ls hl hF
        rw [F_X6_captains_L14] at hF
        refine lv_iload_n hx hb dX6_captains_14 rfl (lv_at hl 0 rfl) ?_
        refine lv_bipush (v := nI 6) hx hb dX6_captains_15 (by decide) ?_
        refine lv_aload_n hx hb dX6_captains_17 rfl (lv_at hl 1 rfl) ?_
        refine va_get (D := (dC, dI)) (ci := 6) (v := .ref (q 1)) (C := RX6) (T := TX6) (N := 14) hx hb hts hin hown hK hP 0 rfl rfl 0 (by decide) lk7 (fun _ h9 => h9) rfl dX6_captains_18 ?_
        refine lv_iconst (v := nI 0) hx hb dX6_captains_21 (by decide) ?_
        refine qv_ald (v := w1 0) hx hb hK hP 1 0 rfl rfl (by omega) (by decide) (rfl) dX6_captains_22 ?_
        refine qv_top (i1.trans (e_pB)) ?_
        refine qv_imul hx hb (6 * tN (w 0)) dX6_captains_23 (by omega) ?_
        refine qv_icmp_ge (tgt := 91) hx hb dX6_captains_24 (by decide) (by omega) (by omega) (fun c_24 => ?_) (fun c_24 => ?_)
        · rw [if_pos c_24] at hF
          rw [let3_mk (ev : Nat) (w1 : Nat → Int32) (g1 : Nat → Int32)] at hF
          refine lv_iconst (v := nI 0) hx hb dX6_captains_91 (by decide) ?_
          refine lv_istore_n (lv' := [(2, .int (nI 0)), (0, .ref (q 0)), (1, .int k)]) hx hb dX6_captains_92 rfl hl (by decide) rfl (fun ls hl => ?_)
          refine lv_iconst (v := nI 0) hx hb dX6_captains_93 (by decide) ?_
          refine lv_istore_n (lv' := [(3, .int (nI 0)), (2, .int (nI 0)), (0, .ref (q 0)), (1, .int k)]) hx hb dX6_captains_94 rfl hl (by decide) rfl (fun ls hl => ?_)
          have L_95 : ∀ (n_95 : Nat) (e2 : Nat) (cn : Nat) (H : Heap) (locs : List Loc), e2 ≤ 6 * tN (w 0) → 6 * tN (w 0) - e2 < n_95 → va_P (dC, dI) vwCl (mW q cI cZ w1 kp tx td ab be su po st nu li fi g1 hh) H → va_D A (mW q cI cZ w1 kp tx td ab be su po st nu li fi g1 hh) → va_S A s.heap H locs → ∀ (ls : Array Slot), lv_has ls 4 [(3, .int (nI e2)), (2, .int (nI cn)), (0, .ref (q 0)), (1, .int k)] → OUT = sel2 (F_X6_captains_L95 n_95 k w su w1 g1 e2 cn) (fun e2 cn => if k = ((-1)) then (nI cn, w1, g1, su) else ((-5), w1, g1, su)) (fun r => r) → W p l e (headSpec wsX6_captains { frames := 7, cells := 0, slots := 0, locals := 160 }).room s m ([.ref (q 0), .int k] : List Value).toArray below meth c H locs 0 0 (MQ below (va_Qi (fun (r : Int32) (u : (Nat → Int32) × (Nat → Int32) × (Nat → Int32)) => F_X6_captains w su ga k = (r, u)) (mB (dC, dI) vwCl (mT cI cZ) A (fun u => mW q cI cZ u.1 kp tx td ab be u.2.2 po st nu li fi u.2.1 hh)) A) ([.ref (q 0), .int k] : List Value).toArray s 0 0 A) (F0 m 95 ls []) := by
            intro n_95
            induction n_95 with
            | zero => intro e2 cn H locs j0 hmu; exact absurd hmu (Nat.not_lt_zero _)
            | succ n_95 ih_95 =>
              intro e2 cn H locs j0 hmu_95 hP hD hS ls hl hF
              rw [F_X6_captains_L95] at hF
              refine lv_iload_n hx hb dX6_captains_95 rfl (lv_at hl 0 rfl) ?_
              refine lv_bipush (v := nI 6) hx hb dX6_captains_96 (by decide) ?_
              refine lv_aload_n hx hb dX6_captains_98 rfl (lv_at hl 2 rfl) ?_
              refine va_get (D := (dC, dI)) (ci := 6) (v := .ref (q 1)) (C := RX6) (T := TX6) (N := 14) hx hb hts hin hown hK hP 0 rfl rfl 0 (by decide) lk7 (fun _ h9 => h9) rfl dX6_captains_99 ?_
              refine lv_iconst (v := nI 0) hx hb dX6_captains_102 (by decide) ?_
              refine qv_ald (v := w1 0) hx hb hK hP 1 0 rfl rfl (by omega) (by decide) (rfl) dX6_captains_103 ?_
              refine qv_top (i1.trans (e_pB)) ?_
              refine qv_imul hx hb (6 * tN (w 0)) dX6_captains_104 (by omega) ?_
              refine qv_icmp_ge (tgt := 165) hx hb dX6_captains_105 (by decide) (by omega) (by omega) (fun c_105 => ?_) (fun c_105 => ?_)
              · rw [if_pos c_105] at hF
                rw [sel2_inl (e2 : Nat) (cn : Nat)] at hF
                refine lv_iload_n hx hb dX6_captains_165 rfl (lv_at hl 3 rfl) ?_
                refine lv_iconst (v := (-1)) hx hb dX6_captains_166 (by decide) ?_
                refine lv_icmp_ne (tgt := 174) hx hb dX6_captains_167 (by decide) (fun c_167 => ?_) (fun c_167 => ?_)
                · rw [if_neg c_167] at hF
                  refine lv_bipush (v := (-5)) hx hb dX6_captains_174 (by decide) ?_
                  have hP9 : va_P (dC, dI) vwCl (mW q cI cZ w1 kp tx td ab be su po st nu li fi g1 hh) H := hP
                  exact W.iret (v := (-5)) hx hb hr (fun t ht hW => ⟨⟨_, ((w1, g1, su)), rfl, hO.symm.trans hF, by rw [ht]; exact hP9, va_K.moved hW.alike hK, hD⟩, hS.F ht⟩) hS.2.2 dX6_captains_176
                · rw [if_pos c_167] at hF
                  refine lv_iload_n hx hb dX6_captains_170 rfl (lv_at hl 1 rfl) ?_
                  refine lv_goto (tgt := 176) hx hb dX6_captains_171 (by decide) ?_
                  have hP9 : va_P (dC, dI) vwCl (mW q cI cZ w1 kp tx td ab be su po st nu li fi g1 hh) H := hP
                  exact W.iret (v := nI cn) hx hb hr (fun t ht hW => ⟨⟨_, ((w1, g1, su)), rfl, hO.symm.trans hF, by rw [ht]; exact hP9, va_K.moved hW.alike hK, hD⟩, hS.F ht⟩) hS.2.2 dX6_captains_176
              · rw [if_neg c_105] at hF
                refine lv_aload_n hx hb dX6_captains_108 rfl (lv_at hl 2 rfl) ?_
                refine va_get (D := (dC, dI)) (ci := 6) (v := .ref (q 1)) (C := RX6) (T := TX6) (N := 14) hx hb hts hin hown hK hP 0 rfl rfl 0 (by decide) lk7 (fun _ h9 => h9) rfl dX6_captains_109 ?_
                refine lv_bipush (v := nI 17) hx hb dX6_captains_112 (by decide) ?_
                refine lv_iload_n hx hb dX6_captains_114 rfl (lv_at hl 0 rfl) ?_
                refine lv_bipush (v := nI 6) hx hb dX6_captains_115 (by decide) ?_
                refine qv_idiv hx hb dX6_captains_117 (by omega) (by omega) (by omega) ?_
                refine qv_iadd hx hb ((e2 / 6) + 17) dX6_captains_118 (by omega) ?_
                refine qv_ald (v := w1 ((e2 / 6) + 17)) hx hb hK hP 1 0 rfl rfl (by omega) (by decide) (rfl) dX6_captains_119 ?_
                refine lv_if_ne (tgt := 159) hx hb dX6_captains_120 (by decide) (fun c_120 => ?_) (fun c_120 => ?_)
                · rw [if_neg c_120] at hF
                  refine lv_iinc (v := nI (e2 + 1)) (lv' := [(3, .int (nI (e2 + 1))), (2, .int (nI cn)), (0, .ref (q 0)), (1, .int k)]) hx hb dX6_captains_159 hl (k := 0) rfl (qn_inc (c := 1) rfl (by omega)) (by decide) rfl (fun ls hl => ?_)
                  refine lv_goto (tgt := 95) hx hb dX6_captains_162 (by decide) ?_
                  exact ih_95 (e2 + 1) cn H locs (by omega) (by omega) hP hD hS ls (lv_sub hl [0, 1, 2, 3] rfl) hF
                · rw [if_pos c_120] at hF
                  refine lv_aload_n hx hb dX6_captains_123 rfl (lv_at hl 2 rfl) ?_
                  refine lv_iload_n hx hb dX6_captains_124 rfl (lv_at hl 0 rfl) ?_
                  refine lv_bipush (v := nI 6) hx hb dX6_captains_125 (by decide) ?_
                  refine qv_idiv hx hb dX6_captains_127 (by omega) (by omega) (by omega) ?_
                  refine lv_iload_n hx hb dX6_captains_128 rfl (lv_at hl 0 rfl) ?_
                  refine lv_bipush (v := nI 6) hx hb dX6_captains_129 (by decide) ?_
                  refine qv_irem hx hb dX6_captains_131 (by omega) (by omega) (by omega) ?_
                  refine qc_Vi (C := RX6) (As := [.int (nI ((e2 / 6))), .int (nI ((e2 % 6)))]) (rest := []) (ci := 6) (k0 := 0) ⟨hx, hb, hml, hown, hts⟩ (c_X6_rests l dC dI q cI cZ H.size w1 kp tx td ab be su po st nu li fi g1 hh ((e2 / 6)) ((e2 % 6)) (by rw [i1]; exact pB : inB (w1 0) 6) (by omega) (by omega)) (cwV 2 hts gX6_captains_X6_rests rfl rfl rfl (by decide +kernel) ⟨Nat.le_of_ble_eq_true rfl, Nat.le_of_ble_eq_true rfl⟩) hK hP hD hS hA rfl rfl rfl rfl hl.1 rfl (Nat.le_of_ble_eq_true rfl) dX6_captains_132 ⟨Nat.zero_le _, Nat.zero_le _⟩ (fun r_132 u_132 H locs hw_132 hP hD hS => ?_)
                  obtain ⟨z_132, hw_132, rfl⟩ := hw_132
                  rw [hw_132, let1_mk z_132] at hF
                  refine qv_zif_eq (tgt := 159) hx hb dX6_captains_135 (by decide) (fun c_135 => ?_) (fun c_135 => ?_)
                  · rw [if_neg c_135] at hF
                    refine lv_iinc (v := nI (e2 + 1)) (lv' := [(3, .int (nI (e2 + 1))), (2, .int (nI cn)), (0, .ref (q 0)), (1, .int k)]) hx hb dX6_captains_159 hl (k := 0) rfl (qn_inc (c := 1) rfl (by omega)) (by decide) rfl (fun ls hl => ?_)
                    refine lv_goto (tgt := 95) hx hb dX6_captains_162 (by decide) ?_
                    exact ih_95 (e2 + 1) cn H locs (by omega) (by omega) hP hD hS ls (lv_sub hl [0, 1, 2, 3] rfl) hF
                  · rw [if_pos c_135] at hF
                    refine lv_iload_n hx hb dX6_captains_138 rfl (lv_at hl 1 rfl) ?_
                    refine lv_iload_n hx hb dX6_captains_139 rfl (lv_at hl 3 rfl) ?_
                    refine lv_icmp_ne (tgt := 156) hx hb dX6_captains_140 (by decide) (fun c_140 => ?_) (fun c_140 => ?_)
                    · rw [if_neg c_140] at hF
                      refine lv_iinc (v := nI (cn + 1)) (lv' := [(2, .int (nI (cn + 1))), (3, .int (nI e2)), (0, .ref (q 0)), (1, .int k)]) hx hb dX6_captains_156 hl (k := 1) rfl (qn_inc (c := 1) rfl (by omega)) (by decide) rfl (fun ls hl => ?_)
                      refine lv_iinc (v := nI (e2 + 1)) (lv' := [(3, .int (nI (e2 + 1))), (2, .int (nI (cn + 1))), (0, .ref (q 0)), (1, .int k)]) hx hb dX6_captains_159 hl (k := 1) rfl (qn_inc (c := 1) rfl (by omega)) (by decide) rfl (fun ls hl => ?_)
                      refine lv_goto (tgt := 95) hx hb dX6_captains_162 (by decide) ?_
                      exact ih_95 (e2 + 1) (cn + 1) H locs (by omega) (by omega) hP hD hS ls (lv_sub hl [0, 1, 2, 3] rfl) hF
                    · rw [if_pos c_140] at hF
                      refine lv_bipush (v := nI 10) hx hb dX6_captains_143 (by decide) ?_
                      refine lv_iload_n hx hb dX6_captains_145 rfl (lv_at hl 0 rfl) ?_
                      refine lv_bipush (v := nI 6) hx hb dX6_captains_146 (by decide) ?_
                      refine qv_idiv hx hb dX6_captains_148 (by omega) (by omega) (by omega) ?_
                      refine qv_imul hx hb (10 * (e2 / 6)) dX6_captains_149 (by omega) ?_
                      refine lv_iload_n hx hb dX6_captains_150 rfl (lv_at hl 0 rfl) ?_
                      refine lv_bipush (v := nI 6) hx hb dX6_captains_151 (by decide) ?_
                      refine qv_irem hx hb dX6_captains_153 (by omega) (by omega) (by omega) ?_
                      refine qv_iadd hx hb (10 * (e2 / 6) + (e2 % 6)) dX6_captains_154 (by omega) ?_
                      rw [sel2_inr] at hF
                      have hP9 : va_P (dC, dI) vwCl (mW q cI cZ w1 kp tx td ab be su po st nu li fi g1 hh) H := hP
                      exact W.iret (v := nI (10 * (e2 / 6) + (e2 % 6))) hx hb hr (fun t ht hW => ⟨⟨_, ((w1, g1, su)), rfl, hO.symm.trans hF, by rw [ht]; exact hP9, va_K.moved hW.alike hK, hD⟩, hS.F ht⟩) hS.2.2 dX6_captains_155
          exact L_95 37 0 0 H locs (by omega) (by omega) hP hD hS ls (lv_sub hl [0, 1, 2, 3] rfl) hF
        · rw [if_neg c_24] at hF
          refine lv_aload_n hx hb dX6_captains_27 rfl (lv_at hl 1 rfl) ?_
          refine qc_Vv (C := RX6) (As := []) (rest := []) (ci := 6) (k0 := 0) ⟨hx, hb, hml, hown, hts⟩ (c_X6_tries l dC dI q cI cZ H.size w1 kp tx td ab be su po st nu li fi g1 hh  ) (cwV 0 hts gX6_captains_X6_tries rfl rfl rfl (by decide +kernel) ⟨Nat.le_of_ble_eq_true rfl, Nat.le_of_ble_eq_true rfl⟩) hK hP hD hS hA rfl rfl rfl rfl hl.1 rfl (Nat.le_of_ble_eq_true rfl) dX6_captains_28 ⟨Nat.zero_le _, Nat.zero_le _⟩ (fun u_28 H locs hw_28 hP hD hS => ?_)
          obtain ⟨w_28, rfl⟩ : ∃ z, z = u_28 := ⟨_, rfl⟩
          have hP : va_P (dC, dI) vwCl (mW q cI cZ w_28 kp tx td ab be su po st nu li fi g1 hh) H := hP
          have hD : va_D A (mW q cI cZ w_28 kp tx td ab be su po st nu li fi g1 hh) := hD
          have t0_28 : w_28 592 = w1 0 := tries_to hw_28 (k := 0) (by decide)
          have u0_28 : w_28 0 = w1 0 := tries_keep hw_28 0 (by decide)
          rw [hw_28, let1_mk w_28] at hF
          refine lv_aload_n hx hb dX6_captains_31 rfl (lv_at hl 1 rfl) ?_
          refine va_get (D := (dC, dI)) (ci := 6) (v := .ref (q 1)) (C := RX6) (T := TX6) (N := 14) hx hb hts hin hown hK hP 0 rfl rfl 0 (by decide) lk7 (fun _ h9 => h9) rfl dX6_captains_32 ?_
          refine lv_sipush (v := nI 594) hx hb dX6_captains_35 (by decide) ?_
          refine lv_iload_n hx hb dX6_captains_38 rfl (lv_at hl 0 rfl) ?_
          refine lv_bipush (v := nI 6) hx hb dX6_captains_39 (by decide) ?_
          refine qv_idiv hx hb dX6_captains_41 (by omega) (by omega) (by omega) ?_
          refine qv_ast (ws' := mW q cI cZ (upd w_28 594 (nI ((ev / 6)))) kp tx td ab be su po st nu li fi g1 hh) hx hb hK hP hD hS 1 0 rfl rfl (by omega) (by decide) dX6_captains_42 rfl (fun H locs hP hD hS => ?_)
          refine lv_aload_n hx hb dX6_captains_43 rfl (lv_at hl 1 rfl) ?_
          refine va_get (D := (dC, dI)) (ci := 6) (v := .ref (q 1)) (C := RX6) (T := TX6) (N := 14) hx hb hts hin hown hK hP 0 rfl rfl 0 (by decide) lk7 (fun _ h9 => h9) rfl dX6_captains_44 ?_
          refine lv_sipush (v := nI 593) hx hb dX6_captains_47 (by decide) ?_
          refine lv_iload_n hx hb dX6_captains_50 rfl (lv_at hl 0 rfl) ?_
          refine lv_bipush (v := nI 6) hx hb dX6_captains_51 (by decide) ?_
          refine qv_irem hx hb dX6_captains_53 (by omega) (by omega) (by omega) ?_
          refine qv_ast (ws' := mW q cI cZ (upd (upd w_28 594 (nI ((ev / 6)))) 593 (nI ((ev % 6)))) kp tx td ab be su po st nu li fi g1 hh) hx hb hK hP hD hS 1 0 rfl rfl (by omega) (by decide) dX6_captains_54 rfl (fun H locs hP hD hS => ?_)
          refine lv_aload_n hx hb dX6_captains_55 rfl (lv_at hl 1 rfl) ?_
          refine va_get (D := (dC, dI)) (ci := 6) (v := .ref (q 7)) (C := RX6) (T := TX6) (N := 14) hx hb hts hin hown hK hP 0 rfl rfl 12 (by decide) lk36 (fun _ h9 => h9) rfl dX6_captains_56 ?_
          refine lv_iload_n hx hb dX6_captains_59 rfl (lv_at hl 0 rfl) ?_
          refine lv_aload_n hx hb dX6_captains_60 rfl (lv_at hl 1 rfl) ?_
          refine va_get (D := (dC, dI)) (ci := 6) (v := .ref (q 1)) (C := RX6) (T := TX6) (N := 14) hx hb hts hin hown hK hP 0 rfl rfl 0 (by decide) lk7 (fun _ h9 => h9) rfl dX6_captains_61 ?_
          refine lv_bipush (v := nI 17) hx hb dX6_captains_64 (by decide) ?_
          refine lv_iload_n hx hb dX6_captains_66 rfl (lv_at hl 0 rfl) ?_
          refine lv_bipush (v := nI 6) hx hb dX6_captains_67 (by decide) ?_
          refine qv_idiv hx hb dX6_captains_69 (by omega) (by omega) (by omega) ?_
          refine qv_iadd hx hb ((ev / 6) + 17) dX6_captains_70 (by omega) ?_
          refine qv_ald (v := (upd (upd w_28 594 (nI ((ev / 6)))) 593 (nI ((ev % 6)))) ((ev / 6) + 17)) hx hb hK hP 1 0 rfl rfl (by omega) (by decide) (rfl) dX6_captains_71 ?_
          refine lv_if_ne (tgt := 83) hx hb dX6_captains_72 (by decide) (fun c_72 => ?_) (fun c_72 => ?_)
          · rw [if_neg c_72] at hF
            refine lv_iconst (v := nI 0) hx hb dX6_captains_83 (by decide) ?_
            refine qv_ast (ws' := mW q cI cZ (upd (upd w_28 594 (nI ((ev / 6)))) 593 (nI ((ev % 6)))) kp tx td ab be su po st nu li fi (upd g1 ev (nI 0)) hh) hx hb hK hP hD hS 7 0 rfl rfl (by omega) (by decide) dX6_captains_84 rfl (fun H locs hP hD hS => ?_)
            refine lv_iinc (v := nI (ev + 1)) (lv' := [(2, .int (nI (ev + 1))), (0, .ref (q 0)), (1, .int k)]) hx hb dX6_captains_85 hl (k := 0) rfl (qn_inc (c := 1) rfl (by omega)) (by decide) rfl (fun ls hl => ?_)
            refine lv_goto (tgt := 14) hx hb dX6_captains_88 (by decide) ?_
            exact ih_14 (ev + 1) (upd (upd w_28 594 (nI ((ev / 6)))) 593 (nI ((ev % 6)))) (upd g1 ev (nI 0)) H locs (by omega) ((((pk_un (by omega)).trans (pk_un (by omega))).trans (u0_28)).trans i1) (by omega) hP hD hS ls (lv_sub hl [0, 1, 2] rfl) hF
          · rw [if_pos c_72] at hF
            refine lv_aload_n hx hb dX6_captains_75 rfl (lv_at hl 1 rfl) ?_
            refine lv_iconst (v := nI 4) hx hb dX6_captains_76 (by decide) ?_
            refine qc_Vi (C := RX6) (As := [.int (nI 4)]) (rest := [.int (nI ev), .ref (q 7)]) (ci := 6) (k0 := 0) ⟨hx, hb, hml, hown, hts⟩ (c_X6_scoreTried l dC dI q cI cZ H.size (upd (upd w_28 594 (nI ((ev / 6)))) 593 (nI ((ev % 6)))) kp tx td ab be su po st nu li fi g1 hh 4 (by omega) (by rw [show (upd (upd w_28 594 (nI ((ev / 6)))) 593 (nI ((ev % 6)))) 592 = w1 0 from ((pk_un (by omega)).trans (pk_un (by omega))).trans (t0_28)]; exact (by rw [i1]; exact pB : inB (w1 0) 6)) (by rw [show (upd (upd w_28 594 (nI ((ev / 6)))) 593 (nI ((ev % 6)))) 594 = nI ((ev / 6)) from (pk_un (by omega)).trans (pk_us)]; exact (Or.inr (inB_nI (by omega) (by decide)) : okN (nI ((ev / 6)))))) (cwV 1 hts gX6_captains_X6_scoreTried rfl rfl rfl (by decide +kernel) ⟨Nat.le_of_ble_eq_true rfl, Nat.le_of_ble_eq_true rfl⟩) hK hP hD hS hA rfl rfl rfl rfl hl.1 rfl (Nat.le_of_ble_eq_true rfl) dX6_captains_77 ⟨Nat.zero_le _, Nat.zero_le _⟩ (fun r_77 u_77 H locs hw_77 hP hD hS => ?_)
            obtain ⟨w_77, rfl⟩ : ∃ z, z = u_77 := ⟨_, rfl⟩
            have hP : va_P (dC, dI) vwCl (mW q cI cZ w_77 kp tx td ab be su po st nu li fi g1 hh) H := hP
            have hD : va_D A (mW q cI cZ w_77 kp tx td ab be su po st nu li fi g1 hh) := hD
            have a_77 := scoreTried_at hw_77 (by rw [show (upd (upd w_28 594 (nI ((ev / 6)))) 593 (nI ((ev % 6)))) 592 = w1 0 from ((pk_un (by omega)).trans (pk_un (by omega))).trans (t0_28)]; exact (by rw [i1]; exact pB : inB (w1 0) 6)) (by rw [show (upd (upd w_28 594 (nI ((ev / 6)))) 593 (nI ((ev % 6)))) 594 = nI ((ev / 6)) from (pk_un (by omega)).trans (pk_us)]; exact (Or.inr (inB_nI (by omega) (by decide)) : okN (nI ((ev / 6)))))
            have v0_77 : w_77 0 = w1 0 := (a_77.1 0 (by decide)).trans (((pk_un (by omega)).trans (pk_un (by omega))).trans (u0_28))
            have e_77 := tN_eq a_77.2.1
            have b_77 := a_77.2.2
            refine qv_top (e_77) ?_
            rw [hw_77, let2_mk r_77 w_77] at hF
            refine lv_goto (tgt := 84) hx hb dX6_captains_80 (by decide) ?_
            refine qv_ast (ws' := mW q cI cZ w_77 kp tx td ab be su po st nu li fi (upd g1 ev (nI (tN r_77))) hh) hx hb hK hP hD hS 7 0 rfl rfl (by omega) (by decide) dX6_captains_84 rfl (fun H locs hP hD hS => ?_)
            refine lv_iinc (v := nI (ev + 1)) (lv' := [(2, .int (nI (ev + 1))), (0, .ref (q 0)), (1, .int k)]) hx hb dX6_captains_85 hl (k := 0) rfl (qn_inc (c := 1) rfl (by omega)) (by decide) rfl (fun ls hl => ?_)
            refine lv_goto (tgt := 14) hx hb dX6_captains_88 (by decide) ?_
            exact ih_14 (ev + 1) w_77 (upd g1 ev (nI (tN r_77))) H locs (by omega) ((v0_77).trans i1) (by omega) hP hD hS ls (lv_sub hl [0, 1, 2] rfl) hF
    exact L_14 37 0 w ga s.heap [] (by omega) rfl (by omega) hP hD hS ls (lv_sub hl [0, 1, 2] rfl) hF
  · rw [if_neg c_2] at hF
    refine lv_aload_n hx hb dX6_captains_5 rfl (lv_at hl 0 rfl) ?_
    refine lv_bipush (v := (-10)) hx hb dX6_captains_6 (by decide) ?_
    refine qc_Vi (C := RX6) (As := [.int ((-10))]) (rest := []) (ci := 6) (k0 := 0) ⟨hx, hb, hml, hown, hts⟩ (c_X6_bad l dC dI q cI cZ s.heap.size w kp tx td ab be su po st nu li fi ga hh ((-10)) ) (cwV 1 hts gX6_captains_X6_bad rfl rfl rfl (by decide +kernel) ⟨Nat.le_of_ble_eq_true rfl, Nat.le_of_ble_eq_true rfl⟩) hK hP hD hS hA rfl rfl rfl rfl hl.1 rfl (Nat.le_of_ble_eq_true rfl) dX6_captains_8 ⟨Nat.zero_le _, Nat.zero_le _⟩ (fun r_8 u_8 H locs hw_8 hP hD hS => ?_)
    obtain ⟨su_8, rfl⟩ : ∃ z, z = u_8 := ⟨_, rfl⟩
    have hP : va_P (dC, dI) vwCl (mW q cI cZ w kp tx td ab be su_8 po st nu li fi ga hh) H := hP
    have hD : va_D A (mW q cI cZ w kp tx td ab be su_8 po st nu li fi ga hh) := hD
    rw [hw_8, let2_mk r_8 su_8] at hF
    have hP9 : va_P (dC, dI) vwCl (mW q cI cZ w kp tx td ab be su_8 po st nu li fi ga hh) H := hP
    exact W.iret (v := r_8) hx hb hr (fun t ht hW => ⟨⟨_, ((w, ga, su_8)), rfl, hO.symm.trans hF, by rw [ht]; exact hP9, va_K.moved hW.alike hK, hD⟩, hS.F ht⟩) hS.2.2 dX6_captains_11
def F_X6_days_L44 : Nat → (Int32) → (Int64) → (Nat) → (Nat) → (Nat → Int32) → (Int64) × (Nat) × (Nat) × (Nat → Int32)
  | 0, _, x1, sm, k, w1 => (x1, sm, k, w1)
  | n_44 + 1, n, x1, sm, k, w1 => if tN n ≤ k then (x1, sm, k, w1) else let1 (F_X6_isDone w1 592) (fun z_54 => if z_54 = true then (x1, sm, k, w1) else let2 (F_X6_bats w1 592 ((((((x1 * 1103515245) + 12345) - ((x1 * 1103515245) + 12345) / 2147483648 * 2147483648) / 65536) - ((((x1 * 1103515245) + 12345) - ((x1 * 1103515245) + 12345) / 2147483648 * 2147483648) / 65536) / 10 * 10).toInt32)) (fun r_90 w_90 => F_X6_days_L44 n_44 n (((x1 * 1103515245) + 12345) - ((x1 * 1103515245) + 12345) / 2147483648 * 2147483648) (sm + tN r_90) (k + 1) w_90))
def F_X6_days (w : Nat → Int32) (su : Nat → Int32) (sd : Int32) (n : Int32) : Int32 × (Nat → Int32) × (Nat → Int32) := if (F_X6_in sd.toInt64 0 999999) = true then (if (F_X6_in n.toInt64 0 60) = true then let1 (F_X6_tries w) (fun w_32 => let4 (F_X6_days_L44 61 n ((nI (tN sd)).toInt64) 0 0 w_32) (fun x1 sm k w1 => (nI sm, w1, su))) else let2 (F_X6_bad su ((-2))) (fun r_27 su_27 => (r_27, w, su_27))) else let2 (F_X6_bad su ((-2))) (fun r_27 su_27 => (r_27, w, su_27))
set_option maxHeartbeats 4000000 in
set_option maxRecDepth 100000 in
theorem c_X6_days (l : Launch) (dC : Nat → ClassId) (dI : Nat → Nat → Nat) (q : Nat → Nat) (cI cZ : ClassId) (sz : Nat) (w : Nat → Int32) (kp : Nat → Int32) (tx : Nat → Int32) (td : Int32) (ab : Int64) (be : Int64) (su : Nat → Int32) (po : Int32) (st : Int32) (nu : Int32) (li : Nat → Int32) (fi : Nat → Int32) (ga : Nat → Int32) (hh : Int64) (sd : Int32) (n : Int32) (pB : inB (w 0) 6) (pN : okN (w 2)) : Met l yX6_days wsX6_days { frames := 5, cells := 0, slots := 0, locals := 116 } (mPc (dC, dI) vwCl (mT cI cZ) (mW q cI cZ w kp tx td ab be su po st nu li fi ga hh) sz [.ref (q 0), .int sd, .int n]) (va_Qi (fun (r : Int32) (u : (Nat → Int32) × (Nat → Int32)) => F_X6_days w su sd n = (r, u)) (mB (dC, dI) vwCl (mT cI cZ) (va_A (mW q cI cZ w kp tx td ab be su po st nu li fi ga hh) sz) (fun u => mW q cI cZ u.1 kp tx td ab be u.2 po st nu li fi ga hh)) (va_A (mW q cI cZ w kp tx td ab be su po st nu li fi ga hh) sz)) 0 0 (va_A (mW q cI cZ w kp tx td ab be su po st nu li fi ga hh) sz) := by
  refine Met.ofW (cc := cX6_days) (maxL := 7) (ret := (some .int)) (by decide) rfl ?_
  intro p e s m args below meth c s₁ B hml hv
  obtain ⟨rfl, hsz, hP, hK, hD0⟩ := hv
  have hx := B.exec
  have hb := B.bytes
  have hr := B.returns
  have hts := atoms_spec (ws := wsX6_days) B.pre
  have hown : s.vm.findClass RX6 = some m.cls := findClass_of_methodNamed B.named
  have hlocks := B.notSynchronized
  subst hsz
  have hD := hD0.self (sz := s.heap.size)
  generalize hAe : va_A (mW q cI cZ w kp tx td ab be su po st nu li fi ga hh) s.heap.size = A at hD ⊢
  have hA : ∀ q : Nat, s.heap.size ≤ q → A q := fun q h => by rw [← hAe]; exact Or.inr h
  have hS : va_S A s.heap s.heap [] := va_S.rf
  have hl := lv_entry ([.ref (q 0), .int sd, .int n]) (n := 7) (Nat.le_of_ble_eq_true rfl)
  rw [lg_entry_eq]
  generalize (lg_sl ([.ref (q 0), .int sd, .int n]) ++ List.replicate (7 - (lg_sl ([.ref (q 0), .int sd, .int n])).length) Slot.unset).toArray = ls at hl ⊢
  have hl : lv_has ls 7 [(0, .ref (q 0)), (1, .int sd), (2, .int n)] := hl
  obtain ⟨OUT, hO⟩ : ∃ z, z = F_X6_days w su sd n := ⟨_, rfl⟩
  have hF := hO
  unfold F_X6_days at hF
  have e_pB := tN_eq pB.1
  have b_pB := pB.2
  refine lv_iload_n hx hb dX6_days_0 rfl (lv_at hl 1 rfl) ?_
  refine lv_i2l hx hb dX6_days_1 rfl ?_
  refine lv_lconst (v := 0) hx hb dX6_days_2 (by decide) ?_
  refine lv_ldc2 (v := 999999) hx hb hown (hts (.constantLong RX6 240 999999) (by decide +kernel)) dX6_days_3 ?_
  refine qc_Si (As := [.long sd.toInt64, .long 0, .long 999999]) (rest := []) ⟨hx, hb, hml, hown, hts⟩ (c_X6_in l sd.toInt64 0 999999) (va_cwS 3 hts gX6_days_X6_in rfl rfl rfl (by decide +kernel) ⟨Nat.le_of_ble_eq_true rfl, Nat.le_of_ble_eq_true rfl⟩) rfl hl.1 rfl (Nat.le_of_ble_eq_true rfl) dX6_days_6 ⟨Nat.zero_le _, Nat.zero_le _⟩ (fun r_6 hw_6 => ?_)
  subst hw_6
  refine qv_zif_eq (tgt := 24) hx hb dX6_days_9 (by decide) (fun c_9 => ?_) (fun c_9 => ?_)
  · rw [if_neg c_9] at hF
    refine lv_aload_n hx hb dX6_days_24 rfl (lv_at hl 0 rfl) ?_
    refine lv_bipush (v := (-2)) hx hb dX6_days_25 (by decide) ?_
    refine qc_Vi (C := RX6) (As := [.int ((-2))]) (rest := []) (ci := 6) (k0 := 0) ⟨hx, hb, hml, hown, hts⟩ (c_X6_bad l dC dI q cI cZ s.heap.size w kp tx td ab be su po st nu li fi ga hh ((-2)) ) (cwV 1 hts gX6_days_X6_bad rfl rfl rfl (by decide +kernel) ⟨Nat.le_of_ble_eq_true rfl, Nat.le_of_ble_eq_true rfl⟩) hK hP hD hS hA rfl rfl rfl rfl hl.1 rfl (Nat.le_of_ble_eq_true rfl) dX6_days_27 ⟨Nat.zero_le _, Nat.zero_le _⟩ (fun r_27 u_27 H locs hw_27 hP hD hS => ?_)
    obtain ⟨su_27, rfl⟩ : ∃ z, z = u_27 := ⟨_, rfl⟩
    have hP : va_P (dC, dI) vwCl (mW q cI cZ w kp tx td ab be su_27 po st nu li fi ga hh) H := hP
    have hD : va_D A (mW q cI cZ w kp tx td ab be su_27 po st nu li fi ga hh) := hD
    rw [hw_27, let2_mk r_27 su_27] at hF
    have hP9 : va_P (dC, dI) vwCl (mW q cI cZ w kp tx td ab be su_27 po st nu li fi ga hh) H := hP
    exact W.iret (v := r_27) hx hb hr (fun t ht hW => ⟨⟨_, ((w, su_27)), rfl, hO.symm.trans hF, by rw [ht]; exact hP9, va_K.moved hW.alike hK, hD⟩, hS.F ht⟩) hS.2.2 dX6_days_30
  · rw [if_pos c_9] at hF
    obtain ⟨f_sd, fa_sd, fb_sd⟩ := in_nat (lo := 0) (hi := 999999) rfl rfl (by decide) (by decide) c_9
    have e_sd := tN_eq f_sd
    refine lv_iload_n hx hb dX6_days_12 rfl (lv_at hl 2 rfl) ?_
    refine lv_i2l hx hb dX6_days_13 rfl ?_
    refine lv_lconst (v := 0) hx hb dX6_days_14 (by decide) ?_
    refine lv_ldc2 (v := 60) hx hb hown (hts (.constantLong RX6 242 60) (by decide +kernel)) dX6_days_15 ?_
    refine qc_Si (As := [.long n.toInt64, .long 0, .long 60]) (rest := []) ⟨hx, hb, hml, hown, hts⟩ (c_X6_in l n.toInt64 0 60) (va_cwS 3 hts gX6_days_X6_in rfl rfl rfl (by decide +kernel) ⟨Nat.le_of_ble_eq_true rfl, Nat.le_of_ble_eq_true rfl⟩) rfl hl.1 rfl (Nat.le_of_ble_eq_true rfl) dX6_days_18 ⟨Nat.zero_le _, Nat.zero_le _⟩ (fun r_18 hw_18 => ?_)
    subst hw_18
    refine qv_zif_ne (tgt := 31) hx hb dX6_days_21 (by decide) (fun c_21 => ?_) (fun c_21 => ?_)
    · rw [if_pos c_21] at hF
      obtain ⟨f_n, fa_n, fb_n⟩ := in_nat (lo := 0) (hi := 60) rfl rfl (by decide) (by decide) c_21
      have e_n := tN_eq f_n
      refine lv_aload_n hx hb dX6_days_31 rfl (lv_at hl 0 rfl) ?_
      refine qc_Vv (C := RX6) (As := []) (rest := []) (ci := 6) (k0 := 0) ⟨hx, hb, hml, hown, hts⟩ (c_X6_tries l dC dI q cI cZ s.heap.size w kp tx td ab be su po st nu li fi ga hh  ) (cwV 0 hts gX6_days_X6_tries rfl rfl rfl (by decide +kernel) ⟨Nat.le_of_ble_eq_true rfl, Nat.le_of_ble_eq_true rfl⟩) hK hP hD hS hA rfl rfl rfl rfl hl.1 rfl (Nat.le_of_ble_eq_true rfl) dX6_days_32 ⟨Nat.zero_le _, Nat.zero_le _⟩ (fun u_32 H locs hw_32 hP hD hS => ?_)
      obtain ⟨w_32, rfl⟩ : ∃ z, z = u_32 := ⟨_, rfl⟩
      have hP : va_P (dC, dI) vwCl (mW q cI cZ w_32 kp tx td ab be su po st nu li fi ga hh) H := hP
      have hD : va_D A (mW q cI cZ w_32 kp tx td ab be su po st nu li fi ga hh) := hD
      have t0_32 : w_32 592 = w 0 := tries_to hw_32 (k := 0) (by decide)
      have t2_32 : w_32 594 = w 2 := tries_to hw_32 (k := 2) (by decide)
      rw [hw_32, let1_mk w_32] at hF
      refine lv_iload_n hx hb dX6_days_35 rfl (lv_at hl 1 rfl) ?_
      refine qv_top (e_sd) ?_
      refine lv_i2l hx hb dX6_days_36 rfl ?_
      refine lv_lstore_n (lv' := [(3, .long ((nI (tN sd)).toInt64)), (0, .ref (q 0)), (1, .int sd), (2, .int n)]) hx hb dX6_days_37 rfl hl (by decide) rfl (fun ls hl => ?_)
      refine lv_iconst (v := nI 0) hx hb dX6_days_38 (by decide) ?_
      refine lv_istore (lv' := [(5, .int (nI 0)), (3, .long ((nI (tN sd)).toInt64)), (0, .ref (q 0)), (1, .int sd), (2, .int n)]) hx hb dX6_days_39 hl (by decide) rfl (fun ls hl => ?_)
      refine lv_iconst (v := nI 0) hx hb dX6_days_41 (by decide) ?_
      refine lv_istore (lv' := [(6, .int (nI 0)), (5, .int (nI 0)), (3, .long ((nI (tN sd)).toInt64)), (0, .ref (q 0)), (1, .int sd), (2, .int n)]) hx hb dX6_days_42 hl (by decide) rfl (fun ls hl => ?_)
      have L_44 : ∀ (n_44 : Nat) (x1 : Int64) (sm : Nat) (k : Nat) (w1 : Nat → Int32) (H : Heap) (locs : List Loc), k ≤ tN n → w1 592 = w 0 → okN (w1 594) → tN n - k < n_44 → va_P (dC, dI) vwCl (mW q cI cZ w1 kp tx td ab be su po st nu li fi ga hh) H → va_D A (mW q cI cZ w1 kp tx td ab be su po st nu li fi ga hh) → va_S A s.heap H locs → ∀ (ls : Array Slot), lv_has ls 7 [(6, .int (nI k)), (5, .int (nI sm)), (3, .long x1), (0, .ref (q 0)), (1, .int sd), (2, .int n)] → OUT = let4 (F_X6_days_L44 n_44 n x1 sm k w1) (fun x1 sm k w1 => (nI sm, w1, su)) → W p l e (headSpec wsX6_days { frames := 5, cells := 0, slots := 0, locals := 116 }).room s m ([.ref (q 0), .int sd, .int n] : List Value).toArray below meth c H locs 0 0 (MQ below (va_Qi (fun (r : Int32) (u : (Nat → Int32) × (Nat → Int32)) => F_X6_days w su sd n = (r, u)) (mB (dC, dI) vwCl (mT cI cZ) A (fun u => mW q cI cZ u.1 kp tx td ab be u.2 po st nu li fi ga hh)) A) ([.ref (q 0), .int sd, .int n] : List Value).toArray s 0 0 A) (F0 m 44 ls []) := by
        intro n_44
        induction n_44 with
        | zero => intro x1 sm k w1 H locs i0 i1 i2 hmu; exact absurd hmu (Nat.not_lt_zero _)
        | succ n_44 ih_44 =>
          intro x1 sm k w1 H locs i0 i1 i2 hmu_44 hP hD hS ls hl hF
          rw [F_X6_days_L44] at hF
          refine lv_iload hx hb dX6_days_44 (lv_at hl 0 rfl) ?_
          refine lv_iload_n hx hb dX6_days_46 rfl (lv_at hl 5 rfl) ?_
          refine qv_top (e_n) ?_
          refine qv_icmp_ge (tgt := 102) hx hb dX6_days_47 (by decide) (by omega) (by omega) (fun c_47 => ?_) (fun c_47 => ?_)
          · rw [if_pos c_47] at hF
            rw [let4_mk (x1 : Int64) (sm : Nat) (k : Nat) (w1 : Nat → Int32)] at hF
            refine lv_iload hx hb dX6_days_102 (lv_at hl 1 rfl) ?_
            have hP9 : va_P (dC, dI) vwCl (mW q cI cZ w1 kp tx td ab be su po st nu li fi ga hh) H := hP
            exact W.iret (v := nI sm) hx hb hr (fun t ht hW => ⟨⟨_, ((w1, su)), rfl, hO.symm.trans hF, by rw [ht]; exact hP9, va_K.moved hW.alike hK, hD⟩, hS.F ht⟩) hS.2.2 dX6_days_104
          · rw [if_neg c_47] at hF
            refine lv_aload_n hx hb dX6_days_50 rfl (lv_at hl 3 rfl) ?_
            refine lv_sipush (v := nI 592) hx hb dX6_days_51 (by decide) ?_
            refine qc_Vi (C := RX6) (As := [.int (nI 592)]) (rest := []) (ci := 6) (k0 := 0) ⟨hx, hb, hml, hown, hts⟩ (c_X6_isDone l dC dI q cI cZ H.size w1 kp tx td ab be su po st nu li fi ga hh 592 (by omega)) (cwV 1 hts gX6_days_X6_isDone rfl rfl rfl (by decide +kernel) ⟨Nat.le_of_ble_eq_true rfl, Nat.le_of_ble_eq_true rfl⟩) hK hP hD hS hA rfl rfl rfl rfl hl.1 rfl (Nat.le_of_ble_eq_true rfl) dX6_days_54 ⟨Nat.zero_le _, Nat.zero_le _⟩ (fun r_54 u_54 H locs hw_54 hP hD hS => ?_)
            obtain ⟨z_54, hw_54, rfl⟩ := hw_54
            rw [hw_54, let1_mk z_54] at hF
            refine qv_zif_ne (tgt := 102) hx hb dX6_days_57 (by decide) (fun c_57 => ?_) (fun c_57 => ?_)
            · rw [if_pos c_57] at hF
              rw [let4_mk (x1 : Int64) (sm : Nat) (k : Nat) (w1 : Nat → Int32)] at hF
              refine lv_iload hx hb dX6_days_102 (lv_at hl 1 rfl) ?_
              have hP9 : va_P (dC, dI) vwCl (mW q cI cZ w1 kp tx td ab be su po st nu li fi ga hh) H := hP
              exact W.iret (v := nI sm) hx hb hr (fun t ht hW => ⟨⟨_, ((w1, su)), rfl, hO.symm.trans hF, by rw [ht]; exact hP9, va_K.moved hW.alike hK, hD⟩, hS.F ht⟩) hS.2.2 dX6_days_104
            · rw [if_neg c_57] at hF
              have pI : inB (w1 594) 5 := i2.resolve_left (isDone_no hw_54 c_57)
              refine lv_lload_n hx hb dX6_days_60 rfl (lv_at hl 2 rfl) ?_
              refine lv_ldc2 (v := 1103515245) hx hb hown (hts (.constantLong RX6 244 1103515245) (by decide +kernel)) dX6_days_61 ?_
              refine lv_lmul hx hb dX6_days_64 ?_
              refine lv_ldc2 (v := 12345) hx hb hown (hts (.constantLong RX6 246 12345) (by decide +kernel)) dX6_days_65 ?_
              refine lv_ladd hx hb dX6_days_68 ?_
              refine lv_ldc2 (v := 2147483648) hx hb hown (hts (.constantLong RX6 248 2147483648) (by decide +kernel)) dX6_days_69 ?_
              refine lv_lrem hx hb dX6_days_72 (by decide) ?_
              refine lv_lstore_n (lv' := [(3, .long (((x1 * 1103515245) + 12345) - ((x1 * 1103515245) + 12345) / 2147483648 * 2147483648)), (6, .int (nI k)), (5, .int (nI sm)), (0, .ref (q 0)), (1, .int sd), (2, .int n)]) hx hb dX6_days_73 rfl hl (by decide) rfl (fun ls hl => ?_)
              refine lv_iload hx hb dX6_days_74 (lv_at hl 2 rfl) ?_
              refine lv_aload_n hx hb dX6_days_76 rfl (lv_at hl 3 rfl) ?_
              refine lv_sipush (v := nI 592) hx hb dX6_days_77 (by decide) ?_
              refine lv_lload_n hx hb dX6_days_80 rfl (lv_at hl 0 rfl) ?_
              refine lv_ldc2 (v := 65536) hx hb hown (hts (.constantLong RX6 250 65536) (by decide +kernel)) dX6_days_81 ?_
              refine lv_ldiv hx hb dX6_days_84 (by decide) ?_
              refine lv_ldc2 (v := 10) hx hb hown (hts (.constantLong RX6 252 10) (by decide +kernel)) dX6_days_85 ?_
              refine lv_lrem hx hb dX6_days_88 (by decide) ?_
              refine lv_l2i hx hb dX6_days_89 rfl ?_
              refine qc_Vi (C := RX6) (As := [.int (nI 592), .int ((((((x1 * 1103515245) + 12345) - ((x1 * 1103515245) + 12345) / 2147483648 * 2147483648) / 65536) - ((((x1 * 1103515245) + 12345) - ((x1 * 1103515245) + 12345) / 2147483648 * 2147483648) / 65536) / 10 * 10).toInt32)]) (rest := [.int (nI sm)]) (ci := 6) (k0 := 0) ⟨hx, hb, hml, hown, hts⟩ (c_X6_bats l dC dI q cI cZ H.size w1 kp tx td ab be su po st nu li fi ga hh 592 ((((((x1 * 1103515245) + 12345) - ((x1 * 1103515245) + 12345) / 2147483648 * 2147483648) / 65536) - ((((x1 * 1103515245) + 12345) - ((x1 * 1103515245) + 12345) / 2147483648 * 2147483648) / 65536) / 10 * 10).toInt32) (by omega) (by rw [i1]; exact pB : inB (w1 592) 6) (pI : inB (w1 594) 5)) (cwV 2 hts gX6_days_X6_bats rfl rfl rfl (by decide +kernel) ⟨Nat.le_of_ble_eq_true rfl, Nat.le_of_ble_eq_true rfl⟩) hK hP hD hS hA rfl rfl rfl rfl hl.1 rfl (Nat.le_of_ble_eq_true rfl) dX6_days_90 ⟨Nat.zero_le _, Nat.zero_le _⟩ (fun r_90 u_90 H locs hw_90 hP hD hS => ?_)
              obtain ⟨w_90, rfl⟩ : ∃ z, z = u_90 := ⟨_, rfl⟩
              have hP : va_P (dC, dI) vwCl (mW q cI cZ w_90 kp tx td ab be su po st nu li fi ga hh) H := hP
              have hD : va_D A (mW q cI cZ w_90 kp tx td ab be su po st nu li fi ga hh) := hD
              have a_90 := bats_at hw_90 (by rw [i1]; exact pB : inB (w1 592) 6) (pI : inB (w1 594) 5)
              have k_90 := bats_num hw_90
              have v_90 : w_90 592 = w1 592 := a_90.2 592 (by decide) (by decide) (by decide)
              have e_90 := tN_eq k_90.1
              refine qv_top (e_90) ?_
              rw [hw_90, let2_mk r_90 w_90] at hF
              refine qv_iadd hx hb (sm + tN r_90) dX6_days_93 (by omega) ?_
              refine lv_istore (lv' := [(5, .int (nI (sm + tN r_90))), (3, .long (((x1 * 1103515245) + 12345) - ((x1 * 1103515245) + 12345) / 2147483648 * 2147483648)), (6, .int (nI k)), (0, .ref (q 0)), (1, .int sd), (2, .int n)]) hx hb dX6_days_94 hl (by decide) rfl (fun ls hl => ?_)
              refine lv_iinc (v := nI (k + 1)) (lv' := [(6, .int (nI (k + 1))), (5, .int (nI (sm + tN r_90))), (3, .long (((x1 * 1103515245) + 12345) - ((x1 * 1103515245) + 12345) / 2147483648 * 2147483648)), (0, .ref (q 0)), (1, .int sd), (2, .int n)]) hx hb dX6_days_96 hl (k := 2) rfl (qn_inc (c := 1) rfl (by omega)) (by decide) rfl (fun ls hl => ?_)
              refine lv_goto (tgt := 44) hx hb dX6_days_99 (by decide) ?_
              exact ih_44 (((x1 * 1103515245) + 12345) - ((x1 * 1103515245) + 12345) / 2147483648 * 2147483648) (sm + tN r_90) (k + 1) w_90 H locs (by omega) ((v_90).trans i1) (a_90.1 : okN (w_90 594)) (by omega) hP hD hS ls (lv_sub hl [0, 1, 2, 3, 4, 5] rfl) hF
      exact L_44 61 ((nI (tN sd)).toInt64) 0 0 w_32 H locs (by omega) (t0_32) (by rw [show w_32 594 = w 2 from t2_32]; exact (pN : okN (w 2))) (by omega) hP hD hS ls (lv_sub hl [0, 1, 2, 3, 4, 5] rfl) hF
    · rw [if_neg c_21] at hF
      refine lv_aload_n hx hb dX6_days_24 rfl (lv_at hl 0 rfl) ?_
      refine lv_bipush (v := (-2)) hx hb dX6_days_25 (by decide) ?_
      refine qc_Vi (C := RX6) (As := [.int ((-2))]) (rest := []) (ci := 6) (k0 := 0) ⟨hx, hb, hml, hown, hts⟩ (c_X6_bad l dC dI q cI cZ s.heap.size w kp tx td ab be su po st nu li fi ga hh ((-2)) ) (cwV 1 hts gX6_days_X6_bad rfl rfl rfl (by decide +kernel) ⟨Nat.le_of_ble_eq_true rfl, Nat.le_of_ble_eq_true rfl⟩) hK hP hD hS hA rfl rfl rfl rfl hl.1 rfl (Nat.le_of_ble_eq_true rfl) dX6_days_27 ⟨Nat.zero_le _, Nat.zero_le _⟩ (fun r_27 u_27 H locs hw_27 hP hD hS => ?_)
      obtain ⟨su_27, rfl⟩ : ∃ z, z = u_27 := ⟨_, rfl⟩
      have hP : va_P (dC, dI) vwCl (mW q cI cZ w kp tx td ab be su_27 po st nu li fi ga hh) H := hP
      have hD : va_D A (mW q cI cZ w kp tx td ab be su_27 po st nu li fi ga hh) := hD
      rw [hw_27, let2_mk r_27 su_27] at hF
      have hP9 : va_P (dC, dI) vwCl (mW q cI cZ w kp tx td ab be su_27 po st nu li fi ga hh) H := hP
      exact W.iret (v := r_27) hx hb hr (fun t ht hW => ⟨⟨_, ((w, su_27)), rfl, hO.symm.trans hF, by rw [ht]; exact hP9, va_K.moved hW.alike hK, hD⟩, hS.F ht⟩) hS.2.2 dX6_days_30
def F_X6_part (ab : Int64) (be : Int64) (su : Nat → Int32) (wh : Int32) : Int64 × (Nat → Int32) := if wh = 0 then (ab, su) else (if wh = (nI 1) then (be, su) else let2 (F_X6_bad su ((-2))) (fun r_26 su_26 => (r_26.toInt64, su_26)))
set_option maxHeartbeats 4000000 in
set_option maxRecDepth 100000 in
theorem c_X6_part (l : Launch) (dC : Nat → ClassId) (dI : Nat → Nat → Nat) (q : Nat → Nat) (cI cZ : ClassId) (sz : Nat) (w : Nat → Int32) (kp : Nat → Int32) (tx : Nat → Int32) (td : Int32) (ab : Int64) (be : Int64) (su : Nat → Int32) (po : Int32) (st : Int32) (nu : Int32) (li : Nat → Int32) (fi : Nat → Int32) (ga : Nat → Int32) (hh : Int64) (wh : Int32) : Met l yX6_part wsX6_part { frames := 1, cells := 0, slots := 0, locals := 21 } (mPc (dC, dI) vwCl (mT cI cZ) (mW q cI cZ w kp tx td ab be su po st nu li fi ga hh) sz [.ref (q 0), .int wh]) (va_Ql (fun (r : Int64) (u : (Nat → Int32)) => F_X6_part ab be su wh = (r, u)) (mB (dC, dI) vwCl (mT cI cZ) (va_A (mW q cI cZ w kp tx td ab be su po st nu li fi ga hh) sz) (fun u => mW q cI cZ w kp tx td ab be u po st nu li fi ga hh)) (va_A (mW q cI cZ w kp tx td ab be su po st nu li fi ga hh) sz)) 0 0 (va_A (mW q cI cZ w kp tx td ab be su po st nu li fi ga hh) sz) := by
  refine Met.ofW (cc := cX6_part) (maxL := 2) (ret := (some .long)) (by decide) rfl ?_
  intro p e s m args below meth c s₁ B hml hv
  obtain ⟨rfl, hsz, hP, hK, hD0⟩ := hv
  have hx := B.exec
  have hb := B.bytes
  have hr := B.returns
  have hts := atoms_spec (ws := wsX6_part) B.pre
  have hown : s.vm.findClass RX6 = some m.cls := findClass_of_methodNamed B.named
  have hlocks := B.notSynchronized
  subst hsz
  have hD := hD0.self (sz := s.heap.size)
  generalize hAe : va_A (mW q cI cZ w kp tx td ab be su po st nu li fi ga hh) s.heap.size = A at hD ⊢
  have hA : ∀ q : Nat, s.heap.size ≤ q → A q := fun q h => by rw [← hAe]; exact Or.inr h
  have hS : va_S A s.heap s.heap [] := va_S.rf
  have hin : ∀ w ∈ wsX60, w ∈ wsX6_part := by decide +kernel
  have lk20 := hts (.fieldLink RX6 20 "PostRoundersModel" "above" "J") (by decide +kernel)
  have lk24 := hts (.fieldLink RX6 24 "PostRoundersModel" "below" "J") (by decide +kernel)
  have hl := lv_entry ([.ref (q 0), .int wh]) (n := 2) (Nat.le_of_ble_eq_true rfl)
  rw [lg_entry_eq]
  generalize (lg_sl ([.ref (q 0), .int wh]) ++ List.replicate (2 - (lg_sl ([.ref (q 0), .int wh])).length) Slot.unset).toArray = ls at hl ⊢
  have hl : lv_has ls 2 [(0, .ref (q 0)), (1, .int wh)] := hl
  obtain ⟨OUT, hO⟩ : ∃ z, z = F_X6_part ab be su wh := ⟨_, rfl⟩
  have hF := hO
  unfold F_X6_part at hF
  refine lv_iload_n hx hb dX6_part_0 rfl (lv_at hl 1 rfl) ?_
  refine lv_if_ne (tgt := 11) hx hb dX6_part_1 (by decide) (fun c_1 => ?_) (fun c_1 => ?_)
  · rw [if_neg c_1] at hF
    refine lv_iload_n hx hb dX6_part_11 rfl (lv_at hl 1 rfl) ?_
    refine lv_iconst (v := nI 1) hx hb dX6_part_12 (by decide) ?_
    refine lv_icmp_ne (tgt := 23) hx hb dX6_part_13 (by decide) (fun c_13 => ?_) (fun c_13 => ?_)
    · rw [if_neg c_13] at hF
      refine lv_aload_n hx hb dX6_part_23 rfl (lv_at hl 0 rfl) ?_
      refine lv_bipush (v := (-2)) hx hb dX6_part_24 (by decide) ?_
      refine qc_Vi (C := RX6) (As := [.int ((-2))]) (rest := []) (ci := 6) (k0 := 0) ⟨hx, hb, hml, hown, hts⟩ (c_X6_bad l dC dI q cI cZ s.heap.size w kp tx td ab be su po st nu li fi ga hh ((-2)) ) (cwV 1 hts gX6_part_X6_bad rfl rfl rfl (by decide +kernel) ⟨Nat.le_of_ble_eq_true rfl, Nat.le_of_ble_eq_true rfl⟩) hK hP hD hS hA rfl rfl rfl rfl hl.1 rfl (Nat.le_of_ble_eq_true rfl) dX6_part_26 ⟨Nat.zero_le _, Nat.zero_le _⟩ (fun r_26 u_26 H locs hw_26 hP hD hS => ?_)
      obtain ⟨su_26, rfl⟩ : ∃ z, z = u_26 := ⟨_, rfl⟩
      have hP : va_P (dC, dI) vwCl (mW q cI cZ w kp tx td ab be su_26 po st nu li fi ga hh) H := hP
      have hD : va_D A (mW q cI cZ w kp tx td ab be su_26 po st nu li fi ga hh) := hD
      rw [hw_26, let2_mk r_26 su_26] at hF
      refine lv_i2l hx hb dX6_part_29 rfl ?_
      have hP9 : va_P (dC, dI) vwCl (mW q cI cZ w kp tx td ab be su_26 po st nu li fi ga hh) H := hP
      exact W.lret (v := r_26.toInt64) hx hb hr (fun t ht hW => ⟨⟨_, (su_26), rfl, hO.symm.trans hF, by rw [ht]; exact hP9, va_K.moved hW.alike hK, hD⟩, hS.F ht⟩) hS.2.2 dX6_part_30
    · rw [if_pos c_13] at hF
      refine lv_aload_n hx hb dX6_part_16 rfl (lv_at hl 0 rfl) ?_
      refine va_get (D := (dC, dI)) (ci := 6) (v := .long be) (C := RX6) (T := TX6) (N := 14) hx hb hts hin hown hK hP 0 rfl rfl 5 (by decide) lk24 (fun _ h9 => h9) rfl dX6_part_17 ?_
      refine lv_goto (tgt := 30) hx hb dX6_part_20 (by decide) ?_
      have hP9 : va_P (dC, dI) vwCl (mW q cI cZ w kp tx td ab be su po st nu li fi ga hh) s.heap := hP
      exact W.lret (v := be) hx hb hr (fun t ht hW => ⟨⟨_, (su), rfl, hO.symm.trans hF, by rw [ht]; exact hP9, va_K.moved hW.alike hK, hD⟩, hS.F ht⟩) hS.2.2 dX6_part_30
  · rw [if_pos c_1] at hF
    refine lv_aload_n hx hb dX6_part_4 rfl (lv_at hl 0 rfl) ?_
    refine va_get (D := (dC, dI)) (ci := 6) (v := .long ab) (C := RX6) (T := TX6) (N := 14) hx hb hts hin hown hK hP 0 rfl rfl 4 (by decide) lk20 (fun _ h9 => h9) rfl dX6_part_5 ?_
    refine lv_goto (tgt := 30) hx hb dX6_part_8 (by decide) ?_
    have hP9 : va_P (dC, dI) vwCl (mW q cI cZ w kp tx td ab be su po st nu li fi ga hh) s.heap := hP
    exact W.lret (v := ab) hx hb hr (fun t ht hW => ⟨⟨_, (su), rfl, hO.symm.trans hF, by rw [ht]; exact hP9, va_K.moved hW.alike hK, hD⟩, hS.F ht⟩) hS.2.2 dX6_part_30
def F_X6_image (w : Nat → Int32) (kp : Nat → Int32) (su : Nat → Int32) (i : Int32) : Int32 × (Nat → Int32) × (Nat → Int32) × (Nat → Int32) := if (F_X6_in i.toInt64 0 1) = true then let1 (F_X6_copy w 0 (148 * tN i + 148)) (fun w_28 => (nI 1, w_28, (upd kp (tN i) (nI 1)), su)) else let2 (F_X6_bad su ((-2))) (fun r_13 su_13 => (r_13, w, kp, su_13))
set_option maxHeartbeats 4000000 in
set_option maxRecDepth 100000 in
theorem c_X6_image (l : Launch) (dC : Nat → ClassId) (dI : Nat → Nat → Nat) (q : Nat → Nat) (cI cZ : ClassId) (sz : Nat) (w : Nat → Int32) (kp : Nat → Int32) (tx : Nat → Int32) (td : Int32) (ab : Int64) (be : Int64) (su : Nat → Int32) (po : Int32) (st : Int32) (nu : Int32) (li : Nat → Int32) (fi : Nat → Int32) (ga : Nat → Int32) (hh : Int64) (i : Int32) : Met l yX6_image wsX6_image { frames := 1, cells := 0, slots := 0, locals := 25 } (mPc (dC, dI) vwCl (mT cI cZ) (mW q cI cZ w kp tx td ab be su po st nu li fi ga hh) sz [.ref (q 0), .int i]) (va_Qi (fun (r : Int32) (u : (Nat → Int32) × (Nat → Int32) × (Nat → Int32)) => F_X6_image w kp su i = (r, u)) (mB (dC, dI) vwCl (mT cI cZ) (va_A (mW q cI cZ w kp tx td ab be su po st nu li fi ga hh) sz) (fun u => mW q cI cZ u.1 u.2.1 tx td ab be u.2.2 po st nu li fi ga hh)) (va_A (mW q cI cZ w kp tx td ab be su po st nu li fi ga hh) sz)) 0 0 (va_A (mW q cI cZ w kp tx td ab be su po st nu li fi ga hh) sz) := by
  refine Met.ofW (cc := cX6_image) (maxL := 2) (ret := (some .int)) (by decide) rfl ?_
  intro p e s m args below meth c s₁ B hml hv
  obtain ⟨rfl, hsz, hP, hK, hD0⟩ := hv
  have hx := B.exec
  have hb := B.bytes
  have hr := B.returns
  have hts := atoms_spec (ws := wsX6_image) B.pre
  have hown : s.vm.findClass RX6 = some m.cls := findClass_of_methodNamed B.named
  have hlocks := B.notSynchronized
  subst hsz
  have hD := hD0.self (sz := s.heap.size)
  generalize hAe : va_A (mW q cI cZ w kp tx td ab be su po st nu li fi ga hh) s.heap.size = A at hD ⊢
  have hA : ∀ q : Nat, s.heap.size ≤ q → A q := fun q h => by rw [← hAe]; exact Or.inr h
  have hS : va_S A s.heap s.heap [] := va_S.rf
  have hin : ∀ w ∈ wsX60, w ∈ wsX6_image := by decide +kernel
  have lk13 := hts (.fieldLink RX6 13 "PostRoundersModel" "isKept" "[Z") (by decide +kernel)
  have hl := lv_entry ([.ref (q 0), .int i]) (n := 2) (Nat.le_of_ble_eq_true rfl)
  rw [lg_entry_eq]
  generalize (lg_sl ([.ref (q 0), .int i]) ++ List.replicate (2 - (lg_sl ([.ref (q 0), .int i])).length) Slot.unset).toArray = ls at hl ⊢
  have hl : lv_has ls 2 [(0, .ref (q 0)), (1, .int i)] := hl
  obtain ⟨OUT, hO⟩ : ∃ z, z = F_X6_image w kp su i := ⟨_, rfl⟩
  have hF := hO
  unfold F_X6_image at hF
  refine lv_iload_n hx hb dX6_image_0 rfl (lv_at hl 1 rfl) ?_
  refine lv_i2l hx hb dX6_image_1 rfl ?_
  refine lv_lconst (v := 0) hx hb dX6_image_2 (by decide) ?_
  refine lv_lconst (v := 1) hx hb dX6_image_3 (by decide) ?_
  refine qc_Si (As := [.long i.toInt64, .long 0, .long 1]) (rest := []) ⟨hx, hb, hml, hown, hts⟩ (c_X6_in l i.toInt64 0 1) (va_cwS 3 hts gX6_image_X6_in rfl rfl rfl (by decide +kernel) ⟨Nat.le_of_ble_eq_true rfl, Nat.le_of_ble_eq_true rfl⟩) rfl hl.1 rfl (Nat.le_of_ble_eq_true rfl) dX6_image_4 ⟨Nat.zero_le _, Nat.zero_le _⟩ (fun r_4 hw_4 => ?_)
  subst hw_4
  refine qv_zif_ne (tgt := 17) hx hb dX6_image_7 (by decide) (fun c_7 => ?_) (fun c_7 => ?_)
  · rw [if_pos c_7] at hF
    obtain ⟨f_i, fa_i, fb_i⟩ := in_nat (lo := 0) (hi := 1) rfl rfl (by decide) (by decide) c_7
    have e_i := tN_eq f_i
    refine lv_aload_n hx hb dX6_image_17 rfl (lv_at hl 0 rfl) ?_
    refine lv_iconst (v := nI 0) hx hb dX6_image_18 (by decide) ?_
    refine lv_sipush (v := nI 148) hx hb dX6_image_19 (by decide) ?_
    refine lv_sipush (v := nI 148) hx hb dX6_image_22 (by decide) ?_
    refine lv_iload_n hx hb dX6_image_25 rfl (lv_at hl 1 rfl) ?_
    refine qv_top (e_i) ?_
    refine qv_imul hx hb (148 * tN i) dX6_image_26 (by omega) ?_
    refine qv_iadd hx hb (148 * tN i + 148) dX6_image_27 (by omega) ?_
    refine qc_Vv (C := RX6) (As := [.int (nI 0), .int (nI (148 * tN i + 148))]) (rest := []) (ci := 6) (k0 := 0) ⟨hx, hb, hml, hown, hts⟩ (c_X6_copy l dC dI q cI cZ s.heap.size w kp tx td ab be su po st nu li fi ga hh 0 (148 * tN i + 148) (by omega) (by omega)) (cwV 2 hts gX6_image_X6_copy rfl rfl rfl (by decide +kernel) ⟨Nat.le_of_ble_eq_true rfl, Nat.le_of_ble_eq_true rfl⟩) hK hP hD hS hA rfl rfl rfl rfl hl.1 rfl (Nat.le_of_ble_eq_true rfl) dX6_image_28 ⟨Nat.zero_le _, Nat.zero_le _⟩ (fun u_28 H locs hw_28 hP hD hS => ?_)
    obtain ⟨w_28, rfl⟩ : ∃ z, z = u_28 := ⟨_, rfl⟩
    have hP : va_P (dC, dI) vwCl (mW q cI cZ w_28 kp tx td ab be su po st nu li fi ga hh) H := hP
    have hD : va_D A (mW q cI cZ w_28 kp tx td ab be su po st nu li fi ga hh) := hD
    rw [hw_28, let1_mk w_28] at hF
    refine lv_aload_n hx hb dX6_image_31 rfl (lv_at hl 0 rfl) ?_
    refine va_get (D := (dC, dI)) (ci := 6) (v := .ref (q 2)) (C := RX6) (T := TX6) (N := 14) hx hb hts hin hown hK hP 0 rfl rfl 1 (by decide) lk13 (fun _ h9 => h9) rfl dX6_image_32 ?_
    refine lv_iload_n hx hb dX6_image_35 rfl (lv_at hl 1 rfl) ?_
    refine qv_top (e_i) ?_
    refine lv_iconst (v := nI 1) hx hb dX6_image_36 (by decide) ?_
    refine qv_zst (ws' := mW q cI cZ w_28 (upd kp (tN i) (nI 1)) tx td ab be su po st nu li fi ga hh) hx hb hK hP hD hS 2 1 rfl rfl (by omega) (by decide) dX6_image_37 (by decide) rfl (fun H locs hP hD hS => ?_)
    refine lv_iconst (v := nI 1) hx hb dX6_image_38 (by decide) ?_
    have hP9 : va_P (dC, dI) vwCl (mW q cI cZ w_28 (upd kp (tN i) (nI 1)) tx td ab be su po st nu li fi ga hh) H := hP
    exact W.iret (v := nI 1) hx hb hr (fun t ht hW => ⟨⟨_, ((w_28, upd kp (tN i) (nI 1), su)), rfl, hO.symm.trans hF, by rw [ht]; exact hP9, va_K.moved hW.alike hK, hD⟩, hS.F ht⟩) hS.2.2 dX6_image_39
  · rw [if_neg c_7] at hF
    refine lv_aload_n hx hb dX6_image_10 rfl (lv_at hl 0 rfl) ?_
    refine lv_bipush (v := (-2)) hx hb dX6_image_11 (by decide) ?_
    refine qc_Vi (C := RX6) (As := [.int ((-2))]) (rest := []) (ci := 6) (k0 := 0) ⟨hx, hb, hml, hown, hts⟩ (c_X6_bad l dC dI q cI cZ s.heap.size w kp tx td ab be su po st nu li fi ga hh ((-2)) ) (cwV 1 hts gX6_image_X6_bad rfl rfl rfl (by decide +kernel) ⟨Nat.le_of_ble_eq_true rfl, Nat.le_of_ble_eq_true rfl⟩) hK hP hD hS hA rfl rfl rfl rfl hl.1 rfl (Nat.le_of_ble_eq_true rfl) dX6_image_13 ⟨Nat.zero_le _, Nat.zero_le _⟩ (fun r_13 u_13 H locs hw_13 hP hD hS => ?_)
    obtain ⟨su_13, rfl⟩ : ∃ z, z = u_13 := ⟨_, rfl⟩
    have hP : va_P (dC, dI) vwCl (mW q cI cZ w kp tx td ab be su_13 po st nu li fi ga hh) H := hP
    have hD : va_D A (mW q cI cZ w kp tx td ab be su_13 po st nu li fi ga hh) := hD
    rw [hw_13, let2_mk r_13 su_13] at hF
    have hP9 : va_P (dC, dI) vwCl (mW q cI cZ w kp tx td ab be su_13 po st nu li fi ga hh) H := hP
    exact W.iret (v := r_13) hx hb hr (fun t ht hW => ⟨⟨_, ((w, kp, su_13)), rfl, hO.symm.trans hF, by rw [ht]; exact hP9, va_K.moved hW.alike hK, hD⟩, hS.F ht⟩) hS.2.2 dX6_image_16
def F_X6_from (w : Nat → Int32) (kp : Nat → Int32) (su : Nat → Int32) (i : Int32) : Int32 × (Nat → Int32) × (Nat → Int32) := if (F_X6_in i.toInt64 0 1) = true then (if (kp (tN i)) = 0 then let2 (F_X6_no su) (fun r_27 su_27 => (r_27, w, su_27)) else let1 (F_X6_copy w (148 * tN i + 148) 0) (fun w_42 => (nI 1, w_42, su))) else let2 (F_X6_bad su ((-2))) (fun r_13 su_13 => (r_13, w, su_13))
set_option maxHeartbeats 4000000 in
set_option maxRecDepth 100000 in
theorem c_X6_from (l : Launch) (dC : Nat → ClassId) (dI : Nat → Nat → Nat) (q : Nat → Nat) (cI cZ : ClassId) (sz : Nat) (w : Nat → Int32) (kp : Nat → Int32) (tx : Nat → Int32) (td : Int32) (ab : Int64) (be : Int64) (su : Nat → Int32) (po : Int32) (st : Int32) (nu : Int32) (li : Nat → Int32) (fi : Nat → Int32) (ga : Nat → Int32) (hh : Int64) (i : Int32) : Met l yX6_from wsX6_from { frames := 1, cells := 0, slots := 0, locals := 25 } (mPc (dC, dI) vwCl (mT cI cZ) (mW q cI cZ w kp tx td ab be su po st nu li fi ga hh) sz [.ref (q 0), .int i]) (va_Qi (fun (r : Int32) (u : (Nat → Int32) × (Nat → Int32)) => F_X6_from w kp su i = (r, u)) (mB (dC, dI) vwCl (mT cI cZ) (va_A (mW q cI cZ w kp tx td ab be su po st nu li fi ga hh) sz) (fun u => mW q cI cZ u.1 kp tx td ab be u.2 po st nu li fi ga hh)) (va_A (mW q cI cZ w kp tx td ab be su po st nu li fi ga hh) sz)) 0 0 (va_A (mW q cI cZ w kp tx td ab be su po st nu li fi ga hh) sz) := by
  refine Met.ofW (cc := cX6_from) (maxL := 2) (ret := (some .int)) (by decide) rfl ?_
  intro p e s m args below meth c s₁ B hml hv
  obtain ⟨rfl, hsz, hP, hK, hD0⟩ := hv
  have hx := B.exec
  have hb := B.bytes
  have hr := B.returns
  have hts := atoms_spec (ws := wsX6_from) B.pre
  have hown : s.vm.findClass RX6 = some m.cls := findClass_of_methodNamed B.named
  have hlocks := B.notSynchronized
  subst hsz
  have hD := hD0.self (sz := s.heap.size)
  generalize hAe : va_A (mW q cI cZ w kp tx td ab be su po st nu li fi ga hh) s.heap.size = A at hD ⊢
  have hA : ∀ q : Nat, s.heap.size ≤ q → A q := fun q h => by rw [← hAe]; exact Or.inr h
  have hS : va_S A s.heap s.heap [] := va_S.rf
  have hin : ∀ w ∈ wsX60, w ∈ wsX6_from := by decide +kernel
  have lk13 := hts (.fieldLink RX6 13 "PostRoundersModel" "isKept" "[Z") (by decide +kernel)
  have hl := lv_entry ([.ref (q 0), .int i]) (n := 2) (Nat.le_of_ble_eq_true rfl)
  rw [lg_entry_eq]
  generalize (lg_sl ([.ref (q 0), .int i]) ++ List.replicate (2 - (lg_sl ([.ref (q 0), .int i])).length) Slot.unset).toArray = ls at hl ⊢
  have hl : lv_has ls 2 [(0, .ref (q 0)), (1, .int i)] := hl
  obtain ⟨OUT, hO⟩ : ∃ z, z = F_X6_from w kp su i := ⟨_, rfl⟩
  have hF := hO
  unfold F_X6_from at hF
  refine lv_iload_n hx hb dX6_from_0 rfl (lv_at hl 1 rfl) ?_
  refine lv_i2l hx hb dX6_from_1 rfl ?_
  refine lv_lconst (v := 0) hx hb dX6_from_2 (by decide) ?_
  refine lv_lconst (v := 1) hx hb dX6_from_3 (by decide) ?_
  refine qc_Si (As := [.long i.toInt64, .long 0, .long 1]) (rest := []) ⟨hx, hb, hml, hown, hts⟩ (c_X6_in l i.toInt64 0 1) (va_cwS 3 hts gX6_from_X6_in rfl rfl rfl (by decide +kernel) ⟨Nat.le_of_ble_eq_true rfl, Nat.le_of_ble_eq_true rfl⟩) rfl hl.1 rfl (Nat.le_of_ble_eq_true rfl) dX6_from_4 ⟨Nat.zero_le _, Nat.zero_le _⟩ (fun r_4 hw_4 => ?_)
  subst hw_4
  refine qv_zif_ne (tgt := 17) hx hb dX6_from_7 (by decide) (fun c_7 => ?_) (fun c_7 => ?_)
  · rw [if_pos c_7] at hF
    obtain ⟨f_i, fa_i, fb_i⟩ := in_nat (lo := 0) (hi := 1) rfl rfl (by decide) (by decide) c_7
    have e_i := tN_eq f_i
    refine lv_aload_n hx hb dX6_from_17 rfl (lv_at hl 0 rfl) ?_
    refine va_get (D := (dC, dI)) (ci := 6) (v := .ref (q 2)) (C := RX6) (T := TX6) (N := 14) hx hb hts hin hown hK hP 0 rfl rfl 1 (by decide) lk13 (fun _ h9 => h9) rfl dX6_from_18 ?_
    refine lv_iload_n hx hb dX6_from_21 rfl (lv_at hl 1 rfl) ?_
    refine qv_top (e_i) ?_
    refine qv_zld (v := kp (tN i)) hx hb hK hP 2 1 rfl rfl (by omega) (by decide) (rfl) dX6_from_22 ?_
    refine lv_if_ne (tgt := 31) hx hb dX6_from_23 (by decide) (fun c_23 => ?_) (fun c_23 => ?_)
    · rw [if_neg c_23] at hF
      refine lv_aload_n hx hb dX6_from_31 rfl (lv_at hl 0 rfl) ?_
      refine lv_sipush (v := nI 148) hx hb dX6_from_32 (by decide) ?_
      refine lv_sipush (v := nI 148) hx hb dX6_from_35 (by decide) ?_
      refine lv_iload_n hx hb dX6_from_38 rfl (lv_at hl 1 rfl) ?_
      refine qv_top (e_i) ?_
      refine qv_imul hx hb (148 * tN i) dX6_from_39 (by omega) ?_
      refine qv_iadd hx hb (148 * tN i + 148) dX6_from_40 (by omega) ?_
      refine lv_iconst (v := nI 0) hx hb dX6_from_41 (by decide) ?_
      refine qc_Vv (C := RX6) (As := [.int (nI (148 * tN i + 148)), .int (nI 0)]) (rest := []) (ci := 6) (k0 := 0) ⟨hx, hb, hml, hown, hts⟩ (c_X6_copy l dC dI q cI cZ s.heap.size w kp tx td ab be su po st nu li fi ga hh (148 * tN i + 148) 0 (by omega) (by omega)) (cwV 2 hts gX6_from_X6_copy rfl rfl rfl (by decide +kernel) ⟨Nat.le_of_ble_eq_true rfl, Nat.le_of_ble_eq_true rfl⟩) hK hP hD hS hA rfl rfl rfl rfl hl.1 rfl (Nat.le_of_ble_eq_true rfl) dX6_from_42 ⟨Nat.zero_le _, Nat.zero_le _⟩ (fun u_42 H locs hw_42 hP hD hS => ?_)
      obtain ⟨w_42, rfl⟩ : ∃ z, z = u_42 := ⟨_, rfl⟩
      have hP : va_P (dC, dI) vwCl (mW q cI cZ w_42 kp tx td ab be su po st nu li fi ga hh) H := hP
      have hD : va_D A (mW q cI cZ w_42 kp tx td ab be su po st nu li fi ga hh) := hD
      rw [hw_42, let1_mk w_42] at hF
      refine lv_iconst (v := nI 1) hx hb dX6_from_45 (by decide) ?_
      have hP9 : va_P (dC, dI) vwCl (mW q cI cZ w_42 kp tx td ab be su po st nu li fi ga hh) H := hP
      exact W.iret (v := nI 1) hx hb hr (fun t ht hW => ⟨⟨_, ((w_42, su)), rfl, hO.symm.trans hF, by rw [ht]; exact hP9, va_K.moved hW.alike hK, hD⟩, hS.F ht⟩) hS.2.2 dX6_from_46
    · rw [if_pos c_23] at hF
      refine lv_aload_n hx hb dX6_from_26 rfl (lv_at hl 0 rfl) ?_
      refine qc_Vi (C := RX6) (As := []) (rest := []) (ci := 6) (k0 := 0) ⟨hx, hb, hml, hown, hts⟩ (c_X6_no l dC dI q cI cZ s.heap.size w kp tx td ab be su po st nu li fi ga hh  ) (cwV 0 hts gX6_from_X6_no rfl rfl rfl (by decide +kernel) ⟨Nat.le_of_ble_eq_true rfl, Nat.le_of_ble_eq_true rfl⟩) hK hP hD hS hA rfl rfl rfl rfl hl.1 rfl (Nat.le_of_ble_eq_true rfl) dX6_from_27 ⟨Nat.zero_le _, Nat.zero_le _⟩ (fun r_27 u_27 H locs hw_27 hP hD hS => ?_)
      obtain ⟨su_27, rfl⟩ : ∃ z, z = u_27 := ⟨_, rfl⟩
      have hP : va_P (dC, dI) vwCl (mW q cI cZ w kp tx td ab be su_27 po st nu li fi ga hh) H := hP
      have hD : va_D A (mW q cI cZ w kp tx td ab be su_27 po st nu li fi ga hh) := hD
      rw [hw_27, let2_mk r_27 su_27] at hF
      have hP9 : va_P (dC, dI) vwCl (mW q cI cZ w kp tx td ab be su_27 po st nu li fi ga hh) H := hP
      exact W.iret (v := r_27) hx hb hr (fun t ht hW => ⟨⟨_, ((w, su_27)), rfl, hO.symm.trans hF, by rw [ht]; exact hP9, va_K.moved hW.alike hK, hD⟩, hS.F ht⟩) hS.2.2 dX6_from_30
  · rw [if_neg c_7] at hF
    refine lv_aload_n hx hb dX6_from_10 rfl (lv_at hl 0 rfl) ?_
    refine lv_bipush (v := (-2)) hx hb dX6_from_11 (by decide) ?_
    refine qc_Vi (C := RX6) (As := [.int ((-2))]) (rest := []) (ci := 6) (k0 := 0) ⟨hx, hb, hml, hown, hts⟩ (c_X6_bad l dC dI q cI cZ s.heap.size w kp tx td ab be su po st nu li fi ga hh ((-2)) ) (cwV 1 hts gX6_from_X6_bad rfl rfl rfl (by decide +kernel) ⟨Nat.le_of_ble_eq_true rfl, Nat.le_of_ble_eq_true rfl⟩) hK hP hD hS hA rfl rfl rfl rfl hl.1 rfl (Nat.le_of_ble_eq_true rfl) dX6_from_13 ⟨Nat.zero_le _, Nat.zero_le _⟩ (fun r_13 u_13 H locs hw_13 hP hD hS => ?_)
    obtain ⟨su_13, rfl⟩ : ∃ z, z = u_13 := ⟨_, rfl⟩
    have hP : va_P (dC, dI) vwCl (mW q cI cZ w kp tx td ab be su_13 po st nu li fi ga hh) H := hP
    have hD : va_D A (mW q cI cZ w kp tx td ab be su_13 po st nu li fi ga hh) := hD
    rw [hw_13, let2_mk r_13 su_13] at hF
    have hP9 : va_P (dC, dI) vwCl (mW q cI cZ w kp tx td ab be su_13 po st nu li fi ga hh) H := hP
    exact W.iret (v := r_13) hx hb hr (fun t ht hW => ⟨⟨_, ((w, su_13)), rfl, hO.symm.trans hF, by rw [ht]; exact hP9, va_K.moved hW.alike hK, hD⟩, hS.F ht⟩) hS.2.2 dX6_from_16
def F_X6_status (su : Nat → Int32) (wh : Int32) : Int32 × (Nat → Int32) := if (F_X6_in wh.toInt64 0 2) = true then (su (tN wh), su) else let2 (F_X6_bad su ((-1))) (fun r_23 su_23 => (r_23, su_23))
set_option maxHeartbeats 4000000 in
set_option maxRecDepth 100000 in
theorem c_X6_status (l : Launch) (dC : Nat → ClassId) (dI : Nat → Nat → Nat) (q : Nat → Nat) (cI cZ : ClassId) (sz : Nat) (w : Nat → Int32) (kp : Nat → Int32) (tx : Nat → Int32) (td : Int32) (ab : Int64) (be : Int64) (su : Nat → Int32) (po : Int32) (st : Int32) (nu : Int32) (li : Nat → Int32) (fi : Nat → Int32) (ga : Nat → Int32) (hh : Int64) (wh : Int32) : Met l yX6_status wsX6_status { frames := 1, cells := 0, slots := 0, locals := 25 } (mPc (dC, dI) vwCl (mT cI cZ) (mW q cI cZ w kp tx td ab be su po st nu li fi ga hh) sz [.ref (q 0), .int wh]) (va_Qi (fun (r : Int32) (u : (Nat → Int32)) => F_X6_status su wh = (r, u)) (mB (dC, dI) vwCl (mT cI cZ) (va_A (mW q cI cZ w kp tx td ab be su po st nu li fi ga hh) sz) (fun u => mW q cI cZ w kp tx td ab be u po st nu li fi ga hh)) (va_A (mW q cI cZ w kp tx td ab be su po st nu li fi ga hh) sz)) 0 0 (va_A (mW q cI cZ w kp tx td ab be su po st nu li fi ga hh) sz) := by
  refine Met.ofW (cc := cX6_status) (maxL := 2) (ret := (some .int)) (by decide) rfl ?_
  intro p e s m args below meth c s₁ B hml hv
  obtain ⟨rfl, hsz, hP, hK, hD0⟩ := hv
  have hx := B.exec
  have hb := B.bytes
  have hr := B.returns
  have hts := atoms_spec (ws := wsX6_status) B.pre
  have hown : s.vm.findClass RX6 = some m.cls := findClass_of_methodNamed B.named
  have hlocks := B.notSynchronized
  subst hsz
  have hD := hD0.self (sz := s.heap.size)
  generalize hAe : va_A (mW q cI cZ w kp tx td ab be su po st nu li fi ga hh) s.heap.size = A at hD ⊢
  have hA : ∀ q : Nat, s.heap.size ≤ q → A q := fun q h => by rw [← hAe]; exact Or.inr h
  have hS : va_S A s.heap s.heap [] := va_S.rf
  have hin : ∀ w ∈ wsX60, w ∈ wsX6_status := by decide +kernel
  have lk27 := hts (.fieldLink RX6 27 "PostRoundersModel" "statuses" "[I") (by decide +kernel)
  have hl := lv_entry ([.ref (q 0), .int wh]) (n := 2) (Nat.le_of_ble_eq_true rfl)
  rw [lg_entry_eq]
  generalize (lg_sl ([.ref (q 0), .int wh]) ++ List.replicate (2 - (lg_sl ([.ref (q 0), .int wh])).length) Slot.unset).toArray = ls at hl ⊢
  have hl : lv_has ls 2 [(0, .ref (q 0)), (1, .int wh)] := hl
  obtain ⟨OUT, hO⟩ : ∃ z, z = F_X6_status su wh := ⟨_, rfl⟩
  have hF := hO
  unfold F_X6_status at hF
  refine lv_iload_n hx hb dX6_status_0 rfl (lv_at hl 1 rfl) ?_
  refine lv_i2l hx hb dX6_status_1 rfl ?_
  refine lv_lconst (v := 0) hx hb dX6_status_2 (by decide) ?_
  refine lv_ldc2 (v := 2) hx hb hown (hts (.constantLong RX6 137 2) (by decide +kernel)) dX6_status_3 ?_
  refine qc_Si (As := [.long wh.toInt64, .long 0, .long 2]) (rest := []) ⟨hx, hb, hml, hown, hts⟩ (c_X6_in l wh.toInt64 0 2) (va_cwS 3 hts gX6_status_X6_in rfl rfl rfl (by decide +kernel) ⟨Nat.le_of_ble_eq_true rfl, Nat.le_of_ble_eq_true rfl⟩) rfl hl.1 rfl (Nat.le_of_ble_eq_true rfl) dX6_status_6 ⟨Nat.zero_le _, Nat.zero_le _⟩ (fun r_6 hw_6 => ?_)
  subst hw_6
  refine qv_zif_eq (tgt := 21) hx hb dX6_status_9 (by decide) (fun c_9 => ?_) (fun c_9 => ?_)
  · rw [if_neg c_9] at hF
    refine lv_aload_n hx hb dX6_status_21 rfl (lv_at hl 0 rfl) ?_
    refine lv_iconst (v := (-1)) hx hb dX6_status_22 (by decide) ?_
    refine qc_Vi (C := RX6) (As := [.int ((-1))]) (rest := []) (ci := 6) (k0 := 0) ⟨hx, hb, hml, hown, hts⟩ (c_X6_bad l dC dI q cI cZ s.heap.size w kp tx td ab be su po st nu li fi ga hh ((-1)) ) (cwV 1 hts gX6_status_X6_bad rfl rfl rfl (by decide +kernel) ⟨Nat.le_of_ble_eq_true rfl, Nat.le_of_ble_eq_true rfl⟩) hK hP hD hS hA rfl rfl rfl rfl hl.1 rfl (Nat.le_of_ble_eq_true rfl) dX6_status_23 ⟨Nat.zero_le _, Nat.zero_le _⟩ (fun r_23 u_23 H locs hw_23 hP hD hS => ?_)
    obtain ⟨su_23, rfl⟩ : ∃ z, z = u_23 := ⟨_, rfl⟩
    have hP : va_P (dC, dI) vwCl (mW q cI cZ w kp tx td ab be su_23 po st nu li fi ga hh) H := hP
    have hD : va_D A (mW q cI cZ w kp tx td ab be su_23 po st nu li fi ga hh) := hD
    rw [hw_23, let2_mk r_23 su_23] at hF
    have hP9 : va_P (dC, dI) vwCl (mW q cI cZ w kp tx td ab be su_23 po st nu li fi ga hh) H := hP
    exact W.iret (v := r_23) hx hb hr (fun t ht hW => ⟨⟨_, (su_23), rfl, hO.symm.trans hF, by rw [ht]; exact hP9, va_K.moved hW.alike hK, hD⟩, hS.F ht⟩) hS.2.2 dX6_status_26
  · rw [if_pos c_9] at hF
    obtain ⟨f_wh, fa_wh, fb_wh⟩ := in_nat (lo := 0) (hi := 2) rfl rfl (by decide) (by decide) c_9
    have e_wh := tN_eq f_wh
    refine lv_aload_n hx hb dX6_status_12 rfl (lv_at hl 0 rfl) ?_
    refine va_get (D := (dC, dI)) (ci := 6) (v := .ref (q 4)) (C := RX6) (T := TX6) (N := 14) hx hb hts hin hown hK hP 0 rfl rfl 6 (by decide) lk27 (fun _ h9 => h9) rfl dX6_status_13 ?_
    refine lv_iload_n hx hb dX6_status_16 rfl (lv_at hl 1 rfl) ?_
    refine qv_top (e_wh) ?_
    refine qv_ald (v := su (tN wh)) hx hb hK hP 4 0 rfl rfl (by omega) (by decide) (rfl) dX6_status_17 ?_
    refine lv_goto (tgt := 26) hx hb dX6_status_18 (by decide) ?_
    have hP9 : va_P (dC, dI) vwCl (mW q cI cZ w kp tx td ab be su po st nu li fi ga hh) s.heap := hP
    exact W.iret (v := su (tN wh)) hx hb hr (fun t ht hW => ⟨⟨_, (su), rfl, hO.symm.trans hF, by rw [ht]; exact hP9, va_K.moved hW.alike hK, hD⟩, hS.F ht⟩) hS.2.2 dX6_status_26
def F_X6_areAt_L5 : Nat → (Int32) → (Int32) → (Nat → Int32) → (Nat) → (Nat) → (Nat) × (Nat)
  | 0, _, _, _, k, c0 => (k, c0)
  | n_5 + 1, lo, hi, w, k, c0 => if tN (w 0) ≤ k then (k, c0) else (if (F_X6_in ((w (k + 17)).toInt64) lo.toInt64 hi.toInt64) = true then F_X6_areAt_L5 n_5 lo hi w (k + 1) (c0 + 1) else F_X6_areAt_L5 n_5 lo hi w (k + 1) c0)
def F_X6_areAt (w : Nat → Int32) (lo : Int32) (hi : Int32) : Int32 := let2 (F_X6_areAt_L5 7 lo hi w 0 0) (fun k c0 => nI c0)
set_option maxHeartbeats 4000000 in
set_option maxRecDepth 100000 in
theorem c_X6_areAt (l : Launch) (dC : Nat → ClassId) (dI : Nat → Nat → Nat) (q : Nat → Nat) (cI cZ : ClassId) (sz : Nat) (w : Nat → Int32) (kp : Nat → Int32) (tx : Nat → Int32) (td : Int32) (ab : Int64) (be : Int64) (su : Nat → Int32) (po : Int32) (st : Int32) (nu : Int32) (li : Nat → Int32) (fi : Nat → Int32) (ga : Nat → Int32) (hh : Int64) (lo : Int32) (hi : Int32) (pB : inB (w 0) 6) : Met l yX6_areAt wsX6_areAt { frames := 1, cells := 0, slots := 0, locals := 25 } (mPc (dC, dI) vwCl (mT cI cZ) (mW q cI cZ w kp tx td ab be su po st nu li fi ga hh) sz [.ref (q 0), .int lo, .int hi]) (va_Qi (fun (r : Int32) (u : Unit) => F_X6_areAt w lo hi = r) (mB (dC, dI) vwCl (mT cI cZ) (va_A (mW q cI cZ w kp tx td ab be su po st nu li fi ga hh) sz) (fun u => mW q cI cZ w kp tx td ab be su po st nu li fi ga hh)) (va_A (mW q cI cZ w kp tx td ab be su po st nu li fi ga hh) sz)) 0 0 (va_A (mW q cI cZ w kp tx td ab be su po st nu li fi ga hh) sz) := by
  refine Met.ofW (cc := cX6_areAt) (maxL := 5) (ret := (some .int)) (by decide) rfl ?_
  intro p e s m args below meth c s₁ B hml hv
  obtain ⟨rfl, hsz, hP, hK, hD0⟩ := hv
  have hx := B.exec
  have hb := B.bytes
  have hr := B.returns
  have hts := atoms_spec (ws := wsX6_areAt) B.pre
  have hown : s.vm.findClass RX6 = some m.cls := findClass_of_methodNamed B.named
  have hlocks := B.notSynchronized
  subst hsz
  have hD := hD0.self (sz := s.heap.size)
  generalize hAe : va_A (mW q cI cZ w kp tx td ab be su po st nu li fi ga hh) s.heap.size = A at hD ⊢
  have hA : ∀ q : Nat, s.heap.size ≤ q → A q := fun q h => by rw [← hAe]; exact Or.inr h
  have hS : va_S A s.heap s.heap [] := va_S.rf
  have hin : ∀ w ∈ wsX60, w ∈ wsX6_areAt := by decide +kernel
  have lk7 := hts (.fieldLink RX6 7 "PostRoundersModel" "w" "[I") (by decide +kernel)
  have hl := lv_entry ([.ref (q 0), .int lo, .int hi]) (n := 5) (Nat.le_of_ble_eq_true rfl)
  rw [lg_entry_eq]
  generalize (lg_sl ([.ref (q 0), .int lo, .int hi]) ++ List.replicate (5 - (lg_sl ([.ref (q 0), .int lo, .int hi])).length) Slot.unset).toArray = ls at hl ⊢
  have hl : lv_has ls 5 [(0, .ref (q 0)), (1, .int lo), (2, .int hi)] := hl
  obtain ⟨OUT, hO⟩ : ∃ z, z = F_X6_areAt w lo hi := ⟨_, rfl⟩
  have hF := hO
  unfold F_X6_areAt at hF
  have e_pB := tN_eq pB.1
  have b_pB := pB.2
  refine lv_iconst (v := nI 0) hx hb dX6_areAt_0 (by decide) ?_
  refine lv_istore_n (lv' := [(3, .int (nI 0)), (0, .ref (q 0)), (1, .int lo), (2, .int hi)]) hx hb dX6_areAt_1 rfl hl (by decide) rfl (fun ls hl => ?_)
  refine lv_iconst (v := nI 0) hx hb dX6_areAt_2 (by decide) ?_
  refine lv_istore (lv' := [(4, .int (nI 0)), (3, .int (nI 0)), (0, .ref (q 0)), (1, .int lo), (2, .int hi)]) hx hb dX6_areAt_3 hl (by decide) rfl (fun ls hl => ?_)
  have L_5 : ∀ (n_5 : Nat) (k : Nat) (c0 : Nat) (H : Heap) (locs : List Loc), k ≤ tN (w 0) → tN (w 0) - k < n_5 → va_P (dC, dI) vwCl (mW q cI cZ w kp tx td ab be su po st nu li fi ga hh) H → va_D A (mW q cI cZ w kp tx td ab be su po st nu li fi ga hh) → va_S A s.heap H locs → ∀ (ls : Array Slot), lv_has ls 5 [(4, .int (nI k)), (3, .int (nI c0)), (0, .ref (q 0)), (1, .int lo), (2, .int hi)] → OUT = let2 (F_X6_areAt_L5 n_5 lo hi w k c0) (fun k c0 => nI c0) → W p l e (headSpec wsX6_areAt { frames := 1, cells := 0, slots := 0, locals := 25 }).room s m ([.ref (q 0), .int lo, .int hi] : List Value).toArray below meth c H locs 0 0 (MQ below (va_Qi (fun (r : Int32) (u : Unit) => F_X6_areAt w lo hi = r) (mB (dC, dI) vwCl (mT cI cZ) A (fun u => mW q cI cZ w kp tx td ab be su po st nu li fi ga hh)) A) ([.ref (q 0), .int lo, .int hi] : List Value).toArray s 0 0 A) (F0 m 5 ls []) := by
    intro n_5
    induction n_5 with
    | zero => intro k c0 H locs i0 hmu; exact absurd hmu (Nat.not_lt_zero _)
    | succ n_5 ih_5 =>
      intro k c0 H locs i0 hmu_5 hP hD hS ls hl hF
      rw [F_X6_areAt_L5] at hF
      refine lv_iload hx hb dX6_areAt_5 (lv_at hl 0 rfl) ?_
      refine lv_aload_n hx hb dX6_areAt_7 rfl (lv_at hl 2 rfl) ?_
      refine va_get (D := (dC, dI)) (ci := 6) (v := .ref (q 1)) (C := RX6) (T := TX6) (N := 14) hx hb hts hin hown hK hP 0 rfl rfl 0 (by decide) lk7 (fun _ h9 => h9) rfl dX6_areAt_8 ?_
      refine lv_iconst (v := nI 0) hx hb dX6_areAt_11 (by decide) ?_
      refine qv_ald (v := w 0) hx hb hK hP 1 0 rfl rfl (by omega) (by decide) (rfl) dX6_areAt_12 ?_
      refine qv_top (e_pB) ?_
      refine qv_icmp_ge (tgt := 51) hx hb dX6_areAt_13 (by decide) (by omega) (by omega) (fun c_13 => ?_) (fun c_13 => ?_)
      · rw [if_pos c_13] at hF
        rw [let2_mk (k : Nat) (c0 : Nat)] at hF
        refine lv_iload_n hx hb dX6_areAt_51 rfl (lv_at hl 1 rfl) ?_
        have hP9 : va_P (dC, dI) vwCl (mW q cI cZ w kp tx td ab be su po st nu li fi ga hh) H := hP
        exact W.iret (v := nI c0) hx hb hr (fun t ht hW => ⟨⟨_, (()), rfl, hO.symm.trans hF, by rw [ht]; exact hP9, va_K.moved hW.alike hK, hD⟩, hS.F ht⟩) hS.2.2 dX6_areAt_52
      · rw [if_neg c_13] at hF
        refine lv_iload_n hx hb dX6_areAt_16 rfl (lv_at hl 1 rfl) ?_
        refine lv_aload_n hx hb dX6_areAt_17 rfl (lv_at hl 2 rfl) ?_
        refine va_get (D := (dC, dI)) (ci := 6) (v := .ref (q 1)) (C := RX6) (T := TX6) (N := 14) hx hb hts hin hown hK hP 0 rfl rfl 0 (by decide) lk7 (fun _ h9 => h9) rfl dX6_areAt_18 ?_
        refine lv_bipush (v := nI 17) hx hb dX6_areAt_21 (by decide) ?_
        refine lv_iload hx hb dX6_areAt_23 (lv_at hl 0 rfl) ?_
        refine qv_iadd hx hb (k + 17) dX6_areAt_25 (by omega) ?_
        refine qv_ald (v := w (k + 17)) hx hb hK hP 1 0 rfl rfl (by omega) (by decide) (rfl) dX6_areAt_26 ?_
        refine lv_i2l hx hb dX6_areAt_27 rfl ?_
        refine lv_iload_n hx hb dX6_areAt_28 rfl (lv_at hl 3 rfl) ?_
        refine lv_i2l hx hb dX6_areAt_29 rfl ?_
        refine lv_iload_n hx hb dX6_areAt_30 rfl (lv_at hl 4 rfl) ?_
        refine lv_i2l hx hb dX6_areAt_31 rfl ?_
        refine qc_Si (As := [.long ((w (k + 17)).toInt64), .long lo.toInt64, .long hi.toInt64]) (rest := [.int (nI c0)]) ⟨hx, hb, hml, hown, hts⟩ (c_X6_in l ((w (k + 17)).toInt64) lo.toInt64 hi.toInt64) (va_cwS 3 hts gX6_areAt_X6_in rfl rfl rfl (by decide +kernel) ⟨Nat.le_of_ble_eq_true rfl, Nat.le_of_ble_eq_true rfl⟩) rfl hl.1 rfl (Nat.le_of_ble_eq_true rfl) dX6_areAt_32 ⟨Nat.zero_le _, Nat.zero_le _⟩ (fun r_32 hw_32 => ?_)
        subst hw_32
        refine qv_zif_eq (tgt := 42) hx hb dX6_areAt_35 (by decide) (fun c_35 => ?_) (fun c_35 => ?_)
        · rw [if_neg c_35] at hF
          refine lv_iconst (v := nI 0) hx hb dX6_areAt_42 (by decide) ?_
          refine qv_iadd hx hb (c0) dX6_areAt_43 (by omega) ?_
          refine lv_istore_n (lv' := [(3, .int (nI c0)), (4, .int (nI k)), (0, .ref (q 0)), (1, .int lo), (2, .int hi)]) hx hb dX6_areAt_44 rfl hl (by decide) rfl (fun ls hl => ?_)
          refine lv_iinc (v := nI (k + 1)) (lv' := [(4, .int (nI (k + 1))), (3, .int (nI c0)), (0, .ref (q 0)), (1, .int lo), (2, .int hi)]) hx hb dX6_areAt_45 hl (k := 1) rfl (qn_inc (c := 1) rfl (by omega)) (by decide) rfl (fun ls hl => ?_)
          refine lv_goto (tgt := 5) hx hb dX6_areAt_48 (by decide) ?_
          exact ih_5 (k + 1) c0 H locs (by omega) (by omega) hP hD hS ls (lv_sub hl [0, 1, 2, 3, 4] rfl) hF
        · rw [if_pos c_35] at hF
          refine lv_iconst (v := nI 1) hx hb dX6_areAt_38 (by decide) ?_
          refine lv_goto (tgt := 43) hx hb dX6_areAt_39 (by decide) ?_
          refine qv_iadd hx hb (c0 + 1) dX6_areAt_43 (by omega) ?_
          refine lv_istore_n (lv' := [(3, .int (nI (c0 + 1))), (4, .int (nI k)), (0, .ref (q 0)), (1, .int lo), (2, .int hi)]) hx hb dX6_areAt_44 rfl hl (by decide) rfl (fun ls hl => ?_)
          refine lv_iinc (v := nI (k + 1)) (lv' := [(4, .int (nI (k + 1))), (3, .int (nI (c0 + 1))), (0, .ref (q 0)), (1, .int lo), (2, .int hi)]) hx hb dX6_areAt_45 hl (k := 1) rfl (qn_inc (c := 1) rfl (by omega)) (by decide) rfl (fun ls hl => ?_)
          refine lv_goto (tgt := 5) hx hb dX6_areAt_48 (by decide) ?_
          exact ih_5 (k + 1) (c0 + 1) H locs (by omega) (by omega) hP hD hS ls (lv_sub hl [0, 1, 2, 3, 4] rfl) hF
  exact L_5 7 0 0 s.heap [] (by omega) (by omega) hP hD hS ls (lv_sub hl [0, 1, 2, 3, 4] rfl) hF
def F_X6_countOf (w : Nat → Int32) (td : Int32) (wh : Int32) : Int32 := (if wh = nI 0 then nI (tN (w 0)) else (if wh = nI 1 then let1 (F_X6_areAt w (nI 0) (nI 0)) (fun r_70 => r_70) else (if wh = nI 2 then let1 (F_X6_areAt w (nI 1) (nI 3)) (fun r_77 => r_77) else (if wh = nI 3 then let1 (F_X6_areAt w (nI 4) (nI 4)) (fun r_84 => r_84) else (if wh = nI 4 then w 2 else (if wh = nI 5 then w 3 else (if wh = nI 6 then w 4 else (if wh = nI 7 then w 1 else (if wh = nI 8 then w 31 else (if wh = nI 9 then w 50 else (if wh = nI 10 then w 75 else td)))))))))))
set_option maxHeartbeats 4000000 in
set_option maxRecDepth 100000 in
theorem c_X6_countOf (l : Launch) (dC : Nat → ClassId) (dI : Nat → Nat → Nat) (q : Nat → Nat) (cI cZ : ClassId) (sz : Nat) (w : Nat → Int32) (kp : Nat → Int32) (tx : Nat → Int32) (td : Int32) (ab : Int64) (be : Int64) (su : Nat → Int32) (po : Int32) (st : Int32) (nu : Int32) (li : Nat → Int32) (fi : Nat → Int32) (ga : Nat → Int32) (hh : Int64) (wh : Int32) (pB : inB (w 0) 6) : Met l yX6_countOf wsX6_countOf { frames := 2, cells := 0, slots := 0, locals := 49 } (mPc (dC, dI) vwCl (mT cI cZ) (mW q cI cZ w kp tx td ab be su po st nu li fi ga hh) sz [.ref (q 0), .int wh]) (va_Qi (fun (r : Int32) (u : Unit) => F_X6_countOf w td wh = r) (mB (dC, dI) vwCl (mT cI cZ) (va_A (mW q cI cZ w kp tx td ab be su po st nu li fi ga hh) sz) (fun u => mW q cI cZ w kp tx td ab be su po st nu li fi ga hh)) (va_A (mW q cI cZ w kp tx td ab be su po st nu li fi ga hh) sz)) 0 0 (va_A (mW q cI cZ w kp tx td ab be su po st nu li fi ga hh) sz) := by
  refine Met.ofW (cc := cX6_countOf) (maxL := 2) (ret := (some .int)) (by decide) rfl ?_
  intro p e s m args below meth c s₁ B hml hv
  obtain ⟨rfl, hsz, hP, hK, hD0⟩ := hv
  have hx := B.exec
  have hb := B.bytes
  have hr := B.returns
  have hts := atoms_spec (ws := wsX6_countOf) B.pre
  have hown : s.vm.findClass RX6 = some m.cls := findClass_of_methodNamed B.named
  have hlocks := B.notSynchronized
  subst hsz
  have hD := hD0.self (sz := s.heap.size)
  generalize hAe : va_A (mW q cI cZ w kp tx td ab be su po st nu li fi ga hh) s.heap.size = A at hD ⊢
  have hA : ∀ q : Nat, s.heap.size ≤ q → A q := fun q h => by rw [← hAe]; exact Or.inr h
  have hS : va_S A s.heap s.heap [] := va_S.rf
  have hin : ∀ w ∈ wsX60, w ∈ wsX6_countOf := by decide +kernel
  have lk7 := hts (.fieldLink RX6 7 "PostRoundersModel" "w" "[I") (by decide +kernel)
  have lk102 := hts (.fieldLink RX6 102 "PostRoundersModel" "texted" "I") (by decide +kernel)
  have hl := lv_entry ([.ref (q 0), .int wh]) (n := 2) (Nat.le_of_ble_eq_true rfl)
  rw [lg_entry_eq]
  generalize (lg_sl ([.ref (q 0), .int wh]) ++ List.replicate (2 - (lg_sl ([.ref (q 0), .int wh])).length) Slot.unset).toArray = ls at hl ⊢
  have hl : lv_has ls 2 [(0, .ref (q 0)), (1, .int wh)] := hl
  obtain ⟨OUT, hO⟩ : ∃ z, z = F_X6_countOf w td wh := ⟨_, rfl⟩
  have hF := hO
  unfold F_X6_countOf at hF
  have e_pB := tN_eq pB.1
  have b_pB := pB.2
  refine lv_iload_n hx hb dX6_countOf_0 rfl (lv_at hl 1 rfl) ?_
  by_cases c_1_0 : wh = nI 0
  · rw [if_pos c_1_0] at hF
    refine lv_tableIn (off := 59) (tgt := 60) hx hb dX6_countOf_1 (by rw [c_1_0]; decide) (by rw [c_1_0]; decide) (by rw [c_1_0]; rfl) (by decide) ?_
    refine lv_aload_n hx hb dX6_countOf_60 rfl (lv_at hl 0 rfl) ?_
    refine va_get (D := (dC, dI)) (ci := 6) (v := .ref (q 1)) (C := RX6) (T := TX6) (N := 14) hx hb hts hin hown hK hP 0 rfl rfl 0 (by decide) lk7 (fun _ h9 => h9) rfl dX6_countOf_61 ?_
    refine lv_iconst (v := nI 0) hx hb dX6_countOf_64 (by decide) ?_
    refine qv_ald (v := w 0) hx hb hK hP 1 0 rfl rfl (by omega) (by decide) (rfl) dX6_countOf_65 ?_
    refine qv_top (e_pB) ?_
    have hP9 : va_P (dC, dI) vwCl (mW q cI cZ w kp tx td ab be su po st nu li fi ga hh) s.heap := hP
    exact W.iret (v := nI (tN (w 0))) hx hb hr (fun t ht hW => ⟨⟨_, (()), rfl, hO.symm.trans hF, by rw [ht]; exact hP9, va_K.moved hW.alike hK, hD⟩, hS.F ht⟩) hS.2.2 dX6_countOf_66
  · rw [if_neg c_1_0] at hF
    by_cases c_1_1 : wh = nI 1
    · rw [if_pos c_1_1] at hF
      refine lv_tableIn (off := 66) (tgt := 67) hx hb dX6_countOf_1 (by rw [c_1_1]; decide) (by rw [c_1_1]; decide) (by rw [c_1_1]; rfl) (by decide) ?_
      refine lv_aload_n hx hb dX6_countOf_67 rfl (lv_at hl 0 rfl) ?_
      refine lv_iconst (v := nI 0) hx hb dX6_countOf_68 (by decide) ?_
      refine lv_iconst (v := nI 0) hx hb dX6_countOf_69 (by decide) ?_
      refine qc_Vi (C := RX6) (As := [.int (nI 0), .int (nI 0)]) (rest := []) (ci := 6) (k0 := 0) ⟨hx, hb, hml, hown, hts⟩ (c_X6_areAt l dC dI q cI cZ s.heap.size w kp tx td ab be su po st nu li fi ga hh (nI 0) (nI 0) (pB : inB (w 0) 6)) (cwV 2 hts gX6_countOf_X6_areAt rfl rfl rfl (by decide +kernel) ⟨Nat.le_of_ble_eq_true rfl, Nat.le_of_ble_eq_true rfl⟩) hK hP hD hS hA rfl rfl rfl rfl hl.1 rfl (Nat.le_of_ble_eq_true rfl) dX6_countOf_70 ⟨Nat.zero_le _, Nat.zero_le _⟩ (fun r_70 u_70 H locs hw_70 hP hD hS => ?_)
      rw [hw_70, let1_mk r_70] at hF
      have hP9 : va_P (dC, dI) vwCl (mW q cI cZ w kp tx td ab be su po st nu li fi ga hh) H := hP
      exact W.iret (v := r_70) hx hb hr (fun t ht hW => ⟨⟨_, (()), rfl, hO.symm.trans hF, by rw [ht]; exact hP9, va_K.moved hW.alike hK, hD⟩, hS.F ht⟩) hS.2.2 dX6_countOf_73
    · rw [if_neg c_1_1] at hF
      by_cases c_1_2 : wh = nI 2
      · rw [if_pos c_1_2] at hF
        refine lv_tableIn (off := 73) (tgt := 74) hx hb dX6_countOf_1 (by rw [c_1_2]; decide) (by rw [c_1_2]; decide) (by rw [c_1_2]; rfl) (by decide) ?_
        refine lv_aload_n hx hb dX6_countOf_74 rfl (lv_at hl 0 rfl) ?_
        refine lv_iconst (v := nI 1) hx hb dX6_countOf_75 (by decide) ?_
        refine lv_iconst (v := nI 3) hx hb dX6_countOf_76 (by decide) ?_
        refine qc_Vi (C := RX6) (As := [.int (nI 1), .int (nI 3)]) (rest := []) (ci := 6) (k0 := 0) ⟨hx, hb, hml, hown, hts⟩ (c_X6_areAt l dC dI q cI cZ s.heap.size w kp tx td ab be su po st nu li fi ga hh (nI 1) (nI 3) (pB : inB (w 0) 6)) (cwV 2 hts gX6_countOf_X6_areAt rfl rfl rfl (by decide +kernel) ⟨Nat.le_of_ble_eq_true rfl, Nat.le_of_ble_eq_true rfl⟩) hK hP hD hS hA rfl rfl rfl rfl hl.1 rfl (Nat.le_of_ble_eq_true rfl) dX6_countOf_77 ⟨Nat.zero_le _, Nat.zero_le _⟩ (fun r_77 u_77 H locs hw_77 hP hD hS => ?_)
        rw [hw_77, let1_mk r_77] at hF
        have hP9 : va_P (dC, dI) vwCl (mW q cI cZ w kp tx td ab be su po st nu li fi ga hh) H := hP
        exact W.iret (v := r_77) hx hb hr (fun t ht hW => ⟨⟨_, (()), rfl, hO.symm.trans hF, by rw [ht]; exact hP9, va_K.moved hW.alike hK, hD⟩, hS.F ht⟩) hS.2.2 dX6_countOf_80
      · rw [if_neg c_1_2] at hF
        by_cases c_1_3 : wh = nI 3
        · rw [if_pos c_1_3] at hF
          refine lv_tableIn (off := 80) (tgt := 81) hx hb dX6_countOf_1 (by rw [c_1_3]; decide) (by rw [c_1_3]; decide) (by rw [c_1_3]; rfl) (by decide) ?_
          refine lv_aload_n hx hb dX6_countOf_81 rfl (lv_at hl 0 rfl) ?_
          refine lv_iconst (v := nI 4) hx hb dX6_countOf_82 (by decide) ?_
          refine lv_iconst (v := nI 4) hx hb dX6_countOf_83 (by decide) ?_
          refine qc_Vi (C := RX6) (As := [.int (nI 4), .int (nI 4)]) (rest := []) (ci := 6) (k0 := 0) ⟨hx, hb, hml, hown, hts⟩ (c_X6_areAt l dC dI q cI cZ s.heap.size w kp tx td ab be su po st nu li fi ga hh (nI 4) (nI 4) (pB : inB (w 0) 6)) (cwV 2 hts gX6_countOf_X6_areAt rfl rfl rfl (by decide +kernel) ⟨Nat.le_of_ble_eq_true rfl, Nat.le_of_ble_eq_true rfl⟩) hK hP hD hS hA rfl rfl rfl rfl hl.1 rfl (Nat.le_of_ble_eq_true rfl) dX6_countOf_84 ⟨Nat.zero_le _, Nat.zero_le _⟩ (fun r_84 u_84 H locs hw_84 hP hD hS => ?_)
          rw [hw_84, let1_mk r_84] at hF
          have hP9 : va_P (dC, dI) vwCl (mW q cI cZ w kp tx td ab be su po st nu li fi ga hh) H := hP
          exact W.iret (v := r_84) hx hb hr (fun t ht hW => ⟨⟨_, (()), rfl, hO.symm.trans hF, by rw [ht]; exact hP9, va_K.moved hW.alike hK, hD⟩, hS.F ht⟩) hS.2.2 dX6_countOf_87
        · rw [if_neg c_1_3] at hF
          by_cases c_1_4 : wh = nI 4
          · rw [if_pos c_1_4] at hF
            refine lv_tableIn (off := 87) (tgt := 88) hx hb dX6_countOf_1 (by rw [c_1_4]; decide) (by rw [c_1_4]; decide) (by rw [c_1_4]; rfl) (by decide) ?_
            refine lv_aload_n hx hb dX6_countOf_88 rfl (lv_at hl 0 rfl) ?_
            refine va_get (D := (dC, dI)) (ci := 6) (v := .ref (q 1)) (C := RX6) (T := TX6) (N := 14) hx hb hts hin hown hK hP 0 rfl rfl 0 (by decide) lk7 (fun _ h9 => h9) rfl dX6_countOf_89 ?_
            refine lv_iconst (v := nI 2) hx hb dX6_countOf_92 (by decide) ?_
            refine qv_ald (v := w 2) hx hb hK hP 1 0 rfl rfl (by omega) (by decide) (rfl) dX6_countOf_93 ?_
            have hP9 : va_P (dC, dI) vwCl (mW q cI cZ w kp tx td ab be su po st nu li fi ga hh) s.heap := hP
            exact W.iret (v := w 2) hx hb hr (fun t ht hW => ⟨⟨_, (()), rfl, hO.symm.trans hF, by rw [ht]; exact hP9, va_K.moved hW.alike hK, hD⟩, hS.F ht⟩) hS.2.2 dX6_countOf_94
          · rw [if_neg c_1_4] at hF
            by_cases c_1_5 : wh = nI 5
            · rw [if_pos c_1_5] at hF
              refine lv_tableIn (off := 94) (tgt := 95) hx hb dX6_countOf_1 (by rw [c_1_5]; decide) (by rw [c_1_5]; decide) (by rw [c_1_5]; rfl) (by decide) ?_
              refine lv_aload_n hx hb dX6_countOf_95 rfl (lv_at hl 0 rfl) ?_
              refine va_get (D := (dC, dI)) (ci := 6) (v := .ref (q 1)) (C := RX6) (T := TX6) (N := 14) hx hb hts hin hown hK hP 0 rfl rfl 0 (by decide) lk7 (fun _ h9 => h9) rfl dX6_countOf_96 ?_
              refine lv_iconst (v := nI 3) hx hb dX6_countOf_99 (by decide) ?_
              refine qv_ald (v := w 3) hx hb hK hP 1 0 rfl rfl (by omega) (by decide) (rfl) dX6_countOf_100 ?_
              have hP9 : va_P (dC, dI) vwCl (mW q cI cZ w kp tx td ab be su po st nu li fi ga hh) s.heap := hP
              exact W.iret (v := w 3) hx hb hr (fun t ht hW => ⟨⟨_, (()), rfl, hO.symm.trans hF, by rw [ht]; exact hP9, va_K.moved hW.alike hK, hD⟩, hS.F ht⟩) hS.2.2 dX6_countOf_101
            · rw [if_neg c_1_5] at hF
              by_cases c_1_6 : wh = nI 6
              · rw [if_pos c_1_6] at hF
                refine lv_tableIn (off := 101) (tgt := 102) hx hb dX6_countOf_1 (by rw [c_1_6]; decide) (by rw [c_1_6]; decide) (by rw [c_1_6]; rfl) (by decide) ?_
                refine lv_aload_n hx hb dX6_countOf_102 rfl (lv_at hl 0 rfl) ?_
                refine va_get (D := (dC, dI)) (ci := 6) (v := .ref (q 1)) (C := RX6) (T := TX6) (N := 14) hx hb hts hin hown hK hP 0 rfl rfl 0 (by decide) lk7 (fun _ h9 => h9) rfl dX6_countOf_103 ?_
                refine lv_iconst (v := nI 4) hx hb dX6_countOf_106 (by decide) ?_
                refine qv_ald (v := w 4) hx hb hK hP 1 0 rfl rfl (by omega) (by decide) (rfl) dX6_countOf_107 ?_
                have hP9 : va_P (dC, dI) vwCl (mW q cI cZ w kp tx td ab be su po st nu li fi ga hh) s.heap := hP
                exact W.iret (v := w 4) hx hb hr (fun t ht hW => ⟨⟨_, (()), rfl, hO.symm.trans hF, by rw [ht]; exact hP9, va_K.moved hW.alike hK, hD⟩, hS.F ht⟩) hS.2.2 dX6_countOf_108
              · rw [if_neg c_1_6] at hF
                by_cases c_1_7 : wh = nI 7
                · rw [if_pos c_1_7] at hF
                  refine lv_tableIn (off := 108) (tgt := 109) hx hb dX6_countOf_1 (by rw [c_1_7]; decide) (by rw [c_1_7]; decide) (by rw [c_1_7]; rfl) (by decide) ?_
                  refine lv_aload_n hx hb dX6_countOf_109 rfl (lv_at hl 0 rfl) ?_
                  refine va_get (D := (dC, dI)) (ci := 6) (v := .ref (q 1)) (C := RX6) (T := TX6) (N := 14) hx hb hts hin hown hK hP 0 rfl rfl 0 (by decide) lk7 (fun _ h9 => h9) rfl dX6_countOf_110 ?_
                  refine lv_iconst (v := nI 1) hx hb dX6_countOf_113 (by decide) ?_
                  refine qv_ald (v := w 1) hx hb hK hP 1 0 rfl rfl (by omega) (by decide) (rfl) dX6_countOf_114 ?_
                  have hP9 : va_P (dC, dI) vwCl (mW q cI cZ w kp tx td ab be su po st nu li fi ga hh) s.heap := hP
                  exact W.iret (v := w 1) hx hb hr (fun t ht hW => ⟨⟨_, (()), rfl, hO.symm.trans hF, by rw [ht]; exact hP9, va_K.moved hW.alike hK, hD⟩, hS.F ht⟩) hS.2.2 dX6_countOf_115
                · rw [if_neg c_1_7] at hF
                  by_cases c_1_8 : wh = nI 8
                  · rw [if_pos c_1_8] at hF
                    refine lv_tableIn (off := 115) (tgt := 116) hx hb dX6_countOf_1 (by rw [c_1_8]; decide) (by rw [c_1_8]; decide) (by rw [c_1_8]; rfl) (by decide) ?_
                    refine lv_aload_n hx hb dX6_countOf_116 rfl (lv_at hl 0 rfl) ?_
                    refine va_get (D := (dC, dI)) (ci := 6) (v := .ref (q 1)) (C := RX6) (T := TX6) (N := 14) hx hb hts hin hown hK hP 0 rfl rfl 0 (by decide) lk7 (fun _ h9 => h9) rfl dX6_countOf_117 ?_
                    refine lv_bipush (v := nI 31) hx hb dX6_countOf_120 (by decide) ?_
                    refine qv_ald (v := w 31) hx hb hK hP 1 0 rfl rfl (by omega) (by decide) (rfl) dX6_countOf_122 ?_
                    have hP9 : va_P (dC, dI) vwCl (mW q cI cZ w kp tx td ab be su po st nu li fi ga hh) s.heap := hP
                    exact W.iret (v := w 31) hx hb hr (fun t ht hW => ⟨⟨_, (()), rfl, hO.symm.trans hF, by rw [ht]; exact hP9, va_K.moved hW.alike hK, hD⟩, hS.F ht⟩) hS.2.2 dX6_countOf_123
                  · rw [if_neg c_1_8] at hF
                    by_cases c_1_9 : wh = nI 9
                    · rw [if_pos c_1_9] at hF
                      refine lv_tableIn (off := 123) (tgt := 124) hx hb dX6_countOf_1 (by rw [c_1_9]; decide) (by rw [c_1_9]; decide) (by rw [c_1_9]; rfl) (by decide) ?_
                      refine lv_aload_n hx hb dX6_countOf_124 rfl (lv_at hl 0 rfl) ?_
                      refine va_get (D := (dC, dI)) (ci := 6) (v := .ref (q 1)) (C := RX6) (T := TX6) (N := 14) hx hb hts hin hown hK hP 0 rfl rfl 0 (by decide) lk7 (fun _ h9 => h9) rfl dX6_countOf_125 ?_
                      refine lv_bipush (v := nI 50) hx hb dX6_countOf_128 (by decide) ?_
                      refine qv_ald (v := w 50) hx hb hK hP 1 0 rfl rfl (by omega) (by decide) (rfl) dX6_countOf_130 ?_
                      have hP9 : va_P (dC, dI) vwCl (mW q cI cZ w kp tx td ab be su po st nu li fi ga hh) s.heap := hP
                      exact W.iret (v := w 50) hx hb hr (fun t ht hW => ⟨⟨_, (()), rfl, hO.symm.trans hF, by rw [ht]; exact hP9, va_K.moved hW.alike hK, hD⟩, hS.F ht⟩) hS.2.2 dX6_countOf_131
                    · rw [if_neg c_1_9] at hF
                      by_cases c_1_10 : wh = nI 10
                      · rw [if_pos c_1_10] at hF
                        refine lv_tableIn (off := 131) (tgt := 132) hx hb dX6_countOf_1 (by rw [c_1_10]; decide) (by rw [c_1_10]; decide) (by rw [c_1_10]; rfl) (by decide) ?_
                        refine lv_aload_n hx hb dX6_countOf_132 rfl (lv_at hl 0 rfl) ?_
                        refine va_get (D := (dC, dI)) (ci := 6) (v := .ref (q 1)) (C := RX6) (T := TX6) (N := 14) hx hb hts hin hown hK hP 0 rfl rfl 0 (by decide) lk7 (fun _ h9 => h9) rfl dX6_countOf_133 ?_
                        refine lv_bipush (v := nI 75) hx hb dX6_countOf_136 (by decide) ?_
                        refine qv_ald (v := w 75) hx hb hK hP 1 0 rfl rfl (by omega) (by decide) (rfl) dX6_countOf_138 ?_
                        have hP9 : va_P (dC, dI) vwCl (mW q cI cZ w kp tx td ab be su po st nu li fi ga hh) s.heap := hP
                        exact W.iret (v := w 75) hx hb hr (fun t ht hW => ⟨⟨_, (()), rfl, hO.symm.trans hF, by rw [ht]; exact hP9, va_K.moved hW.alike hK, hD⟩, hS.F ht⟩) hS.2.2 dX6_countOf_139
                      · rw [if_neg c_1_10] at hF
                        have e_1_0 := qn_ne c_1_0 (by decide)
                        have e_1_1 := qn_ne c_1_1 (by decide)
                        have e_1_2 := qn_ne c_1_2 (by decide)
                        have e_1_3 := qn_ne c_1_3 (by decide)
                        have e_1_4 := qn_ne c_1_4 (by decide)
                        have e_1_5 := qn_ne c_1_5 (by decide)
                        have e_1_6 := qn_ne c_1_6 (by decide)
                        have e_1_7 := qn_ne c_1_7 (by decide)
                        have e_1_8 := qn_ne c_1_8 (by decide)
                        have e_1_9 := qn_ne c_1_9 (by decide)
                        have e_1_10 := qn_ne c_1_10 (by decide)
                        refine lv_tableOut (tgt := 140) hx hb dX6_countOf_1 (by omega) (by decide) ?_
                        refine lv_aload_n hx hb dX6_countOf_140 rfl (lv_at hl 0 rfl) ?_
                        refine va_get (D := (dC, dI)) (ci := 6) (v := .int td) (C := RX6) (T := TX6) (N := 14) hx hb hts hin hown hK hP 0 rfl rfl 3 (by decide) lk102 (fun _ h9 => h9) rfl dX6_countOf_141 ?_
                        have hP9 : va_P (dC, dI) vwCl (mW q cI cZ w kp tx td ab be su po st nu li fi ga hh) s.heap := hP
                        exact W.iret (v := td) hx hb hr (fun t ht hW => ⟨⟨_, (()), rfl, hO.symm.trans hF, by rw [ht]; exact hP9, va_K.moved hW.alike hK, hD⟩, hS.F ht⟩) hS.2.2 dX6_countOf_144
def F_X6_count (w : Nat → Int32) (td : Int32) (su : Nat → Int32) (wh : Int32) : Int32 × (Nat → Int32) := if (F_X6_in wh.toInt64 0 11) = true then let1 (F_X6_countOf w td (nI (tN wh))) (fun r_14 => (r_14, su)) else let2 (F_X6_bad su ((-2))) (fun r_23 su_23 => (r_23, su_23))
set_option maxHeartbeats 4000000 in
set_option maxRecDepth 100000 in
theorem c_X6_count (l : Launch) (dC : Nat → ClassId) (dI : Nat → Nat → Nat) (q : Nat → Nat) (cI cZ : ClassId) (sz : Nat) (w : Nat → Int32) (kp : Nat → Int32) (tx : Nat → Int32) (td : Int32) (ab : Int64) (be : Int64) (su : Nat → Int32) (po : Int32) (st : Int32) (nu : Int32) (li : Nat → Int32) (fi : Nat → Int32) (ga : Nat → Int32) (hh : Int64) (wh : Int32) (pB : inB (w 0) 6) : Met l yX6_count wsX6_count { frames := 3, cells := 0, slots := 0, locals := 70 } (mPc (dC, dI) vwCl (mT cI cZ) (mW q cI cZ w kp tx td ab be su po st nu li fi ga hh) sz [.ref (q 0), .int wh]) (va_Qi (fun (r : Int32) (u : (Nat → Int32)) => F_X6_count w td su wh = (r, u)) (mB (dC, dI) vwCl (mT cI cZ) (va_A (mW q cI cZ w kp tx td ab be su po st nu li fi ga hh) sz) (fun u => mW q cI cZ w kp tx td ab be u po st nu li fi ga hh)) (va_A (mW q cI cZ w kp tx td ab be su po st nu li fi ga hh) sz)) 0 0 (va_A (mW q cI cZ w kp tx td ab be su po st nu li fi ga hh) sz) := by
  refine Met.ofW (cc := cX6_count) (maxL := 2) (ret := (some .int)) (by decide) rfl ?_
  intro p e s m args below meth c s₁ B hml hv
  obtain ⟨rfl, hsz, hP, hK, hD0⟩ := hv
  have hx := B.exec
  have hb := B.bytes
  have hr := B.returns
  have hts := atoms_spec (ws := wsX6_count) B.pre
  have hown : s.vm.findClass RX6 = some m.cls := findClass_of_methodNamed B.named
  have hlocks := B.notSynchronized
  subst hsz
  have hD := hD0.self (sz := s.heap.size)
  generalize hAe : va_A (mW q cI cZ w kp tx td ab be su po st nu li fi ga hh) s.heap.size = A at hD ⊢
  have hA : ∀ q : Nat, s.heap.size ≤ q → A q := fun q h => by rw [← hAe]; exact Or.inr h
  have hS : va_S A s.heap s.heap [] := va_S.rf
  have hl := lv_entry ([.ref (q 0), .int wh]) (n := 2) (Nat.le_of_ble_eq_true rfl)
  rw [lg_entry_eq]
  generalize (lg_sl ([.ref (q 0), .int wh]) ++ List.replicate (2 - (lg_sl ([.ref (q 0), .int wh])).length) Slot.unset).toArray = ls at hl ⊢
  have hl : lv_has ls 2 [(0, .ref (q 0)), (1, .int wh)] := hl
  obtain ⟨OUT, hO⟩ : ∃ z, z = F_X6_count w td su wh := ⟨_, rfl⟩
  have hF := hO
  unfold F_X6_count at hF
  have e_pB := tN_eq pB.1
  have b_pB := pB.2
  refine lv_iload_n hx hb dX6_count_0 rfl (lv_at hl 1 rfl) ?_
  refine lv_i2l hx hb dX6_count_1 rfl ?_
  refine lv_lconst (v := 0) hx hb dX6_count_2 (by decide) ?_
  refine lv_ldc2 (v := 11) hx hb hown (hts (.constantLong RX6 257 11) (by decide +kernel)) dX6_count_3 ?_
  refine qc_Si (As := [.long wh.toInt64, .long 0, .long 11]) (rest := []) ⟨hx, hb, hml, hown, hts⟩ (c_X6_in l wh.toInt64 0 11) (va_cwS 3 hts gX6_count_X6_in rfl rfl rfl (by decide +kernel) ⟨Nat.le_of_ble_eq_true rfl, Nat.le_of_ble_eq_true rfl⟩) rfl hl.1 rfl (Nat.le_of_ble_eq_true rfl) dX6_count_6 ⟨Nat.zero_le _, Nat.zero_le _⟩ (fun r_6 hw_6 => ?_)
  subst hw_6
  refine qv_zif_eq (tgt := 20) hx hb dX6_count_9 (by decide) (fun c_9 => ?_) (fun c_9 => ?_)
  · rw [if_neg c_9] at hF
    refine lv_aload_n hx hb dX6_count_20 rfl (lv_at hl 0 rfl) ?_
    refine lv_bipush (v := (-2)) hx hb dX6_count_21 (by decide) ?_
    refine qc_Vi (C := RX6) (As := [.int ((-2))]) (rest := []) (ci := 6) (k0 := 0) ⟨hx, hb, hml, hown, hts⟩ (c_X6_bad l dC dI q cI cZ s.heap.size w kp tx td ab be su po st nu li fi ga hh ((-2)) ) (cwV 1 hts gX6_count_X6_bad rfl rfl rfl (by decide +kernel) ⟨Nat.le_of_ble_eq_true rfl, Nat.le_of_ble_eq_true rfl⟩) hK hP hD hS hA rfl rfl rfl rfl hl.1 rfl (Nat.le_of_ble_eq_true rfl) dX6_count_23 ⟨Nat.zero_le _, Nat.zero_le _⟩ (fun r_23 u_23 H locs hw_23 hP hD hS => ?_)
    obtain ⟨su_23, rfl⟩ : ∃ z, z = u_23 := ⟨_, rfl⟩
    have hP : va_P (dC, dI) vwCl (mW q cI cZ w kp tx td ab be su_23 po st nu li fi ga hh) H := hP
    have hD : va_D A (mW q cI cZ w kp tx td ab be su_23 po st nu li fi ga hh) := hD
    rw [hw_23, let2_mk r_23 su_23] at hF
    have hP9 : va_P (dC, dI) vwCl (mW q cI cZ w kp tx td ab be su_23 po st nu li fi ga hh) H := hP
    exact W.iret (v := r_23) hx hb hr (fun t ht hW => ⟨⟨_, (su_23), rfl, hO.symm.trans hF, by rw [ht]; exact hP9, va_K.moved hW.alike hK, hD⟩, hS.F ht⟩) hS.2.2 dX6_count_26
  · rw [if_pos c_9] at hF
    obtain ⟨f_wh, fa_wh, fb_wh⟩ := in_nat (lo := 0) (hi := 11) rfl rfl (by decide) (by decide) c_9
    have e_wh := tN_eq f_wh
    refine lv_aload_n hx hb dX6_count_12 rfl (lv_at hl 0 rfl) ?_
    refine lv_iload_n hx hb dX6_count_13 rfl (lv_at hl 1 rfl) ?_
    refine qv_top (e_wh) ?_
    refine qc_Vi (C := RX6) (As := [.int (nI (tN wh))]) (rest := []) (ci := 6) (k0 := 0) ⟨hx, hb, hml, hown, hts⟩ (c_X6_countOf l dC dI q cI cZ s.heap.size w kp tx td ab be su po st nu li fi ga hh (nI (tN wh)) (pB : inB (w 0) 6)) (cwV 1 hts gX6_count_X6_countOf rfl rfl rfl (by decide +kernel) ⟨Nat.le_of_ble_eq_true rfl, Nat.le_of_ble_eq_true rfl⟩) hK hP hD hS hA rfl rfl rfl rfl hl.1 rfl (Nat.le_of_ble_eq_true rfl) dX6_count_14 ⟨Nat.zero_le _, Nat.zero_le _⟩ (fun r_14 u_14 H locs hw_14 hP hD hS => ?_)
    rw [hw_14, let1_mk r_14] at hF
    refine lv_goto (tgt := 26) hx hb dX6_count_17 (by decide) ?_
    have hP9 : va_P (dC, dI) vwCl (mW q cI cZ w kp tx td ab be su po st nu li fi ga hh) H := hP
    exact W.iret (v := r_14) hx hb hr (fun t ht hW => ⟨⟨_, (su), rfl, hO.symm.trans hF, by rw [ht]; exact hP9, va_K.moved hW.alike hK, hD⟩, hS.F ht⟩) hS.2.2 dX6_count_26
def F_X6_mix (hh : Int64) (v : Int64) : (Int64) := ((31 * hh) + v)
set_option maxHeartbeats 4000000 in
set_option maxRecDepth 100000 in
theorem c_X6_mix (l : Launch) (dC : Nat → ClassId) (dI : Nat → Nat → Nat) (q : Nat → Nat) (cI cZ : ClassId) (sz : Nat) (w : Nat → Int32) (kp : Nat → Int32) (tx : Nat → Int32) (td : Int32) (ab : Int64) (be : Int64) (su : Nat → Int32) (po : Int32) (st : Int32) (nu : Int32) (li : Nat → Int32) (fi : Nat → Int32) (ga : Nat → Int32) (hh : Int64) (v : Int64) : Met l yX6_mix wsX6_mix { frames := 0, cells := 0, slots := 0, locals := 0 } (mPc (dC, dI) vwCl (mT cI cZ) (mW q cI cZ w kp tx td ab be su po st nu li fi ga hh) sz [.ref (q 0), .long v]) (va_Qv (fun (u : (Int64)) => F_X6_mix hh v = u) (mB (dC, dI) vwCl (mT cI cZ) (va_A (mW q cI cZ w kp tx td ab be su po st nu li fi ga hh) sz) (fun u => mW q cI cZ w kp tx td ab be su po st nu li fi ga u)) (va_A (mW q cI cZ w kp tx td ab be su po st nu li fi ga hh) sz)) 0 0 (va_A (mW q cI cZ w kp tx td ab be su po st nu li fi ga hh) sz) := by
  refine Met.ofW (cc := cX6_mix) (maxL := 3) (ret := none) (by decide) rfl ?_
  intro p e s m args below meth c s₁ B hml hv
  obtain ⟨rfl, hsz, hP, hK, hD0⟩ := hv
  have hx := B.exec
  have hb := B.bytes
  have hr := B.returns
  have hts := atoms_spec (ws := wsX6_mix) B.pre
  have hown : s.vm.findClass RX6 = some m.cls := findClass_of_methodNamed B.named
  have hlocks := B.notSynchronized
  subst hsz
  have hD := hD0.self (sz := s.heap.size)
  generalize hAe : va_A (mW q cI cZ w kp tx td ab be su po st nu li fi ga hh) s.heap.size = A at hD ⊢
  have hA : ∀ q : Nat, s.heap.size ≤ q → A q := fun q h => by rw [← hAe]; exact Or.inr h
  have hS : va_S A s.heap s.heap [] := va_S.rf
  have hin : ∀ w ∈ wsX60, w ∈ wsX6_mix := by decide +kernel
  have lk264 := hts (.fieldLink RX6 264 "PostRoundersModel" "h0" "J") (by decide +kernel)
  have hl := lv_entry ([.ref (q 0), .long v]) (n := 3) (Nat.le_of_ble_eq_true rfl)
  rw [lg_entry_eq]
  generalize (lg_sl ([.ref (q 0), .long v]) ++ List.replicate (3 - (lg_sl ([.ref (q 0), .long v])).length) Slot.unset).toArray = ls at hl ⊢
  have hl : lv_has ls 3 [(0, .ref (q 0)), (1, .long v)] := hl
  obtain ⟨OUT, hO⟩ : ∃ z, z = F_X6_mix hh v := ⟨_, rfl⟩
  have hF := hO
  unfold F_X6_mix at hF
  refine lv_aload_n hx hb dX6_mix_0 rfl (lv_at hl 0 rfl) ?_
  refine lv_ldc2 (v := 31) hx hb hown (hts (.constantLong RX6 262 31) (by decide +kernel)) dX6_mix_1 ?_
  refine lv_aload_n hx hb dX6_mix_4 rfl (lv_at hl 0 rfl) ?_
  refine va_get (D := (dC, dI)) (ci := 6) (v := .long hh) (C := RX6) (T := TX6) (N := 14) hx hb hts hin hown hK hP 0 rfl rfl 13 (by decide) lk264 (fun _ h9 => h9) rfl dX6_mix_5 ?_
  refine lv_lmul hx hb dX6_mix_8 ?_
  refine lv_lload_n hx hb dX6_mix_9 rfl (lv_at hl 1 rfl) ?_
  refine lv_ladd hx hb dX6_mix_10 ?_
  refine va_put (D := (dC, dI)) (ci := 6) (v := .long ((31 * hh) + v)) (ty := .long) (C := RX6) (T := TX6) (N := 14) hx hb hts hin tyX6 tyX6_ok nmX6 hown hK hP hD hS 0 rfl rfl 13 (by decide) lk264 (fun _ h9 => h9) rfl (by decide +kernel) rfl rfl (Nat.le_of_ble_eq_true rfl) dX6_mix_11 (fun H locs hP hD hS => ?_)
  have hP : va_P (dC, dI) vwCl (mW q cI cZ w kp tx td ab be su po st nu li fi ga ((31 * hh) + v)) H := hP
  have hD : va_D A (mW q cI cZ w kp tx td ab be su po st nu li fi ga ((31 * hh) + v)) := hD
  have hP9 : va_P (dC, dI) vwCl (mW q cI cZ w kp tx td ab be su po st nu li fi ga ((31 * hh) + v)) H := hP
  exact W.vret hx hb hr (fun t ht hW => ⟨⟨((31 * hh) + v), rfl, hO.symm.trans hF, by rw [ht]; exact hP9, va_K.moved hW.alike hK, hD⟩, hS.F ht⟩) hS.2.2 dX6_mix_14
def F_X6_mixes_L2 : Nat → (Nat) → (Nat) → (Nat → Int32) → (Nat) → (Int64) → (Nat) × (Int64)
  | 0, _, _, _, k, h1_ => (k, h1_)
  | n_2 + 1, fr, n, w, k, h1_ => if n ≤ k then (k, h1_) else let1 (F_X6_mix h1_ ((w (fr + k)).toInt64)) (fun hh_17 => F_X6_mixes_L2 n_2 fr n w (k + 1) hh_17)
def F_X6_mixes (w : Nat → Int32) (hh : Int64) (fr : Nat) (n : Nat) : (Int64) := let2 (F_X6_mixes_L2 (n + 1) fr n w 0 hh) (fun k h1_ => h1_)
set_option maxHeartbeats 4000000 in
set_option maxRecDepth 100000 in
theorem c_X6_mixes (l : Launch) (dC : Nat → ClassId) (dI : Nat → Nat → Nat) (q : Nat → Nat) (cI cZ : ClassId) (sz : Nat) (w : Nat → Int32) (kp : Nat → Int32) (tx : Nat → Int32) (td : Int32) (ab : Int64) (be : Int64) (su : Nat → Int32) (po : Int32) (st : Int32) (nu : Int32) (li : Nat → Int32) (fi : Nat → Int32) (ga : Nat → Int32) (hh : Int64) (fr : Nat) (n : Nat) (h1 : fr + n ≤ 624) : Met l yX6_mixes wsX6_mixes { frames := 1, cells := 0, slots := 0, locals := 22 } (mPc (dC, dI) vwCl (mT cI cZ) (mW q cI cZ w kp tx td ab be su po st nu li fi ga hh) sz [.ref (q 0), .int (nI fr), .int (nI n)]) (va_Qv (fun (u : (Int64)) => F_X6_mixes w hh fr n = u) (mB (dC, dI) vwCl (mT cI cZ) (va_A (mW q cI cZ w kp tx td ab be su po st nu li fi ga hh) sz) (fun u => mW q cI cZ w kp tx td ab be su po st nu li fi ga u)) (va_A (mW q cI cZ w kp tx td ab be su po st nu li fi ga hh) sz)) 0 0 (va_A (mW q cI cZ w kp tx td ab be su po st nu li fi ga hh) sz) := by
  refine Met.ofW (cc := cX6_mixes) (maxL := 4) (ret := none) (by decide) rfl ?_
  intro p e s m args below meth c s₁ B hml hv
  obtain ⟨rfl, hsz, hP, hK, hD0⟩ := hv
  have hx := B.exec
  have hb := B.bytes
  have hr := B.returns
  have hts := atoms_spec (ws := wsX6_mixes) B.pre
  have hown : s.vm.findClass RX6 = some m.cls := findClass_of_methodNamed B.named
  have hlocks := B.notSynchronized
  subst hsz
  have hD := hD0.self (sz := s.heap.size)
  generalize hAe : va_A (mW q cI cZ w kp tx td ab be su po st nu li fi ga hh) s.heap.size = A at hD ⊢
  have hA : ∀ q : Nat, s.heap.size ≤ q → A q := fun q h => by rw [← hAe]; exact Or.inr h
  have hS : va_S A s.heap s.heap [] := va_S.rf
  have hin : ∀ w ∈ wsX60, w ∈ wsX6_mixes := by decide +kernel
  have lk7 := hts (.fieldLink RX6 7 "PostRoundersModel" "w" "[I") (by decide +kernel)
  have hl := lv_entry ([.ref (q 0), .int (nI fr), .int (nI n)]) (n := 4) (Nat.le_of_ble_eq_true rfl)
  rw [lg_entry_eq]
  generalize (lg_sl ([.ref (q 0), .int (nI fr), .int (nI n)]) ++ List.replicate (4 - (lg_sl ([.ref (q 0), .int (nI fr), .int (nI n)])).length) Slot.unset).toArray = ls at hl ⊢
  have hl : lv_has ls 4 [(0, .ref (q 0)), (1, .int (nI fr)), (2, .int (nI n))] := hl
  obtain ⟨OUT, hO⟩ : ∃ z, z = F_X6_mixes w hh fr n := ⟨_, rfl⟩
  have hF := hO
  unfold F_X6_mixes at hF
  refine lv_iconst (v := nI 0) hx hb dX6_mixes_0 (by decide) ?_
  refine lv_istore_n (lv' := [(3, .int (nI 0)), (0, .ref (q 0)), (1, .int (nI fr)), (2, .int (nI n))]) hx hb dX6_mixes_1 rfl hl (by decide) rfl (fun ls hl => ?_)
  have L_2 : ∀ (n_2 : Nat) (k : Nat) (h1_ : Int64) (H : Heap) (locs : List Loc), k ≤ n → n - k < n_2 → va_P (dC, dI) vwCl (mW q cI cZ w kp tx td ab be su po st nu li fi ga h1_) H → va_D A (mW q cI cZ w kp tx td ab be su po st nu li fi ga h1_) → va_S A s.heap H locs → ∀ (ls : Array Slot), lv_has ls 4 [(3, .int (nI k)), (0, .ref (q 0)), (1, .int (nI fr)), (2, .int (nI n))] → OUT = let2 (F_X6_mixes_L2 n_2 fr n w k h1_) (fun k h1_ => h1_) → W p l e (headSpec wsX6_mixes { frames := 1, cells := 0, slots := 0, locals := 22 }).room s m ([.ref (q 0), .int (nI fr), .int (nI n)] : List Value).toArray below meth c H locs 0 0 (MQ below (va_Qv (fun (u : (Int64)) => F_X6_mixes w hh fr n = u) (mB (dC, dI) vwCl (mT cI cZ) A (fun u => mW q cI cZ w kp tx td ab be su po st nu li fi ga u)) A) ([.ref (q 0), .int (nI fr), .int (nI n)] : List Value).toArray s 0 0 A) (F0 m 2 ls []) := by
    intro n_2
    induction n_2 with
    | zero => intro k h1_ H locs i0 hmu; exact absurd hmu (Nat.not_lt_zero _)
    | succ n_2 ih_2 =>
      intro k h1_ H locs i0 hmu_2 hP hD hS ls hl hF
      rw [F_X6_mixes_L2] at hF
      refine lv_iload_n hx hb dX6_mixes_2 rfl (lv_at hl 0 rfl) ?_
      refine lv_iload_n hx hb dX6_mixes_3 rfl (lv_at hl 3 rfl) ?_
      refine qv_icmp_ge (tgt := 26) hx hb dX6_mixes_4 (by decide) (by omega) (by omega) (fun c_4 => ?_) (fun c_4 => ?_)
      · rw [if_pos c_4] at hF
        rw [let2_mk (k : Nat) (h1_ : Int64)] at hF
        have hP9 : va_P (dC, dI) vwCl (mW q cI cZ w kp tx td ab be su po st nu li fi ga h1_) H := hP
        exact W.vret hx hb hr (fun t ht hW => ⟨⟨(h1_), rfl, hO.symm.trans hF, by rw [ht]; exact hP9, va_K.moved hW.alike hK, hD⟩, hS.F ht⟩) hS.2.2 dX6_mixes_26
      · rw [if_neg c_4] at hF
        refine lv_aload_n hx hb dX6_mixes_7 rfl (lv_at hl 1 rfl) ?_
        refine lv_aload_n hx hb dX6_mixes_8 rfl (lv_at hl 1 rfl) ?_
        refine va_get (D := (dC, dI)) (ci := 6) (v := .ref (q 1)) (C := RX6) (T := TX6) (N := 14) hx hb hts hin hown hK hP 0 rfl rfl 0 (by decide) lk7 (fun _ h9 => h9) rfl dX6_mixes_9 ?_
        refine lv_iload_n hx hb dX6_mixes_12 rfl (lv_at hl 2 rfl) ?_
        refine lv_iload_n hx hb dX6_mixes_13 rfl (lv_at hl 0 rfl) ?_
        refine qv_iadd hx hb (fr + k) dX6_mixes_14 (by omega) ?_
        refine qv_ald (v := w (fr + k)) hx hb hK hP 1 0 rfl rfl (by omega) (by decide) (rfl) dX6_mixes_15 ?_
        refine lv_i2l hx hb dX6_mixes_16 rfl ?_
        refine qc_Vv (C := RX6) (As := [.long ((w (fr + k)).toInt64)]) (rest := []) (ci := 6) (k0 := 0) ⟨hx, hb, hml, hown, hts⟩ (c_X6_mix l dC dI q cI cZ H.size w kp tx td ab be su po st nu li fi ga h1_ ((w (fr + k)).toInt64) ) (cwV 1 hts gX6_mixes_X6_mix rfl rfl rfl (by decide +kernel) ⟨Nat.le_of_ble_eq_true rfl, Nat.le_of_ble_eq_true rfl⟩) hK hP hD hS hA rfl rfl rfl rfl hl.1 rfl (Nat.le_of_ble_eq_true rfl) dX6_mixes_17 ⟨Nat.zero_le _, Nat.zero_le _⟩ (fun u_17 H locs hw_17 hP hD hS => ?_)
        obtain ⟨hh_17, rfl⟩ : ∃ z, z = u_17 := ⟨_, rfl⟩
        have hP : va_P (dC, dI) vwCl (mW q cI cZ w kp tx td ab be su po st nu li fi ga hh_17) H := hP
        have hD : va_D A (mW q cI cZ w kp tx td ab be su po st nu li fi ga hh_17) := hD
        rw [hw_17, let1_mk hh_17] at hF
        refine lv_iinc (v := nI (k + 1)) (lv' := [(3, .int (nI (k + 1))), (0, .ref (q 0)), (1, .int (nI fr)), (2, .int (nI n))]) hx hb dX6_mixes_20 hl (k := 0) rfl (qn_inc (c := 1) rfl (by omega)) (by decide) rfl (fun ls hl => ?_)
        refine lv_goto (tgt := 2) hx hb dX6_mixes_23 (by decide) ?_
        exact ih_2 (k + 1) hh_17 H locs (by omega) (by omega) hP hD hS ls (lv_sub hl [0, 1, 2, 3] rfl) hF
  exact L_2 (n + 1) 0 hh s.heap [] (by omega) (by omega) hP hD hS ls (lv_sub hl [0, 1, 2, 3] rfl) hF
def F_X6_digest_L33 : Nat → (Nat → Int32) → (Nat) → (Int64) → (Nat) × (Int64)
  | 0, _, k2, h2_ => (k2, h2_)
  | n_33 + 1, w, k2, h2_ => if tN (w 0) ≤ k2 then (k2, h2_) else let1 (F_X6_mix h2_ ((w (k2 + 5)).toInt64)) (fun hh_53 => let1 (F_X6_mix hh_53 ((w (k2 + 11)).toInt64)) (fun hh_67 => let1 (F_X6_mix hh_67 ((w (k2 + 17)).toInt64)) (fun hh_81 => F_X6_digest_L33 n_33 w (k2 + 1) hh_81)))
def F_X6_digest_L9 : Nat → (Nat → Int32) → (Int32) → (Nat) → (Int64) → (Nat) × (Int64)
  | 0, _, _, k, h1_ => (k, h1_)
  | n_9 + 1, w, td, k, h1_ => if 12 ≤ k then (k, h1_) else let1 (F_X6_countOf w td (nI k)) (fun r_18 => let1 (F_X6_mix h1_ r_18.toInt64) (fun hh_22 => F_X6_digest_L9 n_9 w td (k + 1) hh_22))
def F_X6_digest (w : Nat → Int32) (td : Int32) (ab : Int64) (be : Int64) : Int64 × (Int64) := let2 (F_X6_digest_L9 13 w td 0 1873) (fun k h1_ => let2 (F_X6_digest_L33 7 w 0 h1_) (fun k2 h2_ => let1 (F_X6_mixes w h2_ 23 8) (fun hh_95 => let1 (F_X6_mixes w hh_95 32 (3 * tN (w 31))) (fun hh_110 => let1 (F_X6_mixes w hh_110 51 (4 * tN (w 50))) (fun hh_125 => let1 (F_X6_mix hh_125 ab) (fun hh_133 => let1 (F_X6_mix hh_133 be) (fun hh_141 => (hh_141, hh_141))))))))
set_option maxHeartbeats 4000000 in
set_option maxRecDepth 100000 in
theorem c_X6_digest (l : Launch) (dC : Nat → ClassId) (dI : Nat → Nat → Nat) (q : Nat → Nat) (cI cZ : ClassId) (sz : Nat) (w : Nat → Int32) (kp : Nat → Int32) (tx : Nat → Int32) (td : Int32) (ab : Int64) (be : Int64) (su : Nat → Int32) (po : Int32) (st : Int32) (nu : Int32) (li : Nat → Int32) (fi : Nat → Int32) (ga : Nat → Int32) (hh : Int64) (pB : inB (w 0) 6) (pNo : inB (w 31) 6) (pMa : inB (w 50) 6) : Met l yX6_digest wsX6_digest { frames := 3, cells := 0, slots := 0, locals := 70 } (mPc (dC, dI) vwCl (mT cI cZ) (mW q cI cZ w kp tx td ab be su po st nu li fi ga hh) sz [.ref (q 0)]) (va_Ql (fun (r : Int64) (u : (Int64)) => F_X6_digest w td ab be = (r, u)) (mB (dC, dI) vwCl (mT cI cZ) (va_A (mW q cI cZ w kp tx td ab be su po st nu li fi ga hh) sz) (fun u => mW q cI cZ w kp tx td ab be su po st nu li fi ga u)) (va_A (mW q cI cZ w kp tx td ab be su po st nu li fi ga hh) sz)) 0 0 (va_A (mW q cI cZ w kp tx td ab be su po st nu li fi ga hh) sz) := by
  refine Met.ofW (cc := cX6_digest) (maxL := 2) (ret := (some .long)) (by decide) rfl ?_
  intro p e s m args below meth c s₁ B hml hv
  obtain ⟨rfl, hsz, hP, hK, hD0⟩ := hv
  have hx := B.exec
  have hb := B.bytes
  have hr := B.returns
  have hts := atoms_spec (ws := wsX6_digest) B.pre
  have hown : s.vm.findClass RX6 = some m.cls := findClass_of_methodNamed B.named
  have hlocks := B.notSynchronized
  subst hsz
  have hD := hD0.self (sz := s.heap.size)
  generalize hAe : va_A (mW q cI cZ w kp tx td ab be su po st nu li fi ga hh) s.heap.size = A at hD ⊢
  have hA : ∀ q : Nat, s.heap.size ≤ q → A q := fun q h => by rw [← hAe]; exact Or.inr h
  have hS : va_S A s.heap s.heap [] := va_S.rf
  have hin : ∀ w ∈ wsX60, w ∈ wsX6_digest := by decide +kernel
  have lk7 := hts (.fieldLink RX6 7 "PostRoundersModel" "w" "[I") (by decide +kernel)
  have lk20 := hts (.fieldLink RX6 20 "PostRoundersModel" "above" "J") (by decide +kernel)
  have lk24 := hts (.fieldLink RX6 24 "PostRoundersModel" "below" "J") (by decide +kernel)
  have lk264 := hts (.fieldLink RX6 264 "PostRoundersModel" "h0" "J") (by decide +kernel)
  have hl := lv_entry ([.ref (q 0)]) (n := 2) (Nat.le_of_ble_eq_true rfl)
  rw [lg_entry_eq]
  generalize (lg_sl ([.ref (q 0)]) ++ List.replicate (2 - (lg_sl ([.ref (q 0)])).length) Slot.unset).toArray = ls at hl ⊢
  have hl : lv_has ls 2 [(0, .ref (q 0))] := hl
  obtain ⟨OUT, hO⟩ : ∃ z, z = F_X6_digest w td ab be := ⟨_, rfl⟩
  have hF := hO
  unfold F_X6_digest at hF
  have e_pB := tN_eq pB.1
  have b_pB := pB.2
  have e_pNo := tN_eq pNo.1
  have b_pNo := pNo.2
  have e_pMa := tN_eq pMa.1
  have b_pMa := pMa.2
  refine lv_aload_n hx hb dX6_digest_0 rfl (lv_at hl 0 rfl) ?_
  refine lv_ldc2 (v := 1873) hx hb hown (hts (.constantLong RX6 271 1873) (by decide +kernel)) dX6_digest_1 ?_
  refine va_put (D := (dC, dI)) (ci := 6) (v := .long 1873) (ty := .long) (C := RX6) (T := TX6) (N := 14) hx hb hts hin tyX6 tyX6_ok nmX6 hown hK hP hD hS 0 rfl rfl 13 (by decide) lk264 (fun _ h9 => h9) rfl (by decide +kernel) rfl rfl (Nat.le_of_ble_eq_true rfl) dX6_digest_4 (fun H locs hP hD hS => ?_)
  have hP : va_P (dC, dI) vwCl (mW q cI cZ w kp tx td ab be su po st nu li fi ga 1873) H := hP
  have hD : va_D A (mW q cI cZ w kp tx td ab be su po st nu li fi ga 1873) := hD
  refine lv_iconst (v := nI 0) hx hb dX6_digest_7 (by decide) ?_
  refine lv_istore_n (lv' := [(1, .int (nI 0)), (0, .ref (q 0))]) hx hb dX6_digest_8 rfl hl (by decide) rfl (fun ls hl => ?_)
  have L_9 : ∀ (n_9 : Nat) (k : Nat) (h1_ : Int64) (H : Heap) (locs : List Loc), k ≤ 12 → 12 - k < n_9 → va_P (dC, dI) vwCl (mW q cI cZ w kp tx td ab be su po st nu li fi ga h1_) H → va_D A (mW q cI cZ w kp tx td ab be su po st nu li fi ga h1_) → va_S A s.heap H locs → ∀ (ls : Array Slot), lv_has ls 2 [(1, .int (nI k)), (0, .ref (q 0))] → OUT = let2 (F_X6_digest_L9 n_9 w td k h1_) (fun k h1_ => let2 (F_X6_digest_L33 7 w 0 h1_) (fun k2 h2_ => let1 (F_X6_mixes w h2_ 23 8) (fun hh_95 => let1 (F_X6_mixes w hh_95 32 (3 * tN (w 31))) (fun hh_110 => let1 (F_X6_mixes w hh_110 51 (4 * tN (w 50))) (fun hh_125 => let1 (F_X6_mix hh_125 ab) (fun hh_133 => let1 (F_X6_mix hh_133 be) (fun hh_141 => (hh_141, hh_141)))))))) → W p l e (headSpec wsX6_digest { frames := 3, cells := 0, slots := 0, locals := 70 }).room s m ([.ref (q 0)] : List Value).toArray below meth c H locs 0 0 (MQ below (va_Ql (fun (r : Int64) (u : (Int64)) => F_X6_digest w td ab be = (r, u)) (mB (dC, dI) vwCl (mT cI cZ) A (fun u => mW q cI cZ w kp tx td ab be su po st nu li fi ga u)) A) ([.ref (q 0)] : List Value).toArray s 0 0 A) (F0 m 9 ls []) := by
    intro n_9
    induction n_9 with
    | zero => intro k h1_ H locs i0 hmu; exact absurd hmu (Nat.not_lt_zero _)
    | succ n_9 ih_9 =>
      intro k h1_ H locs i0 hmu_9 hP hD hS ls hl hF
      rw [F_X6_digest_L9] at hF
      refine lv_iload_n hx hb dX6_digest_9 rfl (lv_at hl 0 rfl) ?_
      refine lv_bipush (v := nI 12) hx hb dX6_digest_10 (by decide) ?_
      refine qv_icmp_ge (tgt := 31) hx hb dX6_digest_12 (by decide) (by omega) (by omega) (fun c_12 => ?_) (fun c_12 => ?_)
      · rw [if_pos c_12] at hF
        rw [let2_mk (k : Nat) (h1_ : Int64)] at hF
        refine lv_iconst (v := nI 0) hx hb dX6_digest_31 (by decide) ?_
        refine lv_istore_n (lv' := [(1, .int (nI 0)), (0, .ref (q 0))]) hx hb dX6_digest_32 rfl hl (by decide) rfl (fun ls hl => ?_)
        have L_33 : ∀ (n_33 : Nat) (k2 : Nat) (h2_ : Int64) (H : Heap) (locs : List Loc), k2 ≤ tN (w 0) → tN (w 0) - k2 < n_33 → va_P (dC, dI) vwCl (mW q cI cZ w kp tx td ab be su po st nu li fi ga h2_) H → va_D A (mW q cI cZ w kp tx td ab be su po st nu li fi ga h2_) → va_S A s.heap H locs → ∀ (ls : Array Slot), lv_has ls 2 [(1, .int (nI k2)), (0, .ref (q 0))] → OUT = let2 (F_X6_digest_L33 n_33 w k2 h2_) (fun k2 h2_ => let1 (F_X6_mixes w h2_ 23 8) (fun hh_95 => let1 (F_X6_mixes w hh_95 32 (3 * tN (w 31))) (fun hh_110 => let1 (F_X6_mixes w hh_110 51 (4 * tN (w 50))) (fun hh_125 => let1 (F_X6_mix hh_125 ab) (fun hh_133 => let1 (F_X6_mix hh_133 be) (fun hh_141 => (hh_141, hh_141))))))) → W p l e (headSpec wsX6_digest { frames := 3, cells := 0, slots := 0, locals := 70 }).room s m ([.ref (q 0)] : List Value).toArray below meth c H locs 0 0 (MQ below (va_Ql (fun (r : Int64) (u : (Int64)) => F_X6_digest w td ab be = (r, u)) (mB (dC, dI) vwCl (mT cI cZ) A (fun u => mW q cI cZ w kp tx td ab be su po st nu li fi ga u)) A) ([.ref (q 0)] : List Value).toArray s 0 0 A) (F0 m 33 ls []) := by
          intro n_33
          induction n_33 with
          | zero => intro k2 h2_ H locs j0 hmu; exact absurd hmu (Nat.not_lt_zero _)
          | succ n_33 ih_33 =>
            intro k2 h2_ H locs j0 hmu_33 hP hD hS ls hl hF
            rw [F_X6_digest_L33] at hF
            refine lv_iload_n hx hb dX6_digest_33 rfl (lv_at hl 0 rfl) ?_
            refine lv_aload_n hx hb dX6_digest_34 rfl (lv_at hl 1 rfl) ?_
            refine va_get (D := (dC, dI)) (ci := 6) (v := .ref (q 1)) (C := RX6) (T := TX6) (N := 14) hx hb hts hin hown hK hP 0 rfl rfl 0 (by decide) lk7 (fun _ h9 => h9) rfl dX6_digest_35 ?_
            refine lv_iconst (v := nI 0) hx hb dX6_digest_38 (by decide) ?_
            refine qv_ald (v := w 0) hx hb hK hP 1 0 rfl rfl (by omega) (by decide) (rfl) dX6_digest_39 ?_
            refine qv_top (e_pB) ?_
            refine qv_icmp_ge (tgt := 90) hx hb dX6_digest_40 (by decide) (by omega) (by omega) (fun c_40 => ?_) (fun c_40 => ?_)
            · rw [if_pos c_40] at hF
              rw [let2_mk (k2 : Nat) (h2_ : Int64)] at hF
              refine lv_aload_n hx hb dX6_digest_90 rfl (lv_at hl 1 rfl) ?_
              refine lv_bipush (v := nI 23) hx hb dX6_digest_91 (by decide) ?_
              refine lv_bipush (v := nI 8) hx hb dX6_digest_93 (by decide) ?_
              refine qc_Vv (C := RX6) (As := [.int (nI 23), .int (nI 8)]) (rest := []) (ci := 6) (k0 := 0) ⟨hx, hb, hml, hown, hts⟩ (c_X6_mixes l dC dI q cI cZ H.size w kp tx td ab be su po st nu li fi ga h2_ 23 8 (by omega)) (cwV 2 hts gX6_digest_X6_mixes rfl rfl rfl (by decide +kernel) ⟨Nat.le_of_ble_eq_true rfl, Nat.le_of_ble_eq_true rfl⟩) hK hP hD hS hA rfl rfl rfl rfl hl.1 rfl (Nat.le_of_ble_eq_true rfl) dX6_digest_95 ⟨Nat.zero_le _, Nat.zero_le _⟩ (fun u_95 H locs hw_95 hP hD hS => ?_)
              obtain ⟨hh_95, rfl⟩ : ∃ z, z = u_95 := ⟨_, rfl⟩
              have hP : va_P (dC, dI) vwCl (mW q cI cZ w kp tx td ab be su po st nu li fi ga hh_95) H := hP
              have hD : va_D A (mW q cI cZ w kp tx td ab be su po st nu li fi ga hh_95) := hD
              rw [hw_95, let1_mk hh_95] at hF
              refine lv_aload_n hx hb dX6_digest_98 rfl (lv_at hl 1 rfl) ?_
              refine lv_bipush (v := nI 32) hx hb dX6_digest_99 (by decide) ?_
              refine lv_iconst (v := nI 3) hx hb dX6_digest_101 (by decide) ?_
              refine lv_aload_n hx hb dX6_digest_102 rfl (lv_at hl 1 rfl) ?_
              refine va_get (D := (dC, dI)) (ci := 6) (v := .ref (q 1)) (C := RX6) (T := TX6) (N := 14) hx hb hts hin hown hK hP 0 rfl rfl 0 (by decide) lk7 (fun _ h9 => h9) rfl dX6_digest_103 ?_
              refine lv_bipush (v := nI 31) hx hb dX6_digest_106 (by decide) ?_
              refine qv_ald (v := w 31) hx hb hK hP 1 0 rfl rfl (by omega) (by decide) (rfl) dX6_digest_108 ?_
              refine qv_top (e_pNo) ?_
              refine qv_imul hx hb (3 * tN (w 31)) dX6_digest_109 (by omega) ?_
              refine qc_Vv (C := RX6) (As := [.int (nI 32), .int (nI (3 * tN (w 31)))]) (rest := []) (ci := 6) (k0 := 0) ⟨hx, hb, hml, hown, hts⟩ (c_X6_mixes l dC dI q cI cZ H.size w kp tx td ab be su po st nu li fi ga hh_95 32 (3 * tN (w 31)) (by omega)) (cwV 2 hts gX6_digest_X6_mixes rfl rfl rfl (by decide +kernel) ⟨Nat.le_of_ble_eq_true rfl, Nat.le_of_ble_eq_true rfl⟩) hK hP hD hS hA rfl rfl rfl rfl hl.1 rfl (Nat.le_of_ble_eq_true rfl) dX6_digest_110 ⟨Nat.zero_le _, Nat.zero_le _⟩ (fun u_110 H locs hw_110 hP hD hS => ?_)
              obtain ⟨hh_110, rfl⟩ : ∃ z, z = u_110 := ⟨_, rfl⟩
              have hP : va_P (dC, dI) vwCl (mW q cI cZ w kp tx td ab be su po st nu li fi ga hh_110) H := hP
              have hD : va_D A (mW q cI cZ w kp tx td ab be su po st nu li fi ga hh_110) := hD
              rw [hw_110, let1_mk hh_110] at hF
              refine lv_aload_n hx hb dX6_digest_113 rfl (lv_at hl 1 rfl) ?_
              refine lv_bipush (v := nI 51) hx hb dX6_digest_114 (by decide) ?_
              refine lv_iconst (v := nI 4) hx hb dX6_digest_116 (by decide) ?_
              refine lv_aload_n hx hb dX6_digest_117 rfl (lv_at hl 1 rfl) ?_
              refine va_get (D := (dC, dI)) (ci := 6) (v := .ref (q 1)) (C := RX6) (T := TX6) (N := 14) hx hb hts hin hown hK hP 0 rfl rfl 0 (by decide) lk7 (fun _ h9 => h9) rfl dX6_digest_118 ?_
              refine lv_bipush (v := nI 50) hx hb dX6_digest_121 (by decide) ?_
              refine qv_ald (v := w 50) hx hb hK hP 1 0 rfl rfl (by omega) (by decide) (rfl) dX6_digest_123 ?_
              refine qv_top (e_pMa) ?_
              refine qv_imul hx hb (4 * tN (w 50)) dX6_digest_124 (by omega) ?_
              refine qc_Vv (C := RX6) (As := [.int (nI 51), .int (nI (4 * tN (w 50)))]) (rest := []) (ci := 6) (k0 := 0) ⟨hx, hb, hml, hown, hts⟩ (c_X6_mixes l dC dI q cI cZ H.size w kp tx td ab be su po st nu li fi ga hh_110 51 (4 * tN (w 50)) (by omega)) (cwV 2 hts gX6_digest_X6_mixes rfl rfl rfl (by decide +kernel) ⟨Nat.le_of_ble_eq_true rfl, Nat.le_of_ble_eq_true rfl⟩) hK hP hD hS hA rfl rfl rfl rfl hl.1 rfl (Nat.le_of_ble_eq_true rfl) dX6_digest_125 ⟨Nat.zero_le _, Nat.zero_le _⟩ (fun u_125 H locs hw_125 hP hD hS => ?_)
              obtain ⟨hh_125, rfl⟩ : ∃ z, z = u_125 := ⟨_, rfl⟩
              have hP : va_P (dC, dI) vwCl (mW q cI cZ w kp tx td ab be su po st nu li fi ga hh_125) H := hP
              have hD : va_D A (mW q cI cZ w kp tx td ab be su po st nu li fi ga hh_125) := hD
              rw [hw_125, let1_mk hh_125] at hF
              refine lv_aload_n hx hb dX6_digest_128 rfl (lv_at hl 1 rfl) ?_
              refine lv_aload_n hx hb dX6_digest_129 rfl (lv_at hl 1 rfl) ?_
              refine va_get (D := (dC, dI)) (ci := 6) (v := .long ab) (C := RX6) (T := TX6) (N := 14) hx hb hts hin hown hK hP 0 rfl rfl 4 (by decide) lk20 (fun _ h9 => h9) rfl dX6_digest_130 ?_
              refine qc_Vv (C := RX6) (As := [.long ab]) (rest := []) (ci := 6) (k0 := 0) ⟨hx, hb, hml, hown, hts⟩ (c_X6_mix l dC dI q cI cZ H.size w kp tx td ab be su po st nu li fi ga hh_125 ab ) (cwV 1 hts gX6_digest_X6_mix rfl rfl rfl (by decide +kernel) ⟨Nat.le_of_ble_eq_true rfl, Nat.le_of_ble_eq_true rfl⟩) hK hP hD hS hA rfl rfl rfl rfl hl.1 rfl (Nat.le_of_ble_eq_true rfl) dX6_digest_133 ⟨Nat.zero_le _, Nat.zero_le _⟩ (fun u_133 H locs hw_133 hP hD hS => ?_)
              obtain ⟨hh_133, rfl⟩ : ∃ z, z = u_133 := ⟨_, rfl⟩
              have hP : va_P (dC, dI) vwCl (mW q cI cZ w kp tx td ab be su po st nu li fi ga hh_133) H := hP
              have hD : va_D A (mW q cI cZ w kp tx td ab be su po st nu li fi ga hh_133) := hD
              rw [hw_133, let1_mk hh_133] at hF
              refine lv_aload_n hx hb dX6_digest_136 rfl (lv_at hl 1 rfl) ?_
              refine lv_aload_n hx hb dX6_digest_137 rfl (lv_at hl 1 rfl) ?_
              refine va_get (D := (dC, dI)) (ci := 6) (v := .long be) (C := RX6) (T := TX6) (N := 14) hx hb hts hin hown hK hP 0 rfl rfl 5 (by decide) lk24 (fun _ h9 => h9) rfl dX6_digest_138 ?_
              refine qc_Vv (C := RX6) (As := [.long be]) (rest := []) (ci := 6) (k0 := 0) ⟨hx, hb, hml, hown, hts⟩ (c_X6_mix l dC dI q cI cZ H.size w kp tx td ab be su po st nu li fi ga hh_133 be ) (cwV 1 hts gX6_digest_X6_mix rfl rfl rfl (by decide +kernel) ⟨Nat.le_of_ble_eq_true rfl, Nat.le_of_ble_eq_true rfl⟩) hK hP hD hS hA rfl rfl rfl rfl hl.1 rfl (Nat.le_of_ble_eq_true rfl) dX6_digest_141 ⟨Nat.zero_le _, Nat.zero_le _⟩ (fun u_141 H locs hw_141 hP hD hS => ?_)
              obtain ⟨hh_141, rfl⟩ : ∃ z, z = u_141 := ⟨_, rfl⟩
              have hP : va_P (dC, dI) vwCl (mW q cI cZ w kp tx td ab be su po st nu li fi ga hh_141) H := hP
              have hD : va_D A (mW q cI cZ w kp tx td ab be su po st nu li fi ga hh_141) := hD
              rw [hw_141, let1_mk hh_141] at hF
              refine lv_aload_n hx hb dX6_digest_144 rfl (lv_at hl 1 rfl) ?_
              refine va_get (D := (dC, dI)) (ci := 6) (v := .long hh_141) (C := RX6) (T := TX6) (N := 14) hx hb hts hin hown hK hP 0 rfl rfl 13 (by decide) lk264 (fun _ h9 => h9) rfl dX6_digest_145 ?_
              have hP9 : va_P (dC, dI) vwCl (mW q cI cZ w kp tx td ab be su po st nu li fi ga hh_141) H := hP
              exact W.lret (v := hh_141) hx hb hr (fun t ht hW => ⟨⟨_, (hh_141), rfl, hO.symm.trans hF, by rw [ht]; exact hP9, va_K.moved hW.alike hK, hD⟩, hS.F ht⟩) hS.2.2 dX6_digest_148
            · rw [if_neg c_40] at hF
              refine lv_aload_n hx hb dX6_digest_43 rfl (lv_at hl 1 rfl) ?_
              refine lv_aload_n hx hb dX6_digest_44 rfl (lv_at hl 1 rfl) ?_
              refine va_get (D := (dC, dI)) (ci := 6) (v := .ref (q 1)) (C := RX6) (T := TX6) (N := 14) hx hb hts hin hown hK hP 0 rfl rfl 0 (by decide) lk7 (fun _ h9 => h9) rfl dX6_digest_45 ?_
              refine lv_iconst (v := nI 5) hx hb dX6_digest_48 (by decide) ?_
              refine lv_iload_n hx hb dX6_digest_49 rfl (lv_at hl 0 rfl) ?_
              refine qv_iadd hx hb (k2 + 5) dX6_digest_50 (by omega) ?_
              refine qv_ald (v := w (k2 + 5)) hx hb hK hP 1 0 rfl rfl (by omega) (by decide) (rfl) dX6_digest_51 ?_
              refine lv_i2l hx hb dX6_digest_52 rfl ?_
              refine qc_Vv (C := RX6) (As := [.long ((w (k2 + 5)).toInt64)]) (rest := []) (ci := 6) (k0 := 0) ⟨hx, hb, hml, hown, hts⟩ (c_X6_mix l dC dI q cI cZ H.size w kp tx td ab be su po st nu li fi ga h2_ ((w (k2 + 5)).toInt64) ) (cwV 1 hts gX6_digest_X6_mix rfl rfl rfl (by decide +kernel) ⟨Nat.le_of_ble_eq_true rfl, Nat.le_of_ble_eq_true rfl⟩) hK hP hD hS hA rfl rfl rfl rfl hl.1 rfl (Nat.le_of_ble_eq_true rfl) dX6_digest_53 ⟨Nat.zero_le _, Nat.zero_le _⟩ (fun u_53 H locs hw_53 hP hD hS => ?_)
              obtain ⟨hh_53, rfl⟩ : ∃ z, z = u_53 := ⟨_, rfl⟩
              have hP : va_P (dC, dI) vwCl (mW q cI cZ w kp tx td ab be su po st nu li fi ga hh_53) H := hP
              have hD : va_D A (mW q cI cZ w kp tx td ab be su po st nu li fi ga hh_53) := hD
              rw [hw_53, let1_mk hh_53] at hF
              refine lv_aload_n hx hb dX6_digest_56 rfl (lv_at hl 1 rfl) ?_
              refine lv_aload_n hx hb dX6_digest_57 rfl (lv_at hl 1 rfl) ?_
              refine va_get (D := (dC, dI)) (ci := 6) (v := .ref (q 1)) (C := RX6) (T := TX6) (N := 14) hx hb hts hin hown hK hP 0 rfl rfl 0 (by decide) lk7 (fun _ h9 => h9) rfl dX6_digest_58 ?_
              refine lv_bipush (v := nI 11) hx hb dX6_digest_61 (by decide) ?_
              refine lv_iload_n hx hb dX6_digest_63 rfl (lv_at hl 0 rfl) ?_
              refine qv_iadd hx hb (k2 + 11) dX6_digest_64 (by omega) ?_
              refine qv_ald (v := w (k2 + 11)) hx hb hK hP 1 0 rfl rfl (by omega) (by decide) (rfl) dX6_digest_65 ?_
              refine lv_i2l hx hb dX6_digest_66 rfl ?_
              refine qc_Vv (C := RX6) (As := [.long ((w (k2 + 11)).toInt64)]) (rest := []) (ci := 6) (k0 := 0) ⟨hx, hb, hml, hown, hts⟩ (c_X6_mix l dC dI q cI cZ H.size w kp tx td ab be su po st nu li fi ga hh_53 ((w (k2 + 11)).toInt64) ) (cwV 1 hts gX6_digest_X6_mix rfl rfl rfl (by decide +kernel) ⟨Nat.le_of_ble_eq_true rfl, Nat.le_of_ble_eq_true rfl⟩) hK hP hD hS hA rfl rfl rfl rfl hl.1 rfl (Nat.le_of_ble_eq_true rfl) dX6_digest_67 ⟨Nat.zero_le _, Nat.zero_le _⟩ (fun u_67 H locs hw_67 hP hD hS => ?_)
              obtain ⟨hh_67, rfl⟩ : ∃ z, z = u_67 := ⟨_, rfl⟩
              have hP : va_P (dC, dI) vwCl (mW q cI cZ w kp tx td ab be su po st nu li fi ga hh_67) H := hP
              have hD : va_D A (mW q cI cZ w kp tx td ab be su po st nu li fi ga hh_67) := hD
              rw [hw_67, let1_mk hh_67] at hF
              refine lv_aload_n hx hb dX6_digest_70 rfl (lv_at hl 1 rfl) ?_
              refine lv_aload_n hx hb dX6_digest_71 rfl (lv_at hl 1 rfl) ?_
              refine va_get (D := (dC, dI)) (ci := 6) (v := .ref (q 1)) (C := RX6) (T := TX6) (N := 14) hx hb hts hin hown hK hP 0 rfl rfl 0 (by decide) lk7 (fun _ h9 => h9) rfl dX6_digest_72 ?_
              refine lv_bipush (v := nI 17) hx hb dX6_digest_75 (by decide) ?_
              refine lv_iload_n hx hb dX6_digest_77 rfl (lv_at hl 0 rfl) ?_
              refine qv_iadd hx hb (k2 + 17) dX6_digest_78 (by omega) ?_
              refine qv_ald (v := w (k2 + 17)) hx hb hK hP 1 0 rfl rfl (by omega) (by decide) (rfl) dX6_digest_79 ?_
              refine lv_i2l hx hb dX6_digest_80 rfl ?_
              refine qc_Vv (C := RX6) (As := [.long ((w (k2 + 17)).toInt64)]) (rest := []) (ci := 6) (k0 := 0) ⟨hx, hb, hml, hown, hts⟩ (c_X6_mix l dC dI q cI cZ H.size w kp tx td ab be su po st nu li fi ga hh_67 ((w (k2 + 17)).toInt64) ) (cwV 1 hts gX6_digest_X6_mix rfl rfl rfl (by decide +kernel) ⟨Nat.le_of_ble_eq_true rfl, Nat.le_of_ble_eq_true rfl⟩) hK hP hD hS hA rfl rfl rfl rfl hl.1 rfl (Nat.le_of_ble_eq_true rfl) dX6_digest_81 ⟨Nat.zero_le _, Nat.zero_le _⟩ (fun u_81 H locs hw_81 hP hD hS => ?_)
              obtain ⟨hh_81, rfl⟩ : ∃ z, z = u_81 := ⟨_, rfl⟩
              have hP : va_P (dC, dI) vwCl (mW q cI cZ w kp tx td ab be su po st nu li fi ga hh_81) H := hP
              have hD : va_D A (mW q cI cZ w kp tx td ab be su po st nu li fi ga hh_81) := hD
              rw [hw_81, let1_mk hh_81] at hF
              refine lv_iinc (v := nI (k2 + 1)) (lv' := [(1, .int (nI (k2 + 1))), (0, .ref (q 0))]) hx hb dX6_digest_84 hl (k := 0) rfl (qn_inc (c := 1) rfl (by omega)) (by decide) rfl (fun ls hl => ?_)
              refine lv_goto (tgt := 33) hx hb dX6_digest_87 (by decide) ?_
              exact ih_33 (k2 + 1) hh_81 H locs (by omega) (by omega) hP hD hS ls (lv_sub hl [0, 1] rfl) hF
        exact L_33 7 0 h1_ H locs (by omega) (by omega) hP hD hS ls (lv_sub hl [0, 1] rfl) hF
      · rw [if_neg c_12] at hF
        refine lv_aload_n hx hb dX6_digest_15 rfl (lv_at hl 1 rfl) ?_
        refine lv_aload_n hx hb dX6_digest_16 rfl (lv_at hl 1 rfl) ?_
        refine lv_iload_n hx hb dX6_digest_17 rfl (lv_at hl 0 rfl) ?_
        refine qc_Vi (C := RX6) (As := [.int (nI k)]) (rest := [.ref (q 0)]) (ci := 6) (k0 := 0) ⟨hx, hb, hml, hown, hts⟩ (c_X6_countOf l dC dI q cI cZ H.size w kp tx td ab be su po st nu li fi ga h1_ (nI k) (pB : inB (w 0) 6)) (cwV 1 hts gX6_digest_X6_countOf rfl rfl rfl (by decide +kernel) ⟨Nat.le_of_ble_eq_true rfl, Nat.le_of_ble_eq_true rfl⟩) hK hP hD hS hA rfl rfl rfl rfl hl.1 rfl (Nat.le_of_ble_eq_true rfl) dX6_digest_18 ⟨Nat.zero_le _, Nat.zero_le _⟩ (fun r_18 u_18 H locs hw_18 hP hD hS => ?_)
        rw [hw_18, let1_mk r_18] at hF
        refine lv_i2l hx hb dX6_digest_21 rfl ?_
        refine qc_Vv (C := RX6) (As := [.long r_18.toInt64]) (rest := []) (ci := 6) (k0 := 0) ⟨hx, hb, hml, hown, hts⟩ (c_X6_mix l dC dI q cI cZ H.size w kp tx td ab be su po st nu li fi ga h1_ r_18.toInt64 ) (cwV 1 hts gX6_digest_X6_mix rfl rfl rfl (by decide +kernel) ⟨Nat.le_of_ble_eq_true rfl, Nat.le_of_ble_eq_true rfl⟩) hK hP hD hS hA rfl rfl rfl rfl hl.1 rfl (Nat.le_of_ble_eq_true rfl) dX6_digest_22 ⟨Nat.zero_le _, Nat.zero_le _⟩ (fun u_22 H locs hw_22 hP hD hS => ?_)
        obtain ⟨hh_22, rfl⟩ : ∃ z, z = u_22 := ⟨_, rfl⟩
        have hP : va_P (dC, dI) vwCl (mW q cI cZ w kp tx td ab be su po st nu li fi ga hh_22) H := hP
        have hD : va_D A (mW q cI cZ w kp tx td ab be su po st nu li fi ga hh_22) := hD
        rw [hw_22, let1_mk hh_22] at hF
        refine lv_iinc (v := nI (k + 1)) (lv' := [(1, .int (nI (k + 1))), (0, .ref (q 0))]) hx hb dX6_digest_25 hl (k := 0) rfl (qn_inc (c := 1) rfl (by omega)) (by decide) rfl (fun ls hl => ?_)
        refine lv_goto (tgt := 9) hx hb dX6_digest_28 (by decide) ?_
        exact ih_9 (k + 1) hh_22 H locs (by omega) (by omega) hP hD hS ls (lv_sub hl [0, 1] rfl) hF
  exact L_9 13 0 1873 H locs (by omega) (by omega) hP hD hS ls (lv_sub hl [0, 1] rfl) hF
