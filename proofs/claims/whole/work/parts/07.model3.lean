section QLONG
variable {p : Program} {l : Launch} {e : Env} {R : Room} {s : State} {m : MethodId} {args : Array Value} {below : List Frame} {meth : Method} {c : Code} {H : Heap} {locs : List Loc} {cells slots : Nat} {Q : State → Prop}
variable {cc : ByteArray} {pc : Nat} {ls : Array Slot} {rest : List Value}
theorem qv_ldiv (hexec : p.tables.exec = Jvm.exec) (hb : c.code = cc) {x y : Nat} (hdg : decode cc pc = .ok (.ldiv, 1)) (hx : x < 2 ^ 63) (h0 : 0 < y) (hy : y < 2 ^ 63) (k : W p l e R s m args below meth c H locs cells slots Q (F0 m (pc + 1) ls (.long (lN (x / y)) :: rest))) : W p l e R s m args below meth c H locs cells slots Q (F0 m pc ls (.long (lN y) :: .long (lN x) :: rest)) :=
  lv_ldiv hexec hb hdg (fun h => by rw [show (0 : Int64) = lN 0 from rfl, pk_lEQ hy (by decide)] at h; omega) (by rw [pk_lDiv hx h0 hy]; exact k)
theorem qv_lrem (hexec : p.tables.exec = Jvm.exec) (hb : c.code = cc) {x y : Nat} (hdg : decode cc pc = .ok (.lrem, 1)) (hx : x < 2 ^ 63) (h0 : 0 < y) (hy : y < 2 ^ 63) (k : W p l e R s m args below meth c H locs cells slots Q (F0 m (pc + 1) ls (.long (lN (x % y)) :: rest))) : W p l e R s m args below meth c H locs cells slots Q (F0 m pc ls (.long (lN y) :: .long (lN x) :: rest)) :=
  lv_lrem hexec hb hdg (fun h => by rw [show (0 : Int64) = lN 0 from rfl, pk_lEQ hy (by decide)] at h; omega) (by rw [pk_lRem hx h0 hy]; exact k)
theorem lg_eq0 {x : Nat} (hx : x < 2 ^ 63) : lg_cmp (lN x) 0 = 0 ↔ x = 0 := by
  have h : lN x = 0 ↔ x = 0 := by rw [show (0 : Int64) = lN 0 from rfl]; exact pk_lEQ hx (by decide)
  unfold lg_cmp
  by_cases a : (0 : Int64) < lN x
  · rw [if_pos a]
    exact ⟨fun q => absurd q (by decide), fun q => by rw [q] at a; exact absurd a (by decide)⟩
  · rw [if_neg a]
    by_cases b : lN x = 0
    · rw [if_pos b]; exact ⟨fun _ => h.mp b, fun _ => rfl⟩
    · rw [if_neg b]; exact ⟨fun q => absurd q (by decide), fun q => absurd (h.mpr q) b⟩
theorem qv_lif_eq (hexec : p.tables.exec = Jvm.exec) (hb : c.code = cc) {x : Nat} {off : Int} {tgt : Nat} (hdg : decode cc pc = .ok (.ifCond .eq off, 3)) (ht : (pc : Int) + off = (tgt : Int)) (hx : x < 2 ^ 63)
    (kt : x = 0 → W p l e R s m args below meth c H locs cells slots Q (F0 m tgt ls rest)) (kf : ¬ x = 0 → W p l e R s m args below meth c H locs cells slots Q (F0 m (pc + 3) ls rest)) : W p l e R s m args below meth c H locs cells slots Q (F0 m pc ls (.int (lg_cmp (lN x) 0) :: rest)) :=
  lv_if_eq hexec hb hdg ht (fun h => kt ((lg_eq0 hx).mp h)) (fun h => kf (fun g => h ((lg_eq0 hx).mpr g)))
end QLONG
def F_X6_score (w : Nat → Int32) (su : Nat → Int32) (n : Int32) : Int32 × (Nat → Int32) × (Nat → Int32) := if (F_X6_in n.toInt64 0 8) = true then let1 (F_X6_tries w) (fun w_20 => let2 (F_X6_scoreTried w_20 (tN n)) (fun r_25 w_25 => (r_25, w_25, su))) else let2 (F_X6_bad su ((-2))) (fun r_15 su_15 => (r_15, w, su_15))
set_option maxHeartbeats 4000000 in
set_option maxRecDepth 100000 in
theorem c_X6_score (l : Launch) (dC : Nat → ClassId) (dI : Nat → Nat → Nat) (q : Nat → Nat) (cI cZ : ClassId) (sz : Nat) (w : Nat → Int32) (kp : Nat → Int32) (tx : Nat → Int32) (td : Int32) (ab : Int64) (be : Int64) (su : Nat → Int32) (po : Int32) (st : Int32) (nu : Int32) (li : Nat → Int32) (fi : Nat → Int32) (ga : Nat → Int32) (hh : Int64) (n : Int32) (pB : inB (w 0) 6) (pN : okN (w 2)) : Met l yX6_score wsX6_score { frames := 7, cells := 0, slots := 0, locals := 160 } (mPc (dC, dI) vwCl (mT cI cZ) (mW q cI cZ w kp tx td ab be su po st nu li fi ga hh) sz [.ref (q 0), .int n]) (va_Qi (fun (r : Int32) (u : (Nat → Int32) × (Nat → Int32)) => F_X6_score w su n = (r, u)) (mB (dC, dI) vwCl (mT cI cZ) (va_A (mW q cI cZ w kp tx td ab be su po st nu li fi ga hh) sz) (fun u => mW q cI cZ u.1 kp tx td ab be u.2 po st nu li fi ga hh)) (va_A (mW q cI cZ w kp tx td ab be su po st nu li fi ga hh) sz)) 0 0 (va_A (mW q cI cZ w kp tx td ab be su po st nu li fi ga hh) sz) := by
  refine Met.ofW (cc := cX6_score) (maxL := 2) (ret := (some .int)) (by decide) rfl ?_
  intro p e s m args below meth c s₁ B hml hv
  obtain ⟨rfl, hsz, hP, hK, hD0⟩ := hv
  have hx := B.exec
  have hb := B.bytes
  have hr := B.returns
  have hts := atoms_spec (ws := wsX6_score) B.pre
  have hown : s.vm.findClass RX6 = some m.cls := findClass_of_methodNamed B.named
  have hlocks := B.notSynchronized
  subst hsz
  have hD := hD0.self (sz := s.heap.size)
  generalize hAe : va_A (mW q cI cZ w kp tx td ab be su po st nu li fi ga hh) s.heap.size = A at hD ⊢
  have hA : ∀ q : Nat, s.heap.size ≤ q → A q := fun q h => by rw [← hAe]; exact Or.inr h
  have hS : va_S A s.heap s.heap [] := va_S.rf
  have hl := lv_entry ([.ref (q 0), .int n]) (n := 2) (Nat.le_of_ble_eq_true rfl)
  rw [lg_entry_eq]
  generalize (lg_sl ([.ref (q 0), .int n]) ++ List.replicate (2 - (lg_sl ([.ref (q 0), .int n])).length) Slot.unset).toArray = ls at hl ⊢
  have hl : lv_has ls 2 [(0, .ref (q 0)), (1, .int n)] := hl
  obtain ⟨OUT, hO⟩ : ∃ z, z = F_X6_score w su n := ⟨_, rfl⟩
  have hF := hO
  unfold F_X6_score at hF
  have e_pB := tN_eq pB.1
  have b_pB := pB.2
  refine lv_iload_n hx hb dX6_score_0 rfl (lv_at hl 1 rfl) ?_
  refine lv_i2l hx hb dX6_score_1 rfl ?_
  refine lv_lconst (v := 0) hx hb dX6_score_2 (by decide) ?_
  refine lv_ldc2 (v := 8) hx hb hown (hts (.constantLong RX6 191 8) (by decide +kernel)) dX6_score_3 ?_
  refine qc_Si (As := [.long n.toInt64, .long 0, .long 8]) (rest := []) ⟨hx, hb, hml, hown, hts⟩ (c_X6_in l n.toInt64 0 8) (va_cwS 3 hts gX6_score_X6_in rfl rfl rfl (by decide +kernel) ⟨Nat.le_of_ble_eq_true rfl, Nat.le_of_ble_eq_true rfl⟩) rfl hl.1 rfl (Nat.le_of_ble_eq_true rfl) dX6_score_6 ⟨Nat.zero_le _, Nat.zero_le _⟩ (fun r_6 hw_6 => ?_)
  subst hw_6
  refine qv_zif_ne (tgt := 19) hx hb dX6_score_9 (by decide) (fun c_9 => ?_) (fun c_9 => ?_)
  · rw [if_pos c_9] at hF
    obtain ⟨f_n, fa_n, fb_n⟩ := in_nat (lo := 0) (hi := 8) rfl rfl (by decide) (by decide) c_9
    have e_n := tN_eq f_n
    refine lv_aload_n hx hb dX6_score_19 rfl (lv_at hl 0 rfl) ?_
    refine qc_Vv (C := RX6) (As := []) (rest := []) (ci := 6) (k0 := 0) ⟨hx, hb, hml, hown, hts⟩ (c_X6_tries l dC dI q cI cZ s.heap.size w kp tx td ab be su po st nu li fi ga hh  ) (cwV 0 hts gX6_score_X6_tries rfl rfl rfl (by decide +kernel) ⟨Nat.le_of_ble_eq_true rfl, Nat.le_of_ble_eq_true rfl⟩) hK hP hD hS hA rfl rfl rfl rfl hl.1 rfl (Nat.le_of_ble_eq_true rfl) dX6_score_20 ⟨Nat.zero_le _, Nat.zero_le _⟩ (fun u_20 H locs hw_20 hP hD hS => ?_)
    obtain ⟨w_20, rfl⟩ : ∃ z, z = u_20 := ⟨_, rfl⟩
    have hP : va_P (dC, dI) vwCl (mW q cI cZ w_20 kp tx td ab be su po st nu li fi ga hh) H := hP
    have hD : va_D A (mW q cI cZ w_20 kp tx td ab be su po st nu li fi ga hh) := hD
    have t0_20 : w_20 592 = w 0 := tries_to hw_20 (k := 0) (by decide)
    have t2_20 : w_20 594 = w 2 := tries_to hw_20 (k := 2) (by decide)
    have u0_20 : w_20 0 = w 0 := tries_keep hw_20 0 (by decide)
    have u2_20 : w_20 2 = w 2 := tries_keep hw_20 2 (by decide)
    rw [hw_20, let1_mk w_20] at hF
    refine lv_aload_n hx hb dX6_score_23 rfl (lv_at hl 0 rfl) ?_
    refine lv_iload_n hx hb dX6_score_24 rfl (lv_at hl 1 rfl) ?_
    refine qv_top (e_n) ?_
    refine qc_Vi (C := RX6) (As := [.int (nI (tN n))]) (rest := []) (ci := 6) (k0 := 0) ⟨hx, hb, hml, hown, hts⟩ (c_X6_scoreTried l dC dI q cI cZ H.size w_20 kp tx td ab be su po st nu li fi ga hh (tN n) (by omega) (by rw [show w_20 592 = w 0 from t0_20]; exact (pB : inB (w 0) 6)) (by rw [show w_20 594 = w 2 from t2_20]; exact (pN : okN (w 2)))) (cwV 1 hts gX6_score_X6_scoreTried rfl rfl rfl (by decide +kernel) ⟨Nat.le_of_ble_eq_true rfl, Nat.le_of_ble_eq_true rfl⟩) hK hP hD hS hA rfl rfl rfl rfl hl.1 rfl (Nat.le_of_ble_eq_true rfl) dX6_score_25 ⟨Nat.zero_le _, Nat.zero_le _⟩ (fun r_25 u_25 H locs hw_25 hP hD hS => ?_)
    obtain ⟨w_25, rfl⟩ : ∃ z, z = u_25 := ⟨_, rfl⟩
    have hP : va_P (dC, dI) vwCl (mW q cI cZ w_25 kp tx td ab be su po st nu li fi ga hh) H := hP
    have hD : va_D A (mW q cI cZ w_25 kp tx td ab be su po st nu li fi ga hh) := hD
    rw [hw_25, let2_mk r_25 w_25] at hF
    have hP9 : va_P (dC, dI) vwCl (mW q cI cZ w_25 kp tx td ab be su po st nu li fi ga hh) H := hP
    exact W.iret (v := r_25) hx hb hr (fun t ht hW => ⟨⟨_, ((w_25, su)), rfl, hO.symm.trans hF, by rw [ht]; exact hP9, va_K.moved hW.alike hK, hD⟩, hS.F ht⟩) hS.2.2 dX6_score_28
  · rw [if_neg c_9] at hF
    refine lv_aload_n hx hb dX6_score_12 rfl (lv_at hl 0 rfl) ?_
    refine lv_bipush (v := (-2)) hx hb dX6_score_13 (by decide) ?_
    refine qc_Vi (C := RX6) (As := [.int ((-2))]) (rest := []) (ci := 6) (k0 := 0) ⟨hx, hb, hml, hown, hts⟩ (c_X6_bad l dC dI q cI cZ s.heap.size w kp tx td ab be su po st nu li fi ga hh ((-2)) ) (cwV 1 hts gX6_score_X6_bad rfl rfl rfl (by decide +kernel) ⟨Nat.le_of_ble_eq_true rfl, Nat.le_of_ble_eq_true rfl⟩) hK hP hD hS hA rfl rfl rfl rfl hl.1 rfl (Nat.le_of_ble_eq_true rfl) dX6_score_15 ⟨Nat.zero_le _, Nat.zero_le _⟩ (fun r_15 u_15 H locs hw_15 hP hD hS => ?_)
    obtain ⟨su_15, rfl⟩ : ∃ z, z = u_15 := ⟨_, rfl⟩
    have hP : va_P (dC, dI) vwCl (mW q cI cZ w kp tx td ab be su_15 po st nu li fi ga hh) H := hP
    have hD : va_D A (mW q cI cZ w kp tx td ab be su_15 po st nu li fi ga hh) := hD
    rw [hw_15, let2_mk r_15 su_15] at hF
    have hP9 : va_P (dC, dI) vwCl (mW q cI cZ w kp tx td ab be su_15 po st nu li fi ga hh) H := hP
    exact W.iret (v := r_15) hx hb hr (fun t ht hW => ⟨⟨_, ((w, su_15)), rfl, hO.symm.trans hF, by rw [ht]; exact hP9, va_K.moved hW.alike hK, hD⟩, hS.F ht⟩) hS.2.2 dX6_score_18
def F_X6_against_L38 : Nat → (Int32) → (Nat) → (Nat) → (Int32) → (Nat → Int32) → (Nat) × (Nat) × (Int32) × (Nat → Int32)
  | 0, _, kd, bs, lst, w1 => (kd, bs, lst, w1)
  | n_38 + 1, n, kd, bs, lst, w1 => if 5 < kd then (kd, bs, lst, w1) else let1 (F_X6_tries w1) (fun w_45 => let2 (F_X6_scoreTried (upd w_45 593 (nI kd)) (tN n)) (fun r_60 w_60 => if lst ≤ (nI (tN r_60)) then F_X6_against_L38 n_38 n (kd + 1) bs lst w_60 else F_X6_against_L38 n_38 n (kd + 1) kd (nI (tN r_60)) w_60))
def F_X6_against (w : Nat → Int32) (su : Nat → Int32) (n : Int32) (wh : Int32) : Int32 × (Nat → Int32) × (Nat → Int32) := if (F_X6_in n.toInt64 1 8) = true then (if (F_X6_in wh.toInt64 0 1) = true then let4 (F_X6_against_L38 7 n 0 0 1000000 w) (fun kd bs lst w1 => if tN wh = 0 then (nI bs, w1, su) else (lst, w1, su)) else let2 (F_X6_bad su ((-2))) (fun r_25 su_25 => (r_25, w, su_25))) else let2 (F_X6_bad su ((-2))) (fun r_25 su_25 => (r_25, w, su_25))
set_option maxHeartbeats 4000000 in
set_option maxRecDepth 100000 in
theorem c_X6_against (l : Launch) (dC : Nat → ClassId) (dI : Nat → Nat → Nat) (q : Nat → Nat) (cI cZ : ClassId) (sz : Nat) (w : Nat → Int32) (kp : Nat → Int32) (tx : Nat → Int32) (td : Int32) (ab : Int64) (be : Int64) (su : Nat → Int32) (po : Int32) (st : Int32) (nu : Int32) (li : Nat → Int32) (fi : Nat → Int32) (ga : Nat → Int32) (hh : Int64) (n : Int32) (wh : Int32) (pB : inB (w 0) 6) (pN : okN (w 2)) : Met l yX6_against wsX6_against { frames := 7, cells := 0, slots := 0, locals := 160 } (mPc (dC, dI) vwCl (mT cI cZ) (mW q cI cZ w kp tx td ab be su po st nu li fi ga hh) sz [.ref (q 0), .int n, .int wh]) (va_Qi (fun (r : Int32) (u : (Nat → Int32) × (Nat → Int32)) => F_X6_against w su n wh = (r, u)) (mB (dC, dI) vwCl (mT cI cZ) (va_A (mW q cI cZ w kp tx td ab be su po st nu li fi ga hh) sz) (fun u => mW q cI cZ u.1 kp tx td ab be u.2 po st nu li fi ga hh)) (va_A (mW q cI cZ w kp tx td ab be su po st nu li fi ga hh) sz)) 0 0 (va_A (mW q cI cZ w kp tx td ab be su po st nu li fi ga hh) sz) := by
  refine Met.ofW (cc := cX6_against) (maxL := 7) (ret := (some .int)) (by decide) rfl ?_
  intro p e s m args below meth c s₁ B hml hv
  obtain ⟨rfl, hsz, hP, hK, hD0⟩ := hv
  have hx := B.exec
  have hb := B.bytes
  have hr := B.returns
  have hts := atoms_spec (ws := wsX6_against) B.pre
  have hown : s.vm.findClass RX6 = some m.cls := findClass_of_methodNamed B.named
  have hlocks := B.notSynchronized
  subst hsz
  have hD := hD0.self (sz := s.heap.size)
  generalize hAe : va_A (mW q cI cZ w kp tx td ab be su po st nu li fi ga hh) s.heap.size = A at hD ⊢
  have hA : ∀ q : Nat, s.heap.size ≤ q → A q := fun q h => by rw [← hAe]; exact Or.inr h
  have hS : va_S A s.heap s.heap [] := va_S.rf
  have hin : ∀ w ∈ wsX60, w ∈ wsX6_against := by decide +kernel
  have lk7 := hts (.fieldLink RX6 7 "PostRoundersModel" "w" "[I") (by decide +kernel)
  have hl := lv_entry ([.ref (q 0), .int n, .int wh]) (n := 7) (Nat.le_of_ble_eq_true rfl)
  rw [lg_entry_eq]
  generalize (lg_sl ([.ref (q 0), .int n, .int wh]) ++ List.replicate (7 - (lg_sl ([.ref (q 0), .int n, .int wh])).length) Slot.unset).toArray = ls at hl ⊢
  have hl : lv_has ls 7 [(0, .ref (q 0)), (1, .int n), (2, .int wh)] := hl
  obtain ⟨OUT, hO⟩ : ∃ z, z = F_X6_against w su n wh := ⟨_, rfl⟩
  have hF := hO
  unfold F_X6_against at hF
  have e_pB := tN_eq pB.1
  have b_pB := pB.2
  refine lv_iload_n hx hb dX6_against_0 rfl (lv_at hl 1 rfl) ?_
  refine lv_i2l hx hb dX6_against_1 rfl ?_
  refine lv_lconst (v := 1) hx hb dX6_against_2 (by decide) ?_
  refine lv_ldc2 (v := 8) hx hb hown (hts (.constantLong RX6 191 8) (by decide +kernel)) dX6_against_3 ?_
  refine qc_Si (As := [.long n.toInt64, .long 1, .long 8]) (rest := []) ⟨hx, hb, hml, hown, hts⟩ (c_X6_in l n.toInt64 1 8) (va_cwS 3 hts gX6_against_X6_in rfl rfl rfl (by decide +kernel) ⟨Nat.le_of_ble_eq_true rfl, Nat.le_of_ble_eq_true rfl⟩) rfl hl.1 rfl (Nat.le_of_ble_eq_true rfl) dX6_against_6 ⟨Nat.zero_le _, Nat.zero_le _⟩ (fun r_6 hw_6 => ?_)
  subst hw_6
  refine qv_zif_eq (tgt := 22) hx hb dX6_against_9 (by decide) (fun c_9 => ?_) (fun c_9 => ?_)
  · rw [if_neg c_9] at hF
    refine lv_aload_n hx hb dX6_against_22 rfl (lv_at hl 0 rfl) ?_
    refine lv_bipush (v := (-2)) hx hb dX6_against_23 (by decide) ?_
    refine qc_Vi (C := RX6) (As := [.int ((-2))]) (rest := []) (ci := 6) (k0 := 0) ⟨hx, hb, hml, hown, hts⟩ (c_X6_bad l dC dI q cI cZ s.heap.size w kp tx td ab be su po st nu li fi ga hh ((-2)) ) (cwV 1 hts gX6_against_X6_bad rfl rfl rfl (by decide +kernel) ⟨Nat.le_of_ble_eq_true rfl, Nat.le_of_ble_eq_true rfl⟩) hK hP hD hS hA rfl rfl rfl rfl hl.1 rfl (Nat.le_of_ble_eq_true rfl) dX6_against_25 ⟨Nat.zero_le _, Nat.zero_le _⟩ (fun r_25 u_25 H locs hw_25 hP hD hS => ?_)
    obtain ⟨su_25, rfl⟩ : ∃ z, z = u_25 := ⟨_, rfl⟩
    have hP : va_P (dC, dI) vwCl (mW q cI cZ w kp tx td ab be su_25 po st nu li fi ga hh) H := hP
    have hD : va_D A (mW q cI cZ w kp tx td ab be su_25 po st nu li fi ga hh) := hD
    rw [hw_25, let2_mk r_25 su_25] at hF
    have hP9 : va_P (dC, dI) vwCl (mW q cI cZ w kp tx td ab be su_25 po st nu li fi ga hh) H := hP
    exact W.iret (v := r_25) hx hb hr (fun t ht hW => ⟨⟨_, ((w, su_25)), rfl, hO.symm.trans hF, by rw [ht]; exact hP9, va_K.moved hW.alike hK, hD⟩, hS.F ht⟩) hS.2.2 dX6_against_28
  · rw [if_pos c_9] at hF
    obtain ⟨f_n, fa_n, fb_n⟩ := in_nat (lo := 1) (hi := 8) rfl rfl (by decide) (by decide) c_9
    have e_n := tN_eq f_n
    refine lv_iload_n hx hb dX6_against_12 rfl (lv_at hl 2 rfl) ?_
    refine lv_i2l hx hb dX6_against_13 rfl ?_
    refine lv_lconst (v := 0) hx hb dX6_against_14 (by decide) ?_
    refine lv_lconst (v := 1) hx hb dX6_against_15 (by decide) ?_
    refine qc_Si (As := [.long wh.toInt64, .long 0, .long 1]) (rest := []) ⟨hx, hb, hml, hown, hts⟩ (c_X6_in l wh.toInt64 0 1) (va_cwS 3 hts gX6_against_X6_in rfl rfl rfl (by decide +kernel) ⟨Nat.le_of_ble_eq_true rfl, Nat.le_of_ble_eq_true rfl⟩) rfl hl.1 rfl (Nat.le_of_ble_eq_true rfl) dX6_against_16 ⟨Nat.zero_le _, Nat.zero_le _⟩ (fun r_16 hw_16 => ?_)
    subst hw_16
    refine qv_zif_ne (tgt := 29) hx hb dX6_against_19 (by decide) (fun c_19 => ?_) (fun c_19 => ?_)
    · rw [if_pos c_19] at hF
      obtain ⟨f_wh, fa_wh, fb_wh⟩ := in_nat (lo := 0) (hi := 1) rfl rfl (by decide) (by decide) c_19
      have e_wh := tN_eq f_wh
      refine lv_iconst (v := nI 0) hx hb dX6_against_29 (by decide) ?_
      refine lv_istore_n (lv' := [(3, .int (nI 0)), (0, .ref (q 0)), (1, .int n), (2, .int wh)]) hx hb dX6_against_30 rfl hl (by decide) rfl (fun ls hl => ?_)
      refine lv_ldc (v := 1000000) hx hb hown (hts (.constant RX6 208 1000000) (by decide +kernel)) dX6_against_31 ?_
      refine lv_istore (lv' := [(4, .int 1000000), (3, .int (nI 0)), (0, .ref (q 0)), (1, .int n), (2, .int wh)]) hx hb dX6_against_33 hl (by decide) rfl (fun ls hl => ?_)
      refine lv_iconst (v := nI 0) hx hb dX6_against_35 (by decide) ?_
      refine lv_istore (lv' := [(5, .int (nI 0)), (4, .int 1000000), (3, .int (nI 0)), (0, .ref (q 0)), (1, .int n), (2, .int wh)]) hx hb dX6_against_36 hl (by decide) rfl (fun ls hl => ?_)
      have L_38 : ∀ (n_38 : Nat) (kd : Nat) (bs : Nat) (lst : Int32) (w1 : Nat → Int32) (H : Heap) (locs : List Loc), kd ≤ 6 → w1 0 = w 0 → w1 2 = w 2 → 6 - kd < n_38 → va_P (dC, dI) vwCl (mW q cI cZ w1 kp tx td ab be su po st nu li fi ga hh) H → va_D A (mW q cI cZ w1 kp tx td ab be su po st nu li fi ga hh) → va_S A s.heap H locs → ∀ (ls : Array Slot), lv_has ls 7 [(5, .int (nI kd)), (4, .int lst), (3, .int (nI bs)), (0, .ref (q 0)), (1, .int n), (2, .int wh)] → OUT = let4 (F_X6_against_L38 n_38 n kd bs lst w1) (fun kd bs lst w1 => if tN wh = 0 then (nI bs, w1, su) else (lst, w1, su)) → W p l e (headSpec wsX6_against { frames := 7, cells := 0, slots := 0, locals := 160 }).room s m ([.ref (q 0), .int n, .int wh] : List Value).toArray below meth c H locs 0 0 (MQ below (va_Qi (fun (r : Int32) (u : (Nat → Int32) × (Nat → Int32)) => F_X6_against w su n wh = (r, u)) (mB (dC, dI) vwCl (mT cI cZ) A (fun u => mW q cI cZ u.1 kp tx td ab be u.2 po st nu li fi ga hh)) A) ([.ref (q 0), .int n, .int wh] : List Value).toArray s 0 0 A) (F0 m 38 ls []) := by
        intro n_38
        induction n_38 with
        | zero => intro kd bs lst w1 H locs i0 i1 i2 hmu; exact absurd hmu (Nat.not_lt_zero _)
        | succ n_38 ih_38 =>
          intro kd bs lst w1 H locs i0 i1 i2 hmu_38 hP hD hS ls hl hF
          rw [F_X6_against_L38] at hF
          refine lv_iload hx hb dX6_against_38 (lv_at hl 0 rfl) ?_
          refine lv_iconst (v := nI 5) hx hb dX6_against_40 (by decide) ?_
          refine qv_icmp_gt (tgt := 101) hx hb dX6_against_41 (by decide) (by omega) (by omega) (fun c_41 => ?_) (fun c_41 => ?_)
          · rw [if_pos c_41] at hF
            rw [let4_mk (kd : Nat) (bs : Nat) (lst : Int32) (w1 : Nat → Int32)] at hF
            refine lv_iload_n hx hb dX6_against_101 rfl (lv_at hl 5 rfl) ?_
            refine qv_top (e_wh) ?_
            refine qv_if_ne (tgt := 109) hx hb dX6_against_102 (by decide) (by omega) (fun c_102 => ?_) (fun c_102 => ?_)
            · rw [if_neg c_102] at hF
              refine lv_iload hx hb dX6_against_109 (lv_at hl 1 rfl) ?_
              have hP9 : va_P (dC, dI) vwCl (mW q cI cZ w1 kp tx td ab be su po st nu li fi ga hh) H := hP
              exact W.iret (v := lst) hx hb hr (fun t ht hW => ⟨⟨_, ((w1, su)), rfl, hO.symm.trans hF, by rw [ht]; exact hP9, va_K.moved hW.alike hK, hD⟩, hS.F ht⟩) hS.2.2 dX6_against_111
            · rw [if_pos c_102] at hF
              refine lv_iload_n hx hb dX6_against_105 rfl (lv_at hl 2 rfl) ?_
              refine lv_goto (tgt := 111) hx hb dX6_against_106 (by decide) ?_
              have hP9 : va_P (dC, dI) vwCl (mW q cI cZ w1 kp tx td ab be su po st nu li fi ga hh) H := hP
              exact W.iret (v := nI bs) hx hb hr (fun t ht hW => ⟨⟨_, ((w1, su)), rfl, hO.symm.trans hF, by rw [ht]; exact hP9, va_K.moved hW.alike hK, hD⟩, hS.F ht⟩) hS.2.2 dX6_against_111
          · rw [if_neg c_41] at hF
            refine lv_aload_n hx hb dX6_against_44 rfl (lv_at hl 3 rfl) ?_
            refine qc_Vv (C := RX6) (As := []) (rest := []) (ci := 6) (k0 := 0) ⟨hx, hb, hml, hown, hts⟩ (c_X6_tries l dC dI q cI cZ H.size w1 kp tx td ab be su po st nu li fi ga hh  ) (cwV 0 hts gX6_against_X6_tries rfl rfl rfl (by decide +kernel) ⟨Nat.le_of_ble_eq_true rfl, Nat.le_of_ble_eq_true rfl⟩) hK hP hD hS hA rfl rfl rfl rfl hl.1 rfl (Nat.le_of_ble_eq_true rfl) dX6_against_45 ⟨Nat.zero_le _, Nat.zero_le _⟩ (fun u_45 H locs hw_45 hP hD hS => ?_)
            obtain ⟨w_45, rfl⟩ : ∃ z, z = u_45 := ⟨_, rfl⟩
            have hP : va_P (dC, dI) vwCl (mW q cI cZ w_45 kp tx td ab be su po st nu li fi ga hh) H := hP
            have hD : va_D A (mW q cI cZ w_45 kp tx td ab be su po st nu li fi ga hh) := hD
            have t0_45 : w_45 592 = w1 0 := tries_to hw_45 (k := 0) (by decide)
            have t2_45 : w_45 594 = w1 2 := tries_to hw_45 (k := 2) (by decide)
            have u0_45 : w_45 0 = w1 0 := tries_keep hw_45 0 (by decide)
            have u2_45 : w_45 2 = w1 2 := tries_keep hw_45 2 (by decide)
            rw [hw_45, let1_mk w_45] at hF
            refine lv_aload_n hx hb dX6_against_48 rfl (lv_at hl 3 rfl) ?_
            refine va_get (D := (dC, dI)) (ci := 6) (v := .ref (q 1)) (C := RX6) (T := TX6) (N := 14) hx hb hts hin hown hK hP 0 rfl rfl 0 (by decide) lk7 (fun _ h9 => h9) rfl dX6_against_49 ?_
            refine lv_sipush (v := nI 593) hx hb dX6_against_52 (by decide) ?_
            refine lv_iload hx hb dX6_against_55 (lv_at hl 0 rfl) ?_
            refine qv_ast (ws' := mW q cI cZ (upd w_45 593 (nI kd)) kp tx td ab be su po st nu li fi ga hh) hx hb hK hP hD hS 1 0 rfl rfl (by omega) (by decide) dX6_against_57 rfl (fun H locs hP hD hS => ?_)
            refine lv_aload_n hx hb dX6_against_58 rfl (lv_at hl 3 rfl) ?_
            refine lv_iload_n hx hb dX6_against_59 rfl (lv_at hl 4 rfl) ?_
            refine qv_top (e_n) ?_
            refine qc_Vi (C := RX6) (As := [.int (nI (tN n))]) (rest := []) (ci := 6) (k0 := 0) ⟨hx, hb, hml, hown, hts⟩ (c_X6_scoreTried l dC dI q cI cZ H.size (upd w_45 593 (nI kd)) kp tx td ab be su po st nu li fi ga hh (tN n) (by omega) (by rw [show (upd w_45 593 (nI kd)) 592 = w1 0 from (pk_un (by omega)).trans (t0_45)]; exact (by rw [i1]; exact pB : inB (w1 0) 6)) (by rw [show (upd w_45 593 (nI kd)) 594 = w1 2 from (pk_un (by omega)).trans (t2_45)]; exact (by rw [i2]; exact pN : okN (w1 2)))) (cwV 1 hts gX6_against_X6_scoreTried rfl rfl rfl (by decide +kernel) ⟨Nat.le_of_ble_eq_true rfl, Nat.le_of_ble_eq_true rfl⟩) hK hP hD hS hA rfl rfl rfl rfl hl.1 rfl (Nat.le_of_ble_eq_true rfl) dX6_against_60 ⟨Nat.zero_le _, Nat.zero_le _⟩ (fun r_60 u_60 H locs hw_60 hP hD hS => ?_)
            obtain ⟨w_60, rfl⟩ : ∃ z, z = u_60 := ⟨_, rfl⟩
            have hP : va_P (dC, dI) vwCl (mW q cI cZ w_60 kp tx td ab be su po st nu li fi ga hh) H := hP
            have hD : va_D A (mW q cI cZ w_60 kp tx td ab be su po st nu li fi ga hh) := hD
            have a_60 := scoreTried_at hw_60 (by rw [show (upd w_45 593 (nI kd)) 592 = w1 0 from (pk_un (by omega)).trans (t0_45)]; exact (by rw [i1]; exact pB : inB (w1 0) 6)) (by rw [show (upd w_45 593 (nI kd)) 594 = w1 2 from (pk_un (by omega)).trans (t2_45)]; exact (by rw [i2]; exact pN : okN (w1 2)))
            have v0_60 : w_60 0 = w1 0 := (a_60.1 0 (by decide)).trans ((pk_un (by omega)).trans (u0_45))
            have v2_60 : w_60 2 = w1 2 := (a_60.1 2 (by decide)).trans ((pk_un (by omega)).trans (u2_45))
            have e_60 := tN_eq a_60.2.1
            have b_60 := a_60.2.2
            refine qv_top (e_60) ?_
            rw [hw_60, let2_mk r_60 w_60] at hF
            refine lv_istore (lv' := [(6, .int (nI (tN r_60))), (5, .int (nI kd)), (4, .int lst), (3, .int (nI bs)), (0, .ref (q 0)), (1, .int n), (2, .int wh)]) hx hb dX6_against_63 hl (by decide) rfl (fun ls hl => ?_)
            refine lv_iload hx hb dX6_against_65 (lv_at hl 0 rfl) ?_
            refine lv_iload hx hb dX6_against_67 (lv_at hl 2 rfl) ?_
            refine lv_icmp_ge (tgt := 77) hx hb dX6_against_69 (by decide) (fun c_69 => ?_) (fun c_69 => ?_)
            · rw [if_pos c_69] at hF
              refine lv_iload_n hx hb dX6_against_77 rfl (lv_at hl 3 rfl) ?_
              refine lv_istore_n (lv' := [(3, .int (nI bs)), (6, .int (nI (tN r_60))), (5, .int (nI kd)), (4, .int lst), (0, .ref (q 0)), (1, .int n), (2, .int wh)]) hx hb dX6_against_78 rfl hl (by decide) rfl (fun ls hl => ?_)
              refine lv_iload hx hb dX6_against_79 (lv_at hl 1 rfl) ?_
              refine lv_iload hx hb dX6_against_81 (lv_at hl 3 rfl) ?_
              refine lv_icmp_ge (tgt := 91) hx hb dX6_against_83 (by decide) (fun _ => ?_) (fun c_83 => absurd c_69 c_83)
              refine lv_iload hx hb dX6_against_91 (lv_at hl 3 rfl) ?_
              refine lv_istore (lv' := [(4, .int lst), (3, .int (nI bs)), (6, .int (nI (tN r_60))), (5, .int (nI kd)), (0, .ref (q 0)), (1, .int n), (2, .int wh)]) hx hb dX6_against_93 hl (by decide) rfl (fun ls hl => ?_)
              refine lv_iinc (v := nI (kd + 1)) (lv' := [(5, .int (nI (kd + 1))), (4, .int lst), (3, .int (nI bs)), (6, .int (nI (tN r_60))), (0, .ref (q 0)), (1, .int n), (2, .int wh)]) hx hb dX6_against_95 hl (k := 3) rfl (qn_inc (c := 1) rfl (by omega)) (by decide) rfl (fun ls hl => ?_)
              refine lv_goto (tgt := 38) hx hb dX6_against_98 (by decide) ?_
              exact ih_38 (kd + 1) bs lst w_60 H locs (by omega) ((v0_60).trans i1) ((v2_60).trans i2) (by omega) hP hD hS ls (lv_sub hl [0, 1, 2, 4, 5, 6] rfl) hF
            · rw [if_neg c_69] at hF
              refine lv_iload hx hb dX6_against_72 (lv_at hl 1 rfl) ?_
              refine lv_goto (tgt := 78) hx hb dX6_against_74 (by decide) ?_
              refine lv_istore_n (lv' := [(3, .int (nI kd)), (6, .int (nI (tN r_60))), (5, .int (nI kd)), (4, .int lst), (0, .ref (q 0)), (1, .int n), (2, .int wh)]) hx hb dX6_against_78 rfl hl (by decide) rfl (fun ls hl => ?_)
              refine lv_iload hx hb dX6_against_79 (lv_at hl 1 rfl) ?_
              refine lv_iload hx hb dX6_against_81 (lv_at hl 3 rfl) ?_
              refine lv_icmp_ge (tgt := 91) hx hb dX6_against_83 (by decide) (fun c_83 => absurd c_83 c_69) (fun _ => ?_)
              refine lv_iload hx hb dX6_against_86 (lv_at hl 1 rfl) ?_
              refine lv_goto (tgt := 93) hx hb dX6_against_88 (by decide) ?_
              refine lv_istore (lv' := [(4, .int (nI (tN r_60))), (3, .int (nI kd)), (6, .int (nI (tN r_60))), (5, .int (nI kd)), (0, .ref (q 0)), (1, .int n), (2, .int wh)]) hx hb dX6_against_93 hl (by decide) rfl (fun ls hl => ?_)
              refine lv_iinc (v := nI (kd + 1)) (lv' := [(5, .int (nI (kd + 1))), (4, .int (nI (tN r_60))), (3, .int (nI kd)), (6, .int (nI (tN r_60))), (0, .ref (q 0)), (1, .int n), (2, .int wh)]) hx hb dX6_against_95 hl (k := 3) rfl (qn_inc (c := 1) rfl (by omega)) (by decide) rfl (fun ls hl => ?_)
              refine lv_goto (tgt := 38) hx hb dX6_against_98 (by decide) ?_
              exact ih_38 (kd + 1) kd (nI (tN r_60)) w_60 H locs (by omega) ((v0_60).trans i1) ((v2_60).trans i2) (by omega) hP hD hS ls (lv_sub hl [0, 1, 2, 4, 5, 6] rfl) hF
      exact L_38 7 0 0 1000000 w s.heap [] (by omega) rfl rfl (by omega) hP hD hS ls (lv_sub hl [0, 1, 2, 3, 4, 5] rfl) hF
    · rw [if_neg c_19] at hF
      refine lv_aload_n hx hb dX6_against_22 rfl (lv_at hl 0 rfl) ?_
      refine lv_bipush (v := (-2)) hx hb dX6_against_23 (by decide) ?_
      refine qc_Vi (C := RX6) (As := [.int ((-2))]) (rest := []) (ci := 6) (k0 := 0) ⟨hx, hb, hml, hown, hts⟩ (c_X6_bad l dC dI q cI cZ s.heap.size w kp tx td ab be su po st nu li fi ga hh ((-2)) ) (cwV 1 hts gX6_against_X6_bad rfl rfl rfl (by decide +kernel) ⟨Nat.le_of_ble_eq_true rfl, Nat.le_of_ble_eq_true rfl⟩) hK hP hD hS hA rfl rfl rfl rfl hl.1 rfl (Nat.le_of_ble_eq_true rfl) dX6_against_25 ⟨Nat.zero_le _, Nat.zero_le _⟩ (fun r_25 u_25 H locs hw_25 hP hD hS => ?_)
      obtain ⟨su_25, rfl⟩ : ∃ z, z = u_25 := ⟨_, rfl⟩
      have hP : va_P (dC, dI) vwCl (mW q cI cZ w kp tx td ab be su_25 po st nu li fi ga hh) H := hP
      have hD : va_D A (mW q cI cZ w kp tx td ab be su_25 po st nu li fi ga hh) := hD
      rw [hw_25, let2_mk r_25 su_25] at hF
      have hP9 : va_P (dC, dI) vwCl (mW q cI cZ w kp tx td ab be su_25 po st nu li fi ga hh) H := hP
      exact W.iret (v := r_25) hx hb hr (fun t ht hW => ⟨⟨_, ((w, su_25)), rfl, hO.symm.trans hF, by rw [ht]; exact hP9, va_K.moved hW.alike hK, hD⟩, hS.F ht⟩) hS.2.2 dX6_against_28
def F_X6_rows_L4 : Nat → (Nat) → (Nat) → (Nat) → (Nat) × (Nat)
  | 0, _, k, al => (k, al)
  | n_4 + 1, n, k, al => if n ≤ k then (k, al) else F_X6_rows_L4 n_4 n (k + 1) (10 * al)
def F_X6_rows (n : Nat) : Int32 := let2 (F_X6_rows_L4 10 n 0 1) (fun k al => nI al)
set_option maxHeartbeats 4000000 in
set_option maxRecDepth 100000 in
theorem c_X6_rows (l : Launch) (n : Nat) (hn : n ≤ 9) : Met l yX6_rows wsX6_rows { frames := 0, cells := 0, slots := 0, locals := 0 } (va_Pc [.int (nI n)] (fun _ => True)) (vp_Si (fun r => F_X6_rows n = r)) 0 0 (fun _ => False) := by
  refine Met.ofW (cc := cX6_rows) (maxL := 3) (ret := (some .int)) (by decide) rfl ?_
  intro p e s m args below meth c s₁ B hml hv
  obtain ⟨rfl, -⟩ := hv
  have hx := B.exec
  have hb := B.bytes
  have hr := B.returns
  have hts := atoms_spec (ws := wsX6_rows) B.pre
  have hown : s.vm.findClass RX6 = some m.cls := findClass_of_methodNamed B.named
  have hlocks := B.notSynchronized
  have hl := lv_entry ([.int (nI n)]) (n := 3) (Nat.le_of_ble_eq_true rfl)
  rw [lg_entry_eq]
  generalize (lg_sl ([.int (nI n)]) ++ List.replicate (3 - (lg_sl ([.int (nI n)])).length) Slot.unset).toArray = ls at hl ⊢
  have hl : lv_has ls 3 [(0, .int (nI n))] := hl
  obtain ⟨OUT, hO⟩ : ∃ z, z = F_X6_rows n := ⟨_, rfl⟩
  have hF := hO
  unfold F_X6_rows at hF
  refine lv_iconst (v := nI 1) hx hb dX6_rows_0 (by decide) ?_
  refine lv_istore_n (lv' := [(1, .int (nI 1)), (0, .int (nI n))]) hx hb dX6_rows_1 rfl hl (by decide) rfl (fun ls hl => ?_)
  refine lv_iconst (v := nI 0) hx hb dX6_rows_2 (by decide) ?_
  refine lv_istore_n (lv' := [(2, .int (nI 0)), (1, .int (nI 1)), (0, .int (nI n))]) hx hb dX6_rows_3 rfl hl (by decide) rfl (fun ls hl => ?_)
  have L_4 : ∀ (n_4 : Nat) (k : Nat) (al : Nat), k ≤ n → n - k < n_4 → ∀ (ls : Array Slot), lv_has ls 3 [(2, .int (nI k)), (1, .int (nI al)), (0, .int (nI n))] → OUT = let2 (F_X6_rows_L4 n_4 n k al) (fun k al => nI al) → W p l e (headSpec wsX6_rows { frames := 0, cells := 0, slots := 0, locals := 0 }).room s m ([.int (nI n)] : List Value).toArray below meth c s.heap [] 0 0 (MQ below (vp_Si (fun r => F_X6_rows n = r)) ([.int (nI n)] : List Value).toArray s 0 0 (fun _ => False)) (F0 m 4 ls []) := by
    intro n_4
    induction n_4 with
    | zero => intro k al i0 hmu; exact absurd hmu (Nat.not_lt_zero _)
    | succ n_4 ih_4 =>
      intro k al i0 hmu_4 ls hl hF
      rw [F_X6_rows_L4] at hF
      refine lv_iload_n hx hb dX6_rows_4 rfl (lv_at hl 0 rfl) ?_
      refine lv_iload_n hx hb dX6_rows_5 rfl (lv_at hl 2 rfl) ?_
      refine qv_icmp_ge (tgt := 20) hx hb dX6_rows_6 (by decide) (by omega) (by omega) (fun c_6 => ?_) (fun c_6 => ?_)
      · rw [if_pos c_6] at hF
        rw [let2_mk (k : Nat) (al : Nat)] at hF
        refine lv_iload_n hx hb dX6_rows_20 rfl (lv_at hl 1 rfl) ?_
        exact W.iret (v := nI al) hx hb hr (fun t ht hW => ⟨_, rfl, hO.symm.trans hF, ht⟩) (fun _ h => by cases h) dX6_rows_21
      · rw [if_neg c_6] at hF
        refine lv_iload_n hx hb dX6_rows_9 rfl (lv_at hl 1 rfl) ?_
        refine lv_bipush (v := nI 10) hx hb dX6_rows_10 (by decide) ?_
        refine qv_imul hx hb (10 * al) dX6_rows_12 (by omega) ?_
        refine lv_istore_n (lv' := [(1, .int (nI (10 * al))), (2, .int (nI k)), (0, .int (nI n))]) hx hb dX6_rows_13 rfl hl (by decide) rfl (fun ls hl => ?_)
        refine lv_iinc (v := nI (k + 1)) (lv' := [(2, .int (nI (k + 1))), (1, .int (nI (10 * al))), (0, .int (nI n))]) hx hb dX6_rows_14 hl (k := 1) rfl (qn_inc (c := 1) rfl (by omega)) (by decide) rfl (fun ls hl => ?_)
        refine lv_goto (tgt := 4) hx hb dX6_rows_17 (by decide) ?_
        exact ih_4 (k + 1) (10 * al) (by omega) (by omega) ls (lv_sub hl [0, 1, 2] rfl) hF
  exact L_4 10 0 1 (by omega) (by omega) ls (lv_sub hl [0, 1, 2] rfl) hF
theorem L_rows (n : Nat) : ∀ (f k al : Nat), k ≤ n → n - k < f → (F_X6_rows_L4 f n k al).2 = al * 10 ^ (n - k)
  | 0, _, _, _, h => absurd h (Nat.not_lt_zero _)
  | f + 1, k, al, hk, h => by
    rw [F_X6_rows_L4]
    by_cases c : n ≤ k
    · rw [if_pos c, show n - k = 0 by omega]; exact (Nat.mul_one _).symm
    · rw [if_neg c, L_rows n f (k + 1) _ (by omega) (by omega), show n - k = (n - (k + 1)) + 1 by omega, Nat.pow_succ, Nat.mul_comm 10 al, Nat.mul_assoc, Nat.mul_comm 10]
theorem rows_nat {n : Nat} (h : n ≤ 9) : F_X6_rows n = nI (10 ^ n) := by
  show nI (F_X6_rows_L4 10 n 0 1).2 = _
  rw [L_rows n 10 0 1 (Nat.zero_le _) (by omega), Nat.one_mul, Nat.sub_zero]
def F_X6_scoreBy_L11 : Nat → (Nat) → (Nat) → (Nat) → (Nat) → (Nat) → (Nat → Int32) → (Nat) × (Nat) × (Nat) × (Nat → Int32)
  | 0, _, _, k, pa, sm, w1 => (k, pa, sm, w1)
  | n_11 + 1, rw, n, k, pa, sm, w1 => if n ≤ k then (k, pa, sm, w1) else let2 (F_X6_batsTried w1 (nI ((((rw / ((pa / 10)))) % 10)))) (fun r_33 w_33 => F_X6_scoreBy_L11 n_11 rw n (k + 1) ((pa / 10)) (sm + tN r_33) w_33)
def F_X6_scoreBy (w : Nat → Int32) (rw : Nat) (n : Nat) : Int32 × (Nat → Int32) := let4 (F_X6_scoreBy_L11 5 rw n 0 (10 ^ n) 0 w) (fun k pa sm w1 => (nI sm, w1))
set_option maxHeartbeats 4000000 in
set_option maxRecDepth 100000 in
theorem c_X6_scoreBy (l : Launch) (dC : Nat → ClassId) (dI : Nat → Nat → Nat) (q : Nat → Nat) (cI cZ : ClassId) (sz : Nat) (w : Nat → Int32) (kp : Nat → Int32) (tx : Nat → Int32) (td : Int32) (ab : Int64) (be : Int64) (su : Nat → Int32) (po : Int32) (st : Int32) (nu : Int32) (li : Nat → Int32) (fi : Nat → Int32) (ga : Nat → Int32) (hh : Int64) (rw : Nat) (n : Nat) (hn : n ≤ 4) (hrw : rw < 10000) (pB : inB (w 592) 6) (pN : okN (w 594)) : Met l yX6_scoreBy wsX6_scoreBy { frames := 6, cells := 0, slots := 0, locals := 137 } (mPc (dC, dI) vwCl (mT cI cZ) (mW q cI cZ w kp tx td ab be su po st nu li fi ga hh) sz [.ref (q 0), .int (nI rw), .int (nI n)]) (va_Qi (fun (r : Int32) (u : (Nat → Int32)) => F_X6_scoreBy w rw n = (r, u)) (mB (dC, dI) vwCl (mT cI cZ) (va_A (mW q cI cZ w kp tx td ab be su po st nu li fi ga hh) sz) (fun u => mW q cI cZ u kp tx td ab be su po st nu li fi ga hh)) (va_A (mW q cI cZ w kp tx td ab be su po st nu li fi ga hh) sz)) 0 0 (va_A (mW q cI cZ w kp tx td ab be su po st nu li fi ga hh) sz) := by
  refine Met.ofW (cc := cX6_scoreBy) (maxL := 6) (ret := (some .int)) (by decide) rfl ?_
  intro p e s m args below meth c s₁ B hml hv
  obtain ⟨rfl, hsz, hP, hK, hD0⟩ := hv
  have hx := B.exec
  have hb := B.bytes
  have hr := B.returns
  have hts := atoms_spec (ws := wsX6_scoreBy) B.pre
  have hown : s.vm.findClass RX6 = some m.cls := findClass_of_methodNamed B.named
  have hlocks := B.notSynchronized
  subst hsz
  have hD := hD0.self (sz := s.heap.size)
  generalize hAe : va_A (mW q cI cZ w kp tx td ab be su po st nu li fi ga hh) s.heap.size = A at hD ⊢
  have hA : ∀ q : Nat, s.heap.size ≤ q → A q := fun q h => by rw [← hAe]; exact Or.inr h
  have hS : va_S A s.heap s.heap [] := va_S.rf
  have hl := lv_entry ([.ref (q 0), .int (nI rw), .int (nI n)]) (n := 6) (Nat.le_of_ble_eq_true rfl)
  rw [lg_entry_eq]
  generalize (lg_sl ([.ref (q 0), .int (nI rw), .int (nI n)]) ++ List.replicate (6 - (lg_sl ([.ref (q 0), .int (nI rw), .int (nI n)])).length) Slot.unset).toArray = ls at hl ⊢
  have hl : lv_has ls 6 [(0, .ref (q 0)), (1, .int (nI rw)), (2, .int (nI n))] := hl
  obtain ⟨OUT, hO⟩ : ∃ z, z = F_X6_scoreBy w rw n := ⟨_, rfl⟩
  have hF := hO
  unfold F_X6_scoreBy at hF
  have e_pB := tN_eq pB.1
  have b_pB := pB.2
  refine lv_iconst (v := nI 0) hx hb dX6_scoreBy_0 (by decide) ?_
  refine lv_istore_n (lv' := [(3, .int (nI 0)), (0, .ref (q 0)), (1, .int (nI rw)), (2, .int (nI n))]) hx hb dX6_scoreBy_1 rfl hl (by decide) rfl (fun ls hl => ?_)
  refine lv_iload_n hx hb dX6_scoreBy_2 rfl (lv_at hl 3 rfl) ?_
  have q_3 : 10 ^ n ≤ 10000 := Nat.le_trans (Nat.pow_le_pow_right (by decide) hn) (by decide)
  refine qc_Si (As := [.int (nI n)]) (rest := []) ⟨hx, hb, hml, hown, hts⟩ (c_X6_rows l n (by omega)) (va_cwS 1 hts gX6_scoreBy_X6_rows rfl rfl rfl (by decide +kernel) ⟨Nat.le_of_ble_eq_true rfl, Nat.le_of_ble_eq_true rfl⟩) rfl hl.1 rfl (Nat.le_of_ble_eq_true rfl) dX6_scoreBy_3 ⟨Nat.zero_le _, Nat.zero_le _⟩ (fun r_3 hw_3 => ?_)
  subst hw_3
  refine qv_top (rows_nat (by omega)) ?_
  refine lv_istore (lv' := [(4, .int (nI (10 ^ n))), (3, .int (nI 0)), (0, .ref (q 0)), (1, .int (nI rw)), (2, .int (nI n))]) hx hb dX6_scoreBy_6 hl (by decide) rfl (fun ls hl => ?_)
  refine lv_iconst (v := nI 0) hx hb dX6_scoreBy_8 (by decide) ?_
  refine lv_istore (lv' := [(5, .int (nI 0)), (4, .int (nI (10 ^ n))), (3, .int (nI 0)), (0, .ref (q 0)), (1, .int (nI rw)), (2, .int (nI n))]) hx hb dX6_scoreBy_9 hl (by decide) rfl (fun ls hl => ?_)
  have L_11 : ∀ (n_11 : Nat) (k : Nat) (pa : Nat) (sm : Nat) (w1 : Nat → Int32) (H : Heap) (locs : List Loc), k ≤ n → pa = 10 ^ (n - k) → pa ≤ 10000 → sm ≤ 14 * k → w1 592 = w 592 → okN (w1 594) → n - k < n_11 → va_P (dC, dI) vwCl (mW q cI cZ w1 kp tx td ab be su po st nu li fi ga hh) H → va_D A (mW q cI cZ w1 kp tx td ab be su po st nu li fi ga hh) → va_S A s.heap H locs → ∀ (ls : Array Slot), lv_has ls 6 [(5, .int (nI k)), (4, .int (nI pa)), (3, .int (nI sm)), (0, .ref (q 0)), (1, .int (nI rw)), (2, .int (nI n))] → OUT = let4 (F_X6_scoreBy_L11 n_11 rw n k pa sm w1) (fun k pa sm w1 => (nI sm, w1)) → W p l e (headSpec wsX6_scoreBy { frames := 6, cells := 0, slots := 0, locals := 137 }).room s m ([.ref (q 0), .int (nI rw), .int (nI n)] : List Value).toArray below meth c H locs 0 0 (MQ below (va_Qi (fun (r : Int32) (u : (Nat → Int32)) => F_X6_scoreBy w rw n = (r, u)) (mB (dC, dI) vwCl (mT cI cZ) A (fun u => mW q cI cZ u kp tx td ab be su po st nu li fi ga hh)) A) ([.ref (q 0), .int (nI rw), .int (nI n)] : List Value).toArray s 0 0 A) (F0 m 11 ls []) := by
    intro n_11
    induction n_11 with
    | zero => intro k pa sm w1 H locs i0 i3 i4 i5 i1 i2 hmu; exact absurd hmu (Nat.not_lt_zero _)
    | succ n_11 ih_11 =>
      intro k pa sm w1 H locs i0 i3 i4 i5 i1 i2 hmu_11 hP hD hS ls hl hF
      rw [F_X6_scoreBy_L11] at hF
      refine lv_iload hx hb dX6_scoreBy_11 (lv_at hl 0 rfl) ?_
      refine lv_iload_n hx hb dX6_scoreBy_13 rfl (lv_at hl 5 rfl) ?_
      refine qv_icmp_ge (tgt := 44) hx hb dX6_scoreBy_14 (by decide) (by omega) (by omega) (fun c_14 => ?_) (fun c_14 => ?_)
      · rw [if_pos c_14] at hF
        rw [let4_mk (k : Nat) (pa : Nat) (sm : Nat) (w1 : Nat → Int32)] at hF
        refine lv_iload_n hx hb dX6_scoreBy_44 rfl (lv_at hl 2 rfl) ?_
        have hP9 : va_P (dC, dI) vwCl (mW q cI cZ w1 kp tx td ab be su po st nu li fi ga hh) H := hP
        exact W.iret (v := nI sm) hx hb hr (fun t ht hW => ⟨⟨_, (w1), rfl, hO.symm.trans hF, by rw [ht]; exact hP9, va_K.moved hW.alike hK, hD⟩, hS.F ht⟩) hS.2.2 dX6_scoreBy_45
      · rw [if_neg c_14] at hF
        refine lv_iload hx hb dX6_scoreBy_17 (lv_at hl 1 rfl) ?_
        refine lv_bipush (v := nI 10) hx hb dX6_scoreBy_19 (by decide) ?_
        refine qv_idiv hx hb dX6_scoreBy_21 (by omega) (by omega) (by omega) ?_
        refine lv_istore (lv' := [(4, .int (nI ((pa / 10)))), (5, .int (nI k)), (3, .int (nI sm)), (0, .ref (q 0)), (1, .int (nI rw)), (2, .int (nI n))]) hx hb dX6_scoreBy_22 hl (by decide) rfl (fun ls hl => ?_)
        have d_24 : pa / 10 = 10 ^ (n - (k + 1)) := by rw [i3, show n - k = (n - (k + 1)) + 1 by omega, Nat.pow_succ, Nat.mul_div_cancel _ (by decide)]
        have d2_24 : 0 < pa / 10 := by rw [d_24]; exact Nat.pow_pos (by decide)
        have d3_24 : rw / (pa / 10) ≤ rw := Nat.div_le_self _ _
        refine lv_iload_n hx hb dX6_scoreBy_24 rfl (lv_at hl 2 rfl) ?_
        refine lv_aload_n hx hb dX6_scoreBy_25 rfl (lv_at hl 3 rfl) ?_
        refine lv_iload_n hx hb dX6_scoreBy_26 rfl (lv_at hl 4 rfl) ?_
        refine lv_iload hx hb dX6_scoreBy_27 (lv_at hl 0 rfl) ?_
        refine qv_idiv hx hb dX6_scoreBy_29 (by omega) (by omega) (by omega) ?_
        refine lv_bipush (v := nI 10) hx hb dX6_scoreBy_30 (by decide) ?_
        refine qv_irem hx hb dX6_scoreBy_32 (by omega) (by omega) (by omega) ?_
        refine qc_Vi (C := RX6) (As := [.int (nI ((((rw / ((pa / 10)))) % 10)))]) (rest := [.int (nI sm)]) (ci := 6) (k0 := 0) ⟨hx, hb, hml, hown, hts⟩ (c_X6_batsTried l dC dI q cI cZ H.size w1 kp tx td ab be su po st nu li fi ga hh (nI ((((rw / ((pa / 10)))) % 10))) (by rw [i1]; exact pB : inB (w1 592) 6) (i2 : okN (w1 594))) (cwV 1 hts gX6_scoreBy_X6_batsTried rfl rfl rfl (by decide +kernel) ⟨Nat.le_of_ble_eq_true rfl, Nat.le_of_ble_eq_true rfl⟩) hK hP hD hS hA rfl rfl rfl rfl hl.1 rfl (Nat.le_of_ble_eq_true rfl) dX6_scoreBy_33 ⟨Nat.zero_le _, Nat.zero_le _⟩ (fun r_33 u_33 H locs hw_33 hP hD hS => ?_)
        obtain ⟨w_33, rfl⟩ : ∃ z, z = u_33 := ⟨_, rfl⟩
        have hP : va_P (dC, dI) vwCl (mW q cI cZ w_33 kp tx td ab be su po st nu li fi ga hh) H := hP
        have hD : va_D A (mW q cI cZ w_33 kp tx td ab be su po st nu li fi ga hh) := hD
        have a_33 := batsTried_at hw_33 (by rw [i1]; exact pB : inB (w1 592) 6) (i2 : okN (w1 594))
        have e_33 := tN_eq a_33.2.2.1.1
        have b_33 := a_33.2.2.1.2
        refine qv_top (e_33) ?_
        rw [hw_33, let2_mk r_33 w_33] at hF
        refine qv_iadd hx hb (sm + tN r_33) dX6_scoreBy_36 (by omega) ?_
        refine lv_istore_n (lv' := [(3, .int (nI (sm + tN r_33))), (4, .int (nI ((pa / 10)))), (5, .int (nI k)), (0, .ref (q 0)), (1, .int (nI rw)), (2, .int (nI n))]) hx hb dX6_scoreBy_37 rfl hl (by decide) rfl (fun ls hl => ?_)
        refine lv_iinc (v := nI (k + 1)) (lv' := [(5, .int (nI (k + 1))), (3, .int (nI (sm + tN r_33))), (4, .int (nI ((pa / 10)))), (0, .ref (q 0)), (1, .int (nI rw)), (2, .int (nI n))]) hx hb dX6_scoreBy_38 hl (k := 2) rfl (qn_inc (c := 1) rfl (by omega)) (by decide) rfl (fun ls hl => ?_)
        refine lv_goto (tgt := 11) hx hb dX6_scoreBy_41 (by decide) ?_
        exact ih_11 (k + 1) ((pa / 10)) (sm + tN r_33) w_33 H locs (by omega) d_24 (by omega) (by omega) ((a_33.2.1).trans i1) (a_33.1 : okN (w_33 594)) (by omega) hP hD hS ls (lv_sub hl [0, 2, 1, 3, 4, 5] rfl) hF
  exact L_11 5 0 (10 ^ n) 0 w s.heap [] (by omega) (by rw [Nat.sub_zero]) (by omega) (by omega) rfl (pN : okN (w 594)) (by omega) hP hD hS ls (lv_sub hl [0, 1, 2, 3, 4, 5] rfl) hF
theorem L_scoreBy (rw_ n : Nat) : ∀ (f k pa sm : Nat) (w1 : Nat → Int32), inB (w1 592) 6 → okN (w1 594) → (∀ j, j < 592 → (F_X6_scoreBy_L11 f rw_ n k pa sm w1).2.2.2 j = w1 j) ∧ (F_X6_scoreBy_L11 f rw_ n k pa sm w1).2.2.1 ≤ sm + 14 * f
  | 0, _, _, _, _, _, _ => ⟨fun _ _ => rfl, Nat.le_add_right _ _⟩
  | f + 1, k, pa, sm, w1, pB, pN => by
    rw [F_X6_scoreBy_L11]
    split
    · exact ⟨fun _ _ => rfl, Nat.le_add_right _ _⟩
    · simp only [let2]
      have h := batsTried_at (w := w1) (h := nI ((rw_ / (pa / 10)) % 10)) (r := (F_X6_batsTried w1 (nI ((rw_ / (pa / 10)) % 10))).1) (w' := (F_X6_batsTried w1 (nI ((rw_ / (pa / 10)) % 10))).2) rfl pB pN
      have ih := L_scoreBy rw_ n f (k + 1) (pa / 10) (sm + tN (F_X6_batsTried w1 (nI ((rw_ / (pa / 10)) % 10))).1) (F_X6_batsTried w1 (nI ((rw_ / (pa / 10)) % 10))).2 (by rw [h.2.1]; exact pB) h.1
      have hb := h.2.2.1.2
      exact ⟨fun j hj => (ih.1 j hj).trans (h.2.2.2 j hj), Nat.le_trans ih.2 (by omega)⟩
theorem scoreBy_at {w w' : Nat → Int32} {rw_ n : Nat} {r : Int32} (e : F_X6_scoreBy w rw_ n = (r, w')) (pB : inB (w 592) 6) (pN : okN (w 594)) : (∀ j, j < 592 → w' j = w j) ∧ inB r 70 := by
  unfold F_X6_scoreBy at e
  simp only [let4] at e
  have h := L_scoreBy rw_ n 5 0 (10 ^ n) 0 w pB pN
  rw [← (Prod.mk.inj e).2, ← (Prod.mk.inj e).1]
  exact ⟨h.1, inB_nI (by omega) (by decide)⟩
def F_X6_told_L6 : Nat →  (Nat) → (Nat) → (Nat) × (Nat)
  | 0, a1, b1 => (a1, b1)
  | n_6 + 1, a1, b1 => if b1 = 0 then (a1, b1) else F_X6_told_L6 n_6  b1 ((a1 % b1))
def F_X6_told (up : Nat) (dn : Nat) : Int32 × (Int64) × (Int64) := let2 (F_X6_told_L6 (dn + 1)  up dn) (fun a1 b1 => (nI 1, (lN ((up / a1))), (lN ((dn / a1)))))
set_option maxHeartbeats 4000000 in
set_option maxRecDepth 100000 in
theorem c_X6_told (l : Launch) (dC : Nat → ClassId) (dI : Nat → Nat → Nat) (q : Nat → Nat) (cI cZ : ClassId) (sz : Nat) (w : Nat → Int32) (kp : Nat → Int32) (tx : Nat → Int32) (td : Int32) (ab : Int64) (be : Int64) (su : Nat → Int32) (po : Int32) (st : Int32) (nu : Int32) (li : Nat → Int32) (fi : Nat → Int32) (ga : Nat → Int32) (hh : Int64) (up : Nat) (dn : Nat) (h0 : 0 < dn) (h1 : up < 2 ^ 31) (h2 : dn < 2 ^ 31) : Met l yX6_told wsX6_told { frames := 0, cells := 0, slots := 0, locals := 0 } (mPc (dC, dI) vwCl (mT cI cZ) (mW q cI cZ w kp tx td ab be su po st nu li fi ga hh) sz [.ref (q 0), .long (lN up), .long (lN dn)]) (va_Qi (fun (r : Int32) (u : (Int64) × (Int64)) => F_X6_told up dn = (r, u)) (mB (dC, dI) vwCl (mT cI cZ) (va_A (mW q cI cZ w kp tx td ab be su po st nu li fi ga hh) sz) (fun u => mW q cI cZ w kp tx td u.1 u.2 su po st nu li fi ga hh)) (va_A (mW q cI cZ w kp tx td ab be su po st nu li fi ga hh) sz)) 0 0 (va_A (mW q cI cZ w kp tx td ab be su po st nu li fi ga hh) sz) := by
  refine Met.ofW (cc := cX6_told) (maxL := 11) (ret := (some .int)) (by decide) rfl ?_
  intro p e s m args below meth c s₁ B hml hv
  obtain ⟨rfl, hsz, hP, hK, hD0⟩ := hv
  have hx := B.exec
  have hb := B.bytes
  have hr := B.returns
  have hts := atoms_spec (ws := wsX6_told) B.pre
  have hown : s.vm.findClass RX6 = some m.cls := findClass_of_methodNamed B.named
  have hlocks := B.notSynchronized
  subst hsz
  have hD := hD0.self (sz := s.heap.size)
  generalize hAe : va_A (mW q cI cZ w kp tx td ab be su po st nu li fi ga hh) s.heap.size = A at hD ⊢
  have hA : ∀ q : Nat, s.heap.size ≤ q → A q := fun q h => by rw [← hAe]; exact Or.inr h
  have hS : va_S A s.heap s.heap [] := va_S.rf
  have hin : ∀ w ∈ wsX60, w ∈ wsX6_told := by decide +kernel
  have lk20 := hts (.fieldLink RX6 20 "PostRoundersModel" "above" "J") (by decide +kernel)
  have lk24 := hts (.fieldLink RX6 24 "PostRoundersModel" "below" "J") (by decide +kernel)
  have hl := lv_entry ([.ref (q 0), .long (lN up), .long (lN dn)]) (n := 11) (Nat.le_of_ble_eq_true rfl)
  rw [lg_entry_eq]
  generalize (lg_sl ([.ref (q 0), .long (lN up), .long (lN dn)]) ++ List.replicate (11 - (lg_sl ([.ref (q 0), .long (lN up), .long (lN dn)])).length) Slot.unset).toArray = ls at hl ⊢
  have hl : lv_has ls 11 [(0, .ref (q 0)), (1, .long (lN up)), (3, .long (lN dn))] := hl
  obtain ⟨OUT, hO⟩ : ∃ z, z = F_X6_told up dn := ⟨_, rfl⟩
  have hF := hO
  unfold F_X6_told at hF
  refine lv_lload_n hx hb dX6_told_0 rfl (lv_at hl 1 rfl) ?_
  refine lv_lstore (lv' := [(5, .long (lN up)), (0, .ref (q 0)), (1, .long (lN up)), (3, .long (lN dn))]) hx hb dX6_told_1 hl (by decide) rfl (fun ls hl => ?_)
  refine lv_lload_n hx hb dX6_told_3 rfl (lv_at hl 3 rfl) ?_
  refine lv_lstore (lv' := [(7, .long (lN dn)), (5, .long (lN up)), (0, .ref (q 0)), (1, .long (lN up)), (3, .long (lN dn))]) hx hb dX6_told_4 hl (by decide) rfl (fun ls hl => ?_)
  have L_6 : ∀ (n_6 : Nat) (a1 : Nat) (b1 : Nat) (H : Heap) (locs : List Loc), a1 < 2 ^ 31 → b1 < 2 ^ 31 → 0 < a1 + b1 → b1 < n_6 → va_P (dC, dI) vwCl (mW q cI cZ w kp tx td ab be su po st nu li fi ga hh) H → va_D A (mW q cI cZ w kp tx td ab be su po st nu li fi ga hh) → va_S A s.heap H locs → ∀ (ls : Array Slot), lv_has ls 11 [(7, .long (lN b1)), (5, .long (lN a1)), (0, .ref (q 0)), (1, .long (lN up)), (3, .long (lN dn))] → OUT = let2 (F_X6_told_L6 n_6  a1 b1) (fun a1 b1 => (nI 1, (lN ((up / a1))), (lN ((dn / a1))))) → W p l e (headSpec wsX6_told { frames := 0, cells := 0, slots := 0, locals := 0 }).room s m ([.ref (q 0), .long (lN up), .long (lN dn)] : List Value).toArray below meth c H locs 0 0 (MQ below (va_Qi (fun (r : Int32) (u : (Int64) × (Int64)) => F_X6_told up dn = (r, u)) (mB (dC, dI) vwCl (mT cI cZ) A (fun u => mW q cI cZ w kp tx td u.1 u.2 su po st nu li fi ga hh)) A) ([.ref (q 0), .long (lN up), .long (lN dn)] : List Value).toArray s 0 0 A) (F0 m 6 ls []) := by
    intro n_6
    induction n_6 with
    | zero => intro a1 b1 H locs i0 i1 i2 hmu; exact absurd hmu (Nat.not_lt_zero _)
    | succ n_6 ih_6 =>
      intro a1 b1 H locs i0 i1 i2 hmu_6 hP hD hS ls hl hF
      rw [F_X6_told_L6] at hF
      refine lv_lload hx hb dX6_told_6 (lv_at hl 0 rfl) ?_
      refine lv_lconst (v := 0) hx hb dX6_told_8 (by decide) ?_
      refine W.lcmp hx hb dX6_told_9 ?_
      refine qv_lif_eq (tgt := 31) hx hb dX6_told_10 (by decide) (by omega) (fun c_10 => ?_) (fun c_10 => ?_)
      · rw [if_pos c_10] at hF
        rw [let2_mk (a1 : Nat) (b1 : Nat)] at hF
        refine lv_aload_n hx hb dX6_told_31 rfl (lv_at hl 2 rfl) ?_
        refine lv_lload_n hx hb dX6_told_32 rfl (lv_at hl 3 rfl) ?_
        refine lv_lload hx hb dX6_told_33 (lv_at hl 1 rfl) ?_
        refine qv_ldiv hx hb dX6_told_35 (by omega) (by omega) (by omega) ?_
        refine va_put (D := (dC, dI)) (ci := 6) (v := .long (lN ((up / a1)))) (ty := .long) (C := RX6) (T := TX6) (N := 14) hx hb hts hin tyX6 tyX6_ok nmX6 hown hK hP hD hS 0 rfl rfl 4 (by decide) lk20 (fun _ h9 => h9) rfl (by decide +kernel) rfl rfl (Nat.le_of_ble_eq_true rfl) dX6_told_36 (fun H locs hP hD hS => ?_)
        have hP : va_P (dC, dI) vwCl (mW q cI cZ w kp tx td (lN ((up / a1))) be su po st nu li fi ga hh) H := hP
        have hD : va_D A (mW q cI cZ w kp tx td (lN ((up / a1))) be su po st nu li fi ga hh) := hD
        refine lv_aload_n hx hb dX6_told_39 rfl (lv_at hl 2 rfl) ?_
        refine lv_lload_n hx hb dX6_told_40 rfl (lv_at hl 4 rfl) ?_
        refine lv_lload hx hb dX6_told_41 (lv_at hl 1 rfl) ?_
        refine qv_ldiv hx hb dX6_told_43 (by omega) (by omega) (by omega) ?_
        refine va_put (D := (dC, dI)) (ci := 6) (v := .long (lN ((dn / a1)))) (ty := .long) (C := RX6) (T := TX6) (N := 14) hx hb hts hin tyX6 tyX6_ok nmX6 hown hK hP hD hS 0 rfl rfl 5 (by decide) lk24 (fun _ h9 => h9) rfl (by decide +kernel) rfl rfl (Nat.le_of_ble_eq_true rfl) dX6_told_44 (fun H locs hP hD hS => ?_)
        have hP : va_P (dC, dI) vwCl (mW q cI cZ w kp tx td (lN ((up / a1))) (lN ((dn / a1))) su po st nu li fi ga hh) H := hP
        have hD : va_D A (mW q cI cZ w kp tx td (lN ((up / a1))) (lN ((dn / a1))) su po st nu li fi ga hh) := hD
        refine lv_iconst (v := nI 1) hx hb dX6_told_47 (by decide) ?_
        have hP9 : va_P (dC, dI) vwCl (mW q cI cZ w kp tx td (lN ((up / a1))) (lN ((dn / a1))) su po st nu li fi ga hh) H := hP
        exact W.iret (v := nI 1) hx hb hr (fun t ht hW => ⟨⟨_, ((lN ((up / a1)), lN ((dn / a1)))), rfl, hO.symm.trans hF, by rw [ht]; exact hP9, va_K.moved hW.alike hK, hD⟩, hS.F ht⟩) hS.2.2 dX6_told_48
      · rw [if_neg c_10] at hF
        refine lv_lload hx hb dX6_told_13 (lv_at hl 1 rfl) ?_
        refine lv_lload hx hb dX6_told_15 (lv_at hl 0 rfl) ?_
        refine qv_lrem hx hb dX6_told_17 (by omega) (by omega) (by omega) ?_
        refine lv_lstore (lv' := [(9, .long (lN ((a1 % b1)))), (7, .long (lN b1)), (5, .long (lN a1)), (0, .ref (q 0)), (1, .long (lN up)), (3, .long (lN dn))]) hx hb dX6_told_18 hl (by decide) rfl (fun ls hl => ?_)
        refine lv_lload hx hb dX6_told_20 (lv_at hl 1 rfl) ?_
        refine lv_lstore (lv' := [(5, .long (lN b1)), (9, .long (lN ((a1 % b1)))), (7, .long (lN b1)), (0, .ref (q 0)), (1, .long (lN up)), (3, .long (lN dn))]) hx hb dX6_told_22 hl (by decide) rfl (fun ls hl => ?_)
        refine lv_lload hx hb dX6_told_24 (lv_at hl 1 rfl) ?_
        refine lv_lstore (lv' := [(7, .long (lN ((a1 % b1)))), (5, .long (lN b1)), (9, .long (lN ((a1 % b1)))), (0, .ref (q 0)), (1, .long (lN up)), (3, .long (lN dn))]) hx hb dX6_told_26 hl (by decide) rfl (fun ls hl => ?_)
        refine lv_goto (tgt := 6) hx hb dX6_told_28 (by decide) ?_
        have m_b : a1 % b1 < b1 := Nat.mod_lt _ (by omega)
        exact ih_6 b1 ((a1 % b1)) H locs (by omega) (by omega) (by omega) (by omega) hP hD hS ls (lv_sub hl [0, 1, 3, 4, 5] rfl) hF
  exact L_6 (dn + 1) up dn s.heap [] (by omega) (by omega) (by omega) (by omega) hP hD hS ls (lv_sub hl [0, 1, 2, 3, 4] rfl) hF
def F_X6_chance_L42 : Nat → (Int32) → (Int32) → (Nat) → (Nat) → (Nat → Int32) → (Nat) × (Nat) × (Nat → Int32)
  | 0, _, _, rw, gd, w1 => (rw, gd, w1)
  | n_42 + 1, n, x, rw, gd, w1 => if 10 ^ (tN n) ≤ rw then (rw, gd, w1) else let1 (F_X6_tries w1) (fun w_50 => let2 (F_X6_scoreBy w_50 rw (tN n)) (fun r_58 w_58 => if tN r_58 < tN x then F_X6_chance_L42 n_42 n x (rw + 1) gd w_58 else F_X6_chance_L42 n_42 n x (rw + 1) (gd + 1) w_58))
def F_X6_chance (w : Nat → Int32) (ab : Int64) (be : Int64) (su : Nat → Int32) (n : Int32) (x : Int32) : Int32 × (Nat → Int32) × (Int64) × (Int64) × (Nat → Int32) := if (F_X6_in n.toInt64 0 4) = true then (if (F_X6_in x.toInt64 0 20) = true then let3 (F_X6_chance_L42 10001 n x 0 0 w) (fun rw gd w1 => let3 (F_X6_told gd (10 ^ (tN n))) (fun r_84 ab_84 be_84 => (r_84, w1, ab_84, be_84, su))) else let2 (F_X6_bad su ((-2))) (fun r_27 su_27 => (r_27, w, ab, be, su_27))) else let2 (F_X6_bad su ((-2))) (fun r_27 su_27 => (r_27, w, ab, be, su_27))
set_option maxHeartbeats 4000000 in
set_option maxRecDepth 100000 in
theorem c_X6_chance (l : Launch) (dC : Nat → ClassId) (dI : Nat → Nat → Nat) (q : Nat → Nat) (cI cZ : ClassId) (sz : Nat) (w : Nat → Int32) (kp : Nat → Int32) (tx : Nat → Int32) (td : Int32) (ab : Int64) (be : Int64) (su : Nat → Int32) (po : Int32) (st : Int32) (nu : Int32) (li : Nat → Int32) (fi : Nat → Int32) (ga : Nat → Int32) (hh : Int64) (n : Int32) (x : Int32) (pB : inB (w 0) 6) (pN : okN (w 2)) : Met l yX6_chance wsX6_chance { frames := 7, cells := 0, slots := 0, locals := 162 } (mPc (dC, dI) vwCl (mT cI cZ) (mW q cI cZ w kp tx td ab be su po st nu li fi ga hh) sz [.ref (q 0), .int n, .int x]) (va_Qi (fun (r : Int32) (u : (Nat → Int32) × (Int64) × (Int64) × (Nat → Int32)) => F_X6_chance w ab be su n x = (r, u)) (mB (dC, dI) vwCl (mT cI cZ) (va_A (mW q cI cZ w kp tx td ab be su po st nu li fi ga hh) sz) (fun u => mW q cI cZ u.1 kp tx td u.2.1 u.2.2.1 u.2.2.2 po st nu li fi ga hh)) (va_A (mW q cI cZ w kp tx td ab be su po st nu li fi ga hh) sz)) 0 0 (va_A (mW q cI cZ w kp tx td ab be su po st nu li fi ga hh) sz) := by
  refine Met.ofW (cc := cX6_chance) (maxL := 6) (ret := (some .int)) (by decide) rfl ?_
  intro p e s m args below meth c s₁ B hml hv
  obtain ⟨rfl, hsz, hP, hK, hD0⟩ := hv
  have hx := B.exec
  have hb := B.bytes
  have hr := B.returns
  have hts := atoms_spec (ws := wsX6_chance) B.pre
  have hown : s.vm.findClass RX6 = some m.cls := findClass_of_methodNamed B.named
  have hlocks := B.notSynchronized
  subst hsz
  have hD := hD0.self (sz := s.heap.size)
  generalize hAe : va_A (mW q cI cZ w kp tx td ab be su po st nu li fi ga hh) s.heap.size = A at hD ⊢
  have hA : ∀ q : Nat, s.heap.size ≤ q → A q := fun q h => by rw [← hAe]; exact Or.inr h
  have hS : va_S A s.heap s.heap [] := va_S.rf
  have hl := lv_entry ([.ref (q 0), .int n, .int x]) (n := 6) (Nat.le_of_ble_eq_true rfl)
  rw [lg_entry_eq]
  generalize (lg_sl ([.ref (q 0), .int n, .int x]) ++ List.replicate (6 - (lg_sl ([.ref (q 0), .int n, .int x])).length) Slot.unset).toArray = ls at hl ⊢
  have hl : lv_has ls 6 [(0, .ref (q 0)), (1, .int n), (2, .int x)] := hl
  obtain ⟨OUT, hO⟩ : ∃ z, z = F_X6_chance w ab be su n x := ⟨_, rfl⟩
  have hF := hO
  unfold F_X6_chance at hF
  have e_pB := tN_eq pB.1
  have b_pB := pB.2
  refine lv_iload_n hx hb dX6_chance_0 rfl (lv_at hl 1 rfl) ?_
  refine lv_i2l hx hb dX6_chance_1 rfl ?_
  refine lv_lconst (v := 0) hx hb dX6_chance_2 (by decide) ?_
  refine lv_ldc2 (v := 4) hx hb hown (hts (.constantLong RX6 212 4) (by decide +kernel)) dX6_chance_3 ?_
  refine qc_Si (As := [.long n.toInt64, .long 0, .long 4]) (rest := []) ⟨hx, hb, hml, hown, hts⟩ (c_X6_in l n.toInt64 0 4) (va_cwS 3 hts gX6_chance_X6_in rfl rfl rfl (by decide +kernel) ⟨Nat.le_of_ble_eq_true rfl, Nat.le_of_ble_eq_true rfl⟩) rfl hl.1 rfl (Nat.le_of_ble_eq_true rfl) dX6_chance_6 ⟨Nat.zero_le _, Nat.zero_le _⟩ (fun r_6 hw_6 => ?_)
  subst hw_6
  refine qv_zif_eq (tgt := 24) hx hb dX6_chance_9 (by decide) (fun c_9 => ?_) (fun c_9 => ?_)
  · rw [if_neg c_9] at hF
    refine lv_aload_n hx hb dX6_chance_24 rfl (lv_at hl 0 rfl) ?_
    refine lv_bipush (v := (-2)) hx hb dX6_chance_25 (by decide) ?_
    refine qc_Vi (C := RX6) (As := [.int ((-2))]) (rest := []) (ci := 6) (k0 := 0) ⟨hx, hb, hml, hown, hts⟩ (c_X6_bad l dC dI q cI cZ s.heap.size w kp tx td ab be su po st nu li fi ga hh ((-2)) ) (cwV 1 hts gX6_chance_X6_bad rfl rfl rfl (by decide +kernel) ⟨Nat.le_of_ble_eq_true rfl, Nat.le_of_ble_eq_true rfl⟩) hK hP hD hS hA rfl rfl rfl rfl hl.1 rfl (Nat.le_of_ble_eq_true rfl) dX6_chance_27 ⟨Nat.zero_le _, Nat.zero_le _⟩ (fun r_27 u_27 H locs hw_27 hP hD hS => ?_)
    obtain ⟨su_27, rfl⟩ : ∃ z, z = u_27 := ⟨_, rfl⟩
    have hP : va_P (dC, dI) vwCl (mW q cI cZ w kp tx td ab be su_27 po st nu li fi ga hh) H := hP
    have hD : va_D A (mW q cI cZ w kp tx td ab be su_27 po st nu li fi ga hh) := hD
    rw [hw_27, let2_mk r_27 su_27] at hF
    have hP9 : va_P (dC, dI) vwCl (mW q cI cZ w kp tx td ab be su_27 po st nu li fi ga hh) H := hP
    exact W.iret (v := r_27) hx hb hr (fun t ht hW => ⟨⟨_, ((w, ab, be, su_27)), rfl, hO.symm.trans hF, by rw [ht]; exact hP9, va_K.moved hW.alike hK, hD⟩, hS.F ht⟩) hS.2.2 dX6_chance_30
  · rw [if_pos c_9] at hF
    obtain ⟨f_n, fa_n, fb_n⟩ := in_nat (lo := 0) (hi := 4) rfl rfl (by decide) (by decide) c_9
    have e_n := tN_eq f_n
    refine lv_iload_n hx hb dX6_chance_12 rfl (lv_at hl 2 rfl) ?_
    refine lv_i2l hx hb dX6_chance_13 rfl ?_
    refine lv_lconst (v := 0) hx hb dX6_chance_14 (by decide) ?_
    refine lv_ldc2 (v := 20) hx hb hown (hts (.constantLong RX6 214 20) (by decide +kernel)) dX6_chance_15 ?_
    refine qc_Si (As := [.long x.toInt64, .long 0, .long 20]) (rest := []) ⟨hx, hb, hml, hown, hts⟩ (c_X6_in l x.toInt64 0 20) (va_cwS 3 hts gX6_chance_X6_in rfl rfl rfl (by decide +kernel) ⟨Nat.le_of_ble_eq_true rfl, Nat.le_of_ble_eq_true rfl⟩) rfl hl.1 rfl (Nat.le_of_ble_eq_true rfl) dX6_chance_18 ⟨Nat.zero_le _, Nat.zero_le _⟩ (fun r_18 hw_18 => ?_)
    subst hw_18
    refine qv_zif_ne (tgt := 31) hx hb dX6_chance_21 (by decide) (fun c_21 => ?_) (fun c_21 => ?_)
    · rw [if_pos c_21] at hF
      obtain ⟨f_x, fa_x, fb_x⟩ := in_nat (lo := 0) (hi := 20) rfl rfl (by decide) (by decide) c_21
      have e_x := tN_eq f_x
      refine lv_iconst (v := nI 0) hx hb dX6_chance_31 (by decide) ?_
      refine lv_istore_n (lv' := [(3, .int (nI 0)), (0, .ref (q 0)), (1, .int n), (2, .int x)]) hx hb dX6_chance_32 rfl hl (by decide) rfl (fun ls hl => ?_)
      refine lv_iload_n hx hb dX6_chance_33 rfl (lv_at hl 2 rfl) ?_
      refine qv_top (e_n) ?_
      have q_n : 10 ^ (tN n) ≤ 10000 := Nat.le_trans (Nat.pow_le_pow_right (by decide) fb_n) (by decide)
      have q2_n : 0 < 10 ^ (tN n) := Nat.pow_pos (by decide)
      refine qc_Si (As := [.int (nI (tN n))]) (rest := []) ⟨hx, hb, hml, hown, hts⟩ (c_X6_rows l (tN n) (by omega)) (va_cwS 1 hts gX6_chance_X6_rows rfl rfl rfl (by decide +kernel) ⟨Nat.le_of_ble_eq_true rfl, Nat.le_of_ble_eq_true rfl⟩) rfl hl.1 rfl (Nat.le_of_ble_eq_true rfl) dX6_chance_34 ⟨Nat.zero_le _, Nat.zero_le _⟩ (fun r_34 hw_34 => ?_)
      subst hw_34
      refine qv_top (rows_nat (by omega)) ?_
      refine lv_istore (lv' := [(4, .int (nI (10 ^ (tN n)))), (3, .int (nI 0)), (0, .ref (q 0)), (1, .int n), (2, .int x)]) hx hb dX6_chance_37 hl (by decide) rfl (fun ls hl => ?_)
      refine lv_iconst (v := nI 0) hx hb dX6_chance_39 (by decide) ?_
      refine lv_istore (lv' := [(5, .int (nI 0)), (4, .int (nI (10 ^ (tN n)))), (3, .int (nI 0)), (0, .ref (q 0)), (1, .int n), (2, .int x)]) hx hb dX6_chance_40 hl (by decide) rfl (fun ls hl => ?_)
      have L_42 : ∀ (n_42 : Nat) (rw : Nat) (gd : Nat) (w1 : Nat → Int32) (H : Heap) (locs : List Loc), rw ≤ 10 ^ (tN n) → gd ≤ rw → w1 0 = w 0 → w1 2 = w 2 → 10 ^ (tN n) - rw < n_42 → va_P (dC, dI) vwCl (mW q cI cZ w1 kp tx td ab be su po st nu li fi ga hh) H → va_D A (mW q cI cZ w1 kp tx td ab be su po st nu li fi ga hh) → va_S A s.heap H locs → ∀ (ls : Array Slot), lv_has ls 6 [(5, .int (nI rw)), (4, .int (nI (10 ^ (tN n)))), (3, .int (nI gd)), (0, .ref (q 0)), (1, .int n), (2, .int x)] → OUT = let3 (F_X6_chance_L42 n_42 n x rw gd w1) (fun rw gd w1 => let3 (F_X6_told gd (10 ^ (tN n))) (fun r_84 ab_84 be_84 => (r_84, w1, ab_84, be_84, su))) → W p l e (headSpec wsX6_chance { frames := 7, cells := 0, slots := 0, locals := 162 }).room s m ([.ref (q 0), .int n, .int x] : List Value).toArray below meth c H locs 0 0 (MQ below (va_Qi (fun (r : Int32) (u : (Nat → Int32) × (Int64) × (Int64) × (Nat → Int32)) => F_X6_chance w ab be su n x = (r, u)) (mB (dC, dI) vwCl (mT cI cZ) A (fun u => mW q cI cZ u.1 kp tx td u.2.1 u.2.2.1 u.2.2.2 po st nu li fi ga hh)) A) ([.ref (q 0), .int n, .int x] : List Value).toArray s 0 0 A) (F0 m 42 ls []) := by
        intro n_42
        induction n_42 with
        | zero => intro rw gd w1 H locs i0 i3 i1 i2 hmu; exact absurd hmu (Nat.not_lt_zero _)
        | succ n_42 ih_42 =>
          intro rw gd w1 H locs i0 i3 i1 i2 hmu_42 hP hD hS ls hl hF
          rw [F_X6_chance_L42] at hF
          refine lv_iload hx hb dX6_chance_42 (lv_at hl 0 rfl) ?_
          refine lv_iload hx hb dX6_chance_44 (lv_at hl 1 rfl) ?_
          refine qv_icmp_ge (tgt := 78) hx hb dX6_chance_46 (by decide) (by omega) (by omega) (fun c_46 => ?_) (fun c_46 => ?_)
          · rw [if_pos c_46] at hF
            rw [let3_mk (rw : Nat) (gd : Nat) (w1 : Nat → Int32)] at hF
            refine lv_aload_n hx hb dX6_chance_78 rfl (lv_at hl 3 rfl) ?_
            refine lv_iload_n hx hb dX6_chance_79 rfl (lv_at hl 2 rfl) ?_
            refine lv_i2l (v := lN gd) hx hb dX6_chance_80 (nI_l (by omega)) ?_
            refine lv_iload hx hb dX6_chance_81 (lv_at hl 1 rfl) ?_
            refine lv_i2l (v := lN (10 ^ (tN n))) hx hb dX6_chance_83 (nI_l (by omega)) ?_
            refine qc_Vi (C := RX6) (As := [.long (lN gd), .long (lN (10 ^ (tN n)))]) (rest := []) (ci := 6) (k0 := 0) ⟨hx, hb, hml, hown, hts⟩ (c_X6_told l dC dI q cI cZ H.size w1 kp tx td ab be su po st nu li fi ga hh gd (10 ^ (tN n)) (by omega) (by omega) (by omega)) (cwV 2 hts gX6_chance_X6_told rfl rfl rfl (by decide +kernel) ⟨Nat.le_of_ble_eq_true rfl, Nat.le_of_ble_eq_true rfl⟩) hK hP hD hS hA rfl rfl rfl rfl hl.1 rfl (Nat.le_of_ble_eq_true rfl) dX6_chance_84 ⟨Nat.zero_le _, Nat.zero_le _⟩ (fun r_84 u_84 H locs hw_84 hP hD hS => ?_)
            obtain ⟨ab_84, be_84⟩ := u_84
            have hP : va_P (dC, dI) vwCl (mW q cI cZ w1 kp tx td ab_84 be_84 su po st nu li fi ga hh) H := hP
            have hD : va_D A (mW q cI cZ w1 kp tx td ab_84 be_84 su po st nu li fi ga hh) := hD
            rw [hw_84, let3_mk r_84 ab_84 be_84] at hF
            have hP9 : va_P (dC, dI) vwCl (mW q cI cZ w1 kp tx td ab_84 be_84 su po st nu li fi ga hh) H := hP
            exact W.iret (v := r_84) hx hb hr (fun t ht hW => ⟨⟨_, ((w1, ab_84, be_84, su)), rfl, hO.symm.trans hF, by rw [ht]; exact hP9, va_K.moved hW.alike hK, hD⟩, hS.F ht⟩) hS.2.2 dX6_chance_87
          · rw [if_neg c_46] at hF
            refine lv_aload_n hx hb dX6_chance_49 rfl (lv_at hl 3 rfl) ?_
            refine qc_Vv (C := RX6) (As := []) (rest := []) (ci := 6) (k0 := 0) ⟨hx, hb, hml, hown, hts⟩ (c_X6_tries l dC dI q cI cZ H.size w1 kp tx td ab be su po st nu li fi ga hh  ) (cwV 0 hts gX6_chance_X6_tries rfl rfl rfl (by decide +kernel) ⟨Nat.le_of_ble_eq_true rfl, Nat.le_of_ble_eq_true rfl⟩) hK hP hD hS hA rfl rfl rfl rfl hl.1 rfl (Nat.le_of_ble_eq_true rfl) dX6_chance_50 ⟨Nat.zero_le _, Nat.zero_le _⟩ (fun u_50 H locs hw_50 hP hD hS => ?_)
            obtain ⟨w_50, rfl⟩ : ∃ z, z = u_50 := ⟨_, rfl⟩
            have hP : va_P (dC, dI) vwCl (mW q cI cZ w_50 kp tx td ab be su po st nu li fi ga hh) H := hP
            have hD : va_D A (mW q cI cZ w_50 kp tx td ab be su po st nu li fi ga hh) := hD
            have t0_50 : w_50 592 = w1 0 := tries_to hw_50 (k := 0) (by decide)
            have t2_50 : w_50 594 = w1 2 := tries_to hw_50 (k := 2) (by decide)
            have u0_50 : w_50 0 = w1 0 := tries_keep hw_50 0 (by decide)
            have u2_50 : w_50 2 = w1 2 := tries_keep hw_50 2 (by decide)
            rw [hw_50, let1_mk w_50] at hF
            refine lv_iload_n hx hb dX6_chance_53 rfl (lv_at hl 2 rfl) ?_
            refine lv_aload_n hx hb dX6_chance_54 rfl (lv_at hl 3 rfl) ?_
            refine lv_iload hx hb dX6_chance_55 (lv_at hl 0 rfl) ?_
            refine lv_iload_n hx hb dX6_chance_57 rfl (lv_at hl 4 rfl) ?_
            refine qv_top (e_n) ?_
            refine qc_Vi (C := RX6) (As := [.int (nI rw), .int (nI (tN n))]) (rest := [.int (nI gd)]) (ci := 6) (k0 := 0) ⟨hx, hb, hml, hown, hts⟩ (c_X6_scoreBy l dC dI q cI cZ H.size w_50 kp tx td ab be su po st nu li fi ga hh rw (tN n) (by omega) (by omega) (by rw [show w_50 592 = w1 0 from t0_50]; exact (by rw [i1]; exact pB : inB (w1 0) 6)) (by rw [show w_50 594 = w1 2 from t2_50]; exact (by rw [i2]; exact pN : okN (w1 2)))) (cwV 2 hts gX6_chance_X6_scoreBy rfl rfl rfl (by decide +kernel) ⟨Nat.le_of_ble_eq_true rfl, Nat.le_of_ble_eq_true rfl⟩) hK hP hD hS hA rfl rfl rfl rfl hl.1 rfl (Nat.le_of_ble_eq_true rfl) dX6_chance_58 ⟨Nat.zero_le _, Nat.zero_le _⟩ (fun r_58 u_58 H locs hw_58 hP hD hS => ?_)
            obtain ⟨w_58, rfl⟩ : ∃ z, z = u_58 := ⟨_, rfl⟩
            have hP : va_P (dC, dI) vwCl (mW q cI cZ w_58 kp tx td ab be su po st nu li fi ga hh) H := hP
            have hD : va_D A (mW q cI cZ w_58 kp tx td ab be su po st nu li fi ga hh) := hD
            have a_58 := scoreBy_at hw_58 (by rw [show w_50 592 = w1 0 from t0_50]; exact (by rw [i1]; exact pB : inB (w1 0) 6)) (by rw [show w_50 594 = w1 2 from t2_50]; exact (by rw [i2]; exact pN : okN (w1 2)))
            have v0_58 : w_58 0 = w1 0 := (a_58.1 0 (by decide)).trans (u0_50)
            have v2_58 : w_58 2 = w1 2 := (a_58.1 2 (by decide)).trans (u2_50)
            have e_58 := tN_eq a_58.2.1
            have b_58 := a_58.2.2
            refine qv_top (e_58) ?_
            rw [hw_58, let2_mk r_58 w_58] at hF
            refine lv_iload_n hx hb dX6_chance_61 rfl (lv_at hl 5 rfl) ?_
            refine qv_top (e_x) ?_
            refine qv_icmp_lt (tgt := 69) hx hb dX6_chance_62 (by decide) (by omega) (by omega) (fun c_62 => ?_) (fun c_62 => ?_)
            · rw [if_pos c_62] at hF
              refine lv_iconst (v := nI 0) hx hb dX6_chance_69 (by decide) ?_
              refine qv_iadd hx hb (gd) dX6_chance_70 (by omega) ?_
              refine lv_istore_n (lv' := [(3, .int (nI gd)), (5, .int (nI rw)), (4, .int (nI (10 ^ (tN n)))), (0, .ref (q 0)), (1, .int n), (2, .int x)]) hx hb dX6_chance_71 rfl hl (by decide) rfl (fun ls hl => ?_)
              refine lv_iinc (v := nI (rw + 1)) (lv' := [(5, .int (nI (rw + 1))), (3, .int (nI gd)), (4, .int (nI (10 ^ (tN n)))), (0, .ref (q 0)), (1, .int n), (2, .int x)]) hx hb dX6_chance_72 hl (k := 1) rfl (qn_inc (c := 1) rfl (by omega)) (by decide) rfl (fun ls hl => ?_)
              refine lv_goto (tgt := 42) hx hb dX6_chance_75 (by decide) ?_
              exact ih_42 (rw + 1) gd w_58 H locs (by omega) (by omega) ((v0_58).trans i1) ((v2_58).trans i2) (by omega) hP hD hS ls (lv_sub hl [0, 2, 1, 3, 4, 5] rfl) hF
            · rw [if_neg c_62] at hF
              refine lv_iconst (v := nI 1) hx hb dX6_chance_65 (by decide) ?_
              refine lv_goto (tgt := 70) hx hb dX6_chance_66 (by decide) ?_
              refine qv_iadd hx hb (gd + 1) dX6_chance_70 (by omega) ?_
              refine lv_istore_n (lv' := [(3, .int (nI (gd + 1))), (5, .int (nI rw)), (4, .int (nI (10 ^ (tN n)))), (0, .ref (q 0)), (1, .int n), (2, .int x)]) hx hb dX6_chance_71 rfl hl (by decide) rfl (fun ls hl => ?_)
              refine lv_iinc (v := nI (rw + 1)) (lv' := [(5, .int (nI (rw + 1))), (3, .int (nI (gd + 1))), (4, .int (nI (10 ^ (tN n)))), (0, .ref (q 0)), (1, .int n), (2, .int x)]) hx hb dX6_chance_72 hl (k := 1) rfl (qn_inc (c := 1) rfl (by omega)) (by decide) rfl (fun ls hl => ?_)
              refine lv_goto (tgt := 42) hx hb dX6_chance_75 (by decide) ?_
              exact ih_42 (rw + 1) (gd + 1) w_58 H locs (by omega) (by omega) ((v0_58).trans i1) ((v2_58).trans i2) (by omega) hP hD hS ls (lv_sub hl [0, 2, 1, 3, 4, 5] rfl) hF
      exact L_42 10001 0 0 w s.heap [] (by omega) (by omega) rfl rfl (by omega) hP hD hS ls (lv_sub hl [0, 1, 2, 3, 4, 5] rfl) hF
    · rw [if_neg c_21] at hF
      refine lv_aload_n hx hb dX6_chance_24 rfl (lv_at hl 0 rfl) ?_
      refine lv_bipush (v := (-2)) hx hb dX6_chance_25 (by decide) ?_
      refine qc_Vi (C := RX6) (As := [.int ((-2))]) (rest := []) (ci := 6) (k0 := 0) ⟨hx, hb, hml, hown, hts⟩ (c_X6_bad l dC dI q cI cZ s.heap.size w kp tx td ab be su po st nu li fi ga hh ((-2)) ) (cwV 1 hts gX6_chance_X6_bad rfl rfl rfl (by decide +kernel) ⟨Nat.le_of_ble_eq_true rfl, Nat.le_of_ble_eq_true rfl⟩) hK hP hD hS hA rfl rfl rfl rfl hl.1 rfl (Nat.le_of_ble_eq_true rfl) dX6_chance_27 ⟨Nat.zero_le _, Nat.zero_le _⟩ (fun r_27 u_27 H locs hw_27 hP hD hS => ?_)
      obtain ⟨su_27, rfl⟩ : ∃ z, z = u_27 := ⟨_, rfl⟩
      have hP : va_P (dC, dI) vwCl (mW q cI cZ w kp tx td ab be su_27 po st nu li fi ga hh) H := hP
      have hD : va_D A (mW q cI cZ w kp tx td ab be su_27 po st nu li fi ga hh) := hD
      rw [hw_27, let2_mk r_27 su_27] at hF
      have hP9 : va_P (dC, dI) vwCl (mW q cI cZ w kp tx td ab be su_27 po st nu li fi ga hh) H := hP
      exact W.iret (v := r_27) hx hb hr (fun t ht hW => ⟨⟨_, ((w, ab, be, su_27)), rfl, hO.symm.trans hF, by rw [ht]; exact hP9, va_K.moved hW.alike hK, hD⟩, hS.F ht⟩) hS.2.2 dX6_chance_30
def F_X6_sumBy_L11 : Nat → (Int32) → (Nat) → (Nat) → (Nat) → (Nat → Int32) → (Nat) × (Nat) × (Nat → Int32)
  | 0, _, _, rw, sm, w1 => (rw, sm, w1)
  | n_11 + 1, nx, n, rw, sm, w1 => if 10 ^ n ≤ rw then (rw, sm, w1) else let1 (F_X6_tries w1) (fun w_19 => let2 (F_X6_scoreBy (upd w_19 594 nx) rw n) (fun r_36 w_36 => F_X6_sumBy_L11 n_11 nx n (rw + 1) (sm + tN r_36) w_36))
def F_X6_sumBy (w : Nat → Int32) (nx : Int32) (n : Nat) : Int32 × (Nat → Int32) := let3 (F_X6_sumBy_L11 10001 nx n 0 0 w) (fun rw sm w1 => (nI sm, w1))
set_option maxHeartbeats 4000000 in
set_option maxRecDepth 100000 in
theorem c_X6_sumBy (l : Launch) (dC : Nat → ClassId) (dI : Nat → Nat → Nat) (q : Nat → Nat) (cI cZ : ClassId) (sz : Nat) (w : Nat → Int32) (kp : Nat → Int32) (tx : Nat → Int32) (td : Int32) (ab : Int64) (be : Int64) (su : Nat → Int32) (po : Int32) (st : Int32) (nu : Int32) (li : Nat → Int32) (fi : Nat → Int32) (ga : Nat → Int32) (hh : Int64) (nx : Int32) (n : Nat) (hn : n ≤ 4) (pB : inB (w 0) 6) (hnx : okN nx) : Met l yX6_sumBy wsX6_sumBy { frames := 7, cells := 0, slots := 0, locals := 162 } (mPc (dC, dI) vwCl (mT cI cZ) (mW q cI cZ w kp tx td ab be su po st nu li fi ga hh) sz [.ref (q 0), .int nx, .int (nI n)]) (va_Qi (fun (r : Int32) (u : (Nat → Int32)) => F_X6_sumBy w nx n = (r, u)) (mB (dC, dI) vwCl (mT cI cZ) (va_A (mW q cI cZ w kp tx td ab be su po st nu li fi ga hh) sz) (fun u => mW q cI cZ u kp tx td ab be su po st nu li fi ga hh)) (va_A (mW q cI cZ w kp tx td ab be su po st nu li fi ga hh) sz)) 0 0 (va_A (mW q cI cZ w kp tx td ab be su po st nu li fi ga hh) sz) := by
  refine Met.ofW (cc := cX6_sumBy) (maxL := 6) (ret := (some .int)) (by decide) rfl ?_
  intro p e s m args below meth c s₁ B hml hv
  obtain ⟨rfl, hsz, hP, hK, hD0⟩ := hv
  have hx := B.exec
  have hb := B.bytes
  have hr := B.returns
  have hts := atoms_spec (ws := wsX6_sumBy) B.pre
  have hown : s.vm.findClass RX6 = some m.cls := findClass_of_methodNamed B.named
  have hlocks := B.notSynchronized
  subst hsz
  have hD := hD0.self (sz := s.heap.size)
  generalize hAe : va_A (mW q cI cZ w kp tx td ab be su po st nu li fi ga hh) s.heap.size = A at hD ⊢
  have hA : ∀ q : Nat, s.heap.size ≤ q → A q := fun q h => by rw [← hAe]; exact Or.inr h
  have hS : va_S A s.heap s.heap [] := va_S.rf
  have hin : ∀ w ∈ wsX60, w ∈ wsX6_sumBy := by decide +kernel
  have lk7 := hts (.fieldLink RX6 7 "PostRoundersModel" "w" "[I") (by decide +kernel)
  have hl := lv_entry ([.ref (q 0), .int nx, .int (nI n)]) (n := 6) (Nat.le_of_ble_eq_true rfl)
  rw [lg_entry_eq]
  generalize (lg_sl ([.ref (q 0), .int nx, .int (nI n)]) ++ List.replicate (6 - (lg_sl ([.ref (q 0), .int nx, .int (nI n)])).length) Slot.unset).toArray = ls at hl ⊢
  have hl : lv_has ls 6 [(0, .ref (q 0)), (1, .int nx), (2, .int (nI n))] := hl
  obtain ⟨OUT, hO⟩ : ∃ z, z = F_X6_sumBy w nx n := ⟨_, rfl⟩
  have hF := hO
  unfold F_X6_sumBy at hF
  have e_pB := tN_eq pB.1
  have b_pB := pB.2
  refine lv_iconst (v := nI 0) hx hb dX6_sumBy_0 (by decide) ?_
  refine lv_istore_n (lv' := [(3, .int (nI 0)), (0, .ref (q 0)), (1, .int nx), (2, .int (nI n))]) hx hb dX6_sumBy_1 rfl hl (by decide) rfl (fun ls hl => ?_)
  refine lv_iload_n hx hb dX6_sumBy_2 rfl (lv_at hl 3 rfl) ?_
  have q_3 : 10 ^ n ≤ 10000 := Nat.le_trans (Nat.pow_le_pow_right (by decide) hn) (by decide)
  have q2_3 : 0 < 10 ^ n := Nat.pow_pos (by decide)
  refine qc_Si (As := [.int (nI n)]) (rest := []) ⟨hx, hb, hml, hown, hts⟩ (c_X6_rows l n (by omega)) (va_cwS 1 hts gX6_sumBy_X6_rows rfl rfl rfl (by decide +kernel) ⟨Nat.le_of_ble_eq_true rfl, Nat.le_of_ble_eq_true rfl⟩) rfl hl.1 rfl (Nat.le_of_ble_eq_true rfl) dX6_sumBy_3 ⟨Nat.zero_le _, Nat.zero_le _⟩ (fun r_3 hw_3 => ?_)
  subst hw_3
  refine qv_top (rows_nat (by omega)) ?_
  refine lv_istore (lv' := [(4, .int (nI (10 ^ n))), (3, .int (nI 0)), (0, .ref (q 0)), (1, .int nx), (2, .int (nI n))]) hx hb dX6_sumBy_6 hl (by decide) rfl (fun ls hl => ?_)
  refine lv_iconst (v := nI 0) hx hb dX6_sumBy_8 (by decide) ?_
  refine lv_istore (lv' := [(5, .int (nI 0)), (4, .int (nI (10 ^ n))), (3, .int (nI 0)), (0, .ref (q 0)), (1, .int nx), (2, .int (nI n))]) hx hb dX6_sumBy_9 hl (by decide) rfl (fun ls hl => ?_)
  have L_11 : ∀ (n_11 : Nat) (rw : Nat) (sm : Nat) (w1 : Nat → Int32) (H : Heap) (locs : List Loc), rw ≤ 10 ^ n → sm ≤ 70 * rw → w1 0 = w 0 → 10 ^ n - rw < n_11 → va_P (dC, dI) vwCl (mW q cI cZ w1 kp tx td ab be su po st nu li fi ga hh) H → va_D A (mW q cI cZ w1 kp tx td ab be su po st nu li fi ga hh) → va_S A s.heap H locs → ∀ (ls : Array Slot), lv_has ls 6 [(5, .int (nI rw)), (4, .int (nI (10 ^ n))), (3, .int (nI sm)), (0, .ref (q 0)), (1, .int nx), (2, .int (nI n))] → OUT = let3 (F_X6_sumBy_L11 n_11 nx n rw sm w1) (fun rw sm w1 => (nI sm, w1)) → W p l e (headSpec wsX6_sumBy { frames := 7, cells := 0, slots := 0, locals := 162 }).room s m ([.ref (q 0), .int nx, .int (nI n)] : List Value).toArray below meth c H locs 0 0 (MQ below (va_Qi (fun (r : Int32) (u : (Nat → Int32)) => F_X6_sumBy w nx n = (r, u)) (mB (dC, dI) vwCl (mT cI cZ) A (fun u => mW q cI cZ u kp tx td ab be su po st nu li fi ga hh)) A) ([.ref (q 0), .int nx, .int (nI n)] : List Value).toArray s 0 0 A) (F0 m 11 ls []) := by
    intro n_11
    induction n_11 with
    | zero => intro rw sm w1 H locs i0 i3 i1 hmu; exact absurd hmu (Nat.not_lt_zero _)
    | succ n_11 ih_11 =>
      intro rw sm w1 H locs i0 i3 i1 hmu_11 hP hD hS ls hl hF
      rw [F_X6_sumBy_L11] at hF
      refine lv_iload hx hb dX6_sumBy_11 (lv_at hl 0 rfl) ?_
      refine lv_iload hx hb dX6_sumBy_13 (lv_at hl 1 rfl) ?_
      refine qv_icmp_ge (tgt := 47) hx hb dX6_sumBy_15 (by decide) (by omega) (by omega) (fun c_15 => ?_) (fun c_15 => ?_)
      · rw [if_pos c_15] at hF
        rw [let3_mk (rw : Nat) (sm : Nat) (w1 : Nat → Int32)] at hF
        refine lv_iload_n hx hb dX6_sumBy_47 rfl (lv_at hl 2 rfl) ?_
        have hP9 : va_P (dC, dI) vwCl (mW q cI cZ w1 kp tx td ab be su po st nu li fi ga hh) H := hP
        exact W.iret (v := nI sm) hx hb hr (fun t ht hW => ⟨⟨_, (w1), rfl, hO.symm.trans hF, by rw [ht]; exact hP9, va_K.moved hW.alike hK, hD⟩, hS.F ht⟩) hS.2.2 dX6_sumBy_48
      · rw [if_neg c_15] at hF
        refine lv_aload_n hx hb dX6_sumBy_18 rfl (lv_at hl 3 rfl) ?_
        refine qc_Vv (C := RX6) (As := []) (rest := []) (ci := 6) (k0 := 0) ⟨hx, hb, hml, hown, hts⟩ (c_X6_tries l dC dI q cI cZ H.size w1 kp tx td ab be su po st nu li fi ga hh  ) (cwV 0 hts gX6_sumBy_X6_tries rfl rfl rfl (by decide +kernel) ⟨Nat.le_of_ble_eq_true rfl, Nat.le_of_ble_eq_true rfl⟩) hK hP hD hS hA rfl rfl rfl rfl hl.1 rfl (Nat.le_of_ble_eq_true rfl) dX6_sumBy_19 ⟨Nat.zero_le _, Nat.zero_le _⟩ (fun u_19 H locs hw_19 hP hD hS => ?_)
        obtain ⟨w_19, rfl⟩ : ∃ z, z = u_19 := ⟨_, rfl⟩
        have hP : va_P (dC, dI) vwCl (mW q cI cZ w_19 kp tx td ab be su po st nu li fi ga hh) H := hP
        have hD : va_D A (mW q cI cZ w_19 kp tx td ab be su po st nu li fi ga hh) := hD
        have t0_19 : w_19 592 = w1 0 := tries_to hw_19 (k := 0) (by decide)
        have t2_19 : w_19 594 = w1 2 := tries_to hw_19 (k := 2) (by decide)
        have u0_19 : w_19 0 = w1 0 := tries_keep hw_19 0 (by decide)
        rw [hw_19, let1_mk w_19] at hF
        refine lv_aload_n hx hb dX6_sumBy_22 rfl (lv_at hl 3 rfl) ?_
        refine va_get (D := (dC, dI)) (ci := 6) (v := .ref (q 1)) (C := RX6) (T := TX6) (N := 14) hx hb hts hin hown hK hP 0 rfl rfl 0 (by decide) lk7 (fun _ h9 => h9) rfl dX6_sumBy_23 ?_
        refine lv_sipush (v := nI 594) hx hb dX6_sumBy_26 (by decide) ?_
        refine lv_iload_n hx hb dX6_sumBy_29 rfl (lv_at hl 4 rfl) ?_
        refine qv_ast (ws' := mW q cI cZ (upd w_19 594 nx) kp tx td ab be su po st nu li fi ga hh) hx hb hK hP hD hS 1 0 rfl rfl (by omega) (by decide) dX6_sumBy_30 rfl (fun H locs hP hD hS => ?_)
        refine lv_iload_n hx hb dX6_sumBy_31 rfl (lv_at hl 2 rfl) ?_
        refine lv_aload_n hx hb dX6_sumBy_32 rfl (lv_at hl 3 rfl) ?_
        refine lv_iload hx hb dX6_sumBy_33 (lv_at hl 0 rfl) ?_
        refine lv_iload_n hx hb dX6_sumBy_35 rfl (lv_at hl 5 rfl) ?_
        refine qc_Vi (C := RX6) (As := [.int (nI rw), .int (nI n)]) (rest := [.int (nI sm)]) (ci := 6) (k0 := 0) ⟨hx, hb, hml, hown, hts⟩ (c_X6_scoreBy l dC dI q cI cZ H.size (upd w_19 594 nx) kp tx td ab be su po st nu li fi ga hh rw n (by omega) (by omega) (by rw [show (upd w_19 594 nx) 592 = w1 0 from (pk_un (by omega)).trans (t0_19)]; exact (by rw [i1]; exact pB : inB (w1 0) 6)) (by rw [show (upd w_19 594 nx) 594 = nx from pk_us]; exact (hnx : okN nx))) (cwV 2 hts gX6_sumBy_X6_scoreBy rfl rfl rfl (by decide +kernel) ⟨Nat.le_of_ble_eq_true rfl, Nat.le_of_ble_eq_true rfl⟩) hK hP hD hS hA rfl rfl rfl rfl hl.1 rfl (Nat.le_of_ble_eq_true rfl) dX6_sumBy_36 ⟨Nat.zero_le _, Nat.zero_le _⟩ (fun r_36 u_36 H locs hw_36 hP hD hS => ?_)
        obtain ⟨w_36, rfl⟩ : ∃ z, z = u_36 := ⟨_, rfl⟩
        have hP : va_P (dC, dI) vwCl (mW q cI cZ w_36 kp tx td ab be su po st nu li fi ga hh) H := hP
        have hD : va_D A (mW q cI cZ w_36 kp tx td ab be su po st nu li fi ga hh) := hD
        have a_36 := scoreBy_at hw_36 (by rw [show (upd w_19 594 nx) 592 = w1 0 from (pk_un (by omega)).trans (t0_19)]; exact (by rw [i1]; exact pB : inB (w1 0) 6)) (by rw [show (upd w_19 594 nx) 594 = nx from pk_us]; exact (hnx : okN nx))
        have v0_36 : w_36 0 = w1 0 := (a_36.1 0 (by decide)).trans ((pk_un (by omega)).trans (u0_19))
        have e_36 := tN_eq a_36.2.1
        have b_36 := a_36.2.2
        refine qv_top (e_36) ?_
        rw [hw_36, let2_mk r_36 w_36] at hF
        refine qv_iadd hx hb (sm + tN r_36) dX6_sumBy_39 (by omega) ?_
        refine lv_istore_n (lv' := [(3, .int (nI (sm + tN r_36))), (5, .int (nI rw)), (4, .int (nI (10 ^ n))), (0, .ref (q 0)), (1, .int nx), (2, .int (nI n))]) hx hb dX6_sumBy_40 rfl hl (by decide) rfl (fun ls hl => ?_)
        refine lv_iinc (v := nI (rw + 1)) (lv' := [(5, .int (nI (rw + 1))), (3, .int (nI (sm + tN r_36))), (4, .int (nI (10 ^ n))), (0, .ref (q 0)), (1, .int nx), (2, .int (nI n))]) hx hb dX6_sumBy_41 hl (k := 1) rfl (qn_inc (c := 1) rfl (by omega)) (by decide) rfl (fun ls hl => ?_)
        refine lv_goto (tgt := 11) hx hb dX6_sumBy_44 (by decide) ?_
        exact ih_11 (rw + 1) (sm + tN r_36) w_36 H locs (by omega) (by omega) ((v0_36).trans i1) (by omega) hP hD hS ls (lv_sub hl [0, 2, 1, 3, 4, 5] rfl) hF
  exact L_11 10001 0 0 w s.heap [] (by omega) (by omega) rfl (by omega) hP hD hS ls (lv_sub hl [0, 1, 2, 3, 4, 5] rfl) hF
theorem L_sumBy (nx : Int32) (n : Nat) (hnx : okN nx) : ∀ (f rw_ sm : Nat) (w1 : Nat → Int32), inB (w1 0) 6 → (∀ j, j < 592 → (F_X6_sumBy_L11 f nx n rw_ sm w1).2.2 j = w1 j) ∧ (F_X6_sumBy_L11 f nx n rw_ sm w1).2.1 ≤ sm + 70 * f
  | 0, _, _, _, _ => ⟨fun _ _ => rfl, Nat.le_add_right _ _⟩
  | f + 1, k, sm, w1, pB => by
    rw [F_X6_sumBy_L11]
    split
    · exact ⟨fun _ _ => rfl, Nat.le_add_right _ _⟩
    · simp only [let1, let2]
      have h := scoreBy_at (w := upd (F_X6_tries w1) 594 nx) (rw_ := k) (n := n) (r := (F_X6_scoreBy (upd (F_X6_tries w1) 594 nx) k n).1) (w' := (F_X6_scoreBy (upd (F_X6_tries w1) 594 nx) k n).2) rfl (by rw [pk_un (by decide), tries_at, if_pos (by decide)]; exact pB) (by rw [pk_us]; exact hnx)
      have hk : ∀ j, j < 592 → (F_X6_scoreBy (upd (F_X6_tries w1) 594 nx) k n).2 j = w1 j := fun j hj => (h.1 j hj).trans ((pk_un (by omega)).trans (tries_keep rfl j hj))
      have ih := L_sumBy nx n hnx f (k + 1) (sm + tN (F_X6_scoreBy (upd (F_X6_tries w1) 594 nx) k n).1) (F_X6_scoreBy (upd (F_X6_tries w1) 594 nx) k n).2 (by rw [hk 0 (by decide)]; exact pB)
      have hb := h.2.2
      exact ⟨fun j hj => (ih.1 j hj).trans (hk j hj), Nat.le_trans ih.2 (by omega)⟩
theorem sumBy_at {w w' : Nat → Int32} {nx : Int32} {n : Nat} {r : Int32} (e : F_X6_sumBy w nx n = (r, w')) (pB : inB (w 0) 6) (hnx : okN nx) : (∀ j, j < 592 → w' j = w j) ∧ inB r 700070 := by
  unfold F_X6_sumBy at e
  simp only [let3] at e
  have h := L_sumBy nx n hnx 10001 0 0 w pB
  rw [← (Prod.mk.inj e).2, ← (Prod.mk.inj e).1]
  exact ⟨h.1, inB_nI (by omega) (by decide)⟩
def F_X6_mean (w : Nat → Int32) (ab : Int64) (be : Int64) (su : Nat → Int32) (n : Int32) : Int32 × (Nat → Int32) × (Int64) × (Int64) × (Nat → Int32) := if (F_X6_in n.toInt64 0 4) = true then let2 (F_X6_sumBy w (w 2) (tN n)) (fun r_28 w_28 => let3 (F_X6_told (tN r_28) (10 ^ (tN n))) (fun r_37 ab_37 be_37 => (r_37, w_28, ab_37, be_37, su))) else let2 (F_X6_bad su ((-2))) (fun r_15 su_15 => (r_15, w, ab, be, su_15))
set_option maxHeartbeats 4000000 in
set_option maxRecDepth 100000 in
theorem c_X6_mean (l : Launch) (dC : Nat → ClassId) (dI : Nat → Nat → Nat) (q : Nat → Nat) (cI cZ : ClassId) (sz : Nat) (w : Nat → Int32) (kp : Nat → Int32) (tx : Nat → Int32) (td : Int32) (ab : Int64) (be : Int64) (su : Nat → Int32) (po : Int32) (st : Int32) (nu : Int32) (li : Nat → Int32) (fi : Nat → Int32) (ga : Nat → Int32) (hh : Int64) (n : Int32) (pB : inB (w 0) 6) (pN : okN (w 2)) : Met l yX6_mean wsX6_mean { frames := 8, cells := 0, slots := 0, locals := 187 } (mPc (dC, dI) vwCl (mT cI cZ) (mW q cI cZ w kp tx td ab be su po st nu li fi ga hh) sz [.ref (q 0), .int n]) (va_Qi (fun (r : Int32) (u : (Nat → Int32) × (Int64) × (Int64) × (Nat → Int32)) => F_X6_mean w ab be su n = (r, u)) (mB (dC, dI) vwCl (mT cI cZ) (va_A (mW q cI cZ w kp tx td ab be su po st nu li fi ga hh) sz) (fun u => mW q cI cZ u.1 kp tx td u.2.1 u.2.2.1 u.2.2.2 po st nu li fi ga hh)) (va_A (mW q cI cZ w kp tx td ab be su po st nu li fi ga hh) sz)) 0 0 (va_A (mW q cI cZ w kp tx td ab be su po st nu li fi ga hh) sz) := by
  refine Met.ofW (cc := cX6_mean) (maxL := 2) (ret := (some .int)) (by decide) rfl ?_
  intro p e s m args below meth c s₁ B hml hv
  obtain ⟨rfl, hsz, hP, hK, hD0⟩ := hv
  have hx := B.exec
  have hb := B.bytes
  have hr := B.returns
  have hts := atoms_spec (ws := wsX6_mean) B.pre
  have hown : s.vm.findClass RX6 = some m.cls := findClass_of_methodNamed B.named
  have hlocks := B.notSynchronized
  subst hsz
  have hD := hD0.self (sz := s.heap.size)
  generalize hAe : va_A (mW q cI cZ w kp tx td ab be su po st nu li fi ga hh) s.heap.size = A at hD ⊢
  have hA : ∀ q : Nat, s.heap.size ≤ q → A q := fun q h => by rw [← hAe]; exact Or.inr h
  have hS : va_S A s.heap s.heap [] := va_S.rf
  have hin : ∀ w ∈ wsX60, w ∈ wsX6_mean := by decide +kernel
  have lk7 := hts (.fieldLink RX6 7 "PostRoundersModel" "w" "[I") (by decide +kernel)
  have hl := lv_entry ([.ref (q 0), .int n]) (n := 2) (Nat.le_of_ble_eq_true rfl)
  rw [lg_entry_eq]
  generalize (lg_sl ([.ref (q 0), .int n]) ++ List.replicate (2 - (lg_sl ([.ref (q 0), .int n])).length) Slot.unset).toArray = ls at hl ⊢
  have hl : lv_has ls 2 [(0, .ref (q 0)), (1, .int n)] := hl
  obtain ⟨OUT, hO⟩ : ∃ z, z = F_X6_mean w ab be su n := ⟨_, rfl⟩
  have hF := hO
  unfold F_X6_mean at hF
  have e_pB := tN_eq pB.1
  have b_pB := pB.2
  refine lv_iload_n hx hb dX6_mean_0 rfl (lv_at hl 1 rfl) ?_
  refine lv_i2l hx hb dX6_mean_1 rfl ?_
  refine lv_lconst (v := 0) hx hb dX6_mean_2 (by decide) ?_
  refine lv_ldc2 (v := 4) hx hb hown (hts (.constantLong RX6 212 4) (by decide +kernel)) dX6_mean_3 ?_
  refine qc_Si (As := [.long n.toInt64, .long 0, .long 4]) (rest := []) ⟨hx, hb, hml, hown, hts⟩ (c_X6_in l n.toInt64 0 4) (va_cwS 3 hts gX6_mean_X6_in rfl rfl rfl (by decide +kernel) ⟨Nat.le_of_ble_eq_true rfl, Nat.le_of_ble_eq_true rfl⟩) rfl hl.1 rfl (Nat.le_of_ble_eq_true rfl) dX6_mean_6 ⟨Nat.zero_le _, Nat.zero_le _⟩ (fun r_6 hw_6 => ?_)
  subst hw_6
  refine qv_zif_ne (tgt := 19) hx hb dX6_mean_9 (by decide) (fun c_9 => ?_) (fun c_9 => ?_)
  · rw [if_pos c_9] at hF
    obtain ⟨f_n, fa_n, fb_n⟩ := in_nat (lo := 0) (hi := 4) rfl rfl (by decide) (by decide) c_9
    have e_n := tN_eq f_n
    refine lv_aload_n hx hb dX6_mean_19 rfl (lv_at hl 0 rfl) ?_
    refine lv_aload_n hx hb dX6_mean_20 rfl (lv_at hl 0 rfl) ?_
    refine lv_aload_n hx hb dX6_mean_21 rfl (lv_at hl 0 rfl) ?_
    refine va_get (D := (dC, dI)) (ci := 6) (v := .ref (q 1)) (C := RX6) (T := TX6) (N := 14) hx hb hts hin hown hK hP 0 rfl rfl 0 (by decide) lk7 (fun _ h9 => h9) rfl dX6_mean_22 ?_
    refine lv_iconst (v := nI 2) hx hb dX6_mean_25 (by decide) ?_
    refine qv_ald (v := w 2) hx hb hK hP 1 0 rfl rfl (by omega) (by decide) (rfl) dX6_mean_26 ?_
    refine lv_iload_n hx hb dX6_mean_27 rfl (lv_at hl 1 rfl) ?_
    refine qv_top (e_n) ?_
    refine qc_Vi (C := RX6) (As := [.int (w 2), .int (nI (tN n))]) (rest := [.ref (q 0)]) (ci := 6) (k0 := 0) ⟨hx, hb, hml, hown, hts⟩ (c_X6_sumBy l dC dI q cI cZ s.heap.size w kp tx td ab be su po st nu li fi ga hh (w 2) (tN n) (by omega) (pB : inB (w 0) 6) (by assumption)) (cwV 2 hts gX6_mean_X6_sumBy rfl rfl rfl (by decide +kernel) ⟨Nat.le_of_ble_eq_true rfl, Nat.le_of_ble_eq_true rfl⟩) hK hP hD hS hA rfl rfl rfl rfl hl.1 rfl (Nat.le_of_ble_eq_true rfl) dX6_mean_28 ⟨Nat.zero_le _, Nat.zero_le _⟩ (fun r_28 u_28 H locs hw_28 hP hD hS => ?_)
    obtain ⟨w_28, rfl⟩ : ∃ z, z = u_28 := ⟨_, rfl⟩
    have hP : va_P (dC, dI) vwCl (mW q cI cZ w_28 kp tx td ab be su po st nu li fi ga hh) H := hP
    have hD : va_D A (mW q cI cZ w_28 kp tx td ab be su po st nu li fi ga hh) := hD
    have a_28 := sumBy_at hw_28 (pB : inB (w 0) 6) (by assumption)
    have v0_28 : w_28 0 = w 0 := a_28.1 0 (by decide)
    have e_28 := tN_eq a_28.2.1
    have b_28 := a_28.2.2
    refine qv_top (e_28) ?_
    rw [hw_28, let2_mk r_28 w_28] at hF
    refine lv_i2l (v := lN (tN r_28)) hx hb dX6_mean_31 (nI_l (by omega)) ?_
    refine lv_iload_n hx hb dX6_mean_32 rfl (lv_at hl 1 rfl) ?_
    refine qv_top (e_n) ?_
    have q_n : 10 ^ (tN n) ≤ 10000 := Nat.le_trans (Nat.pow_le_pow_right (by decide) fb_n) (by decide)
    have q2_n : 0 < 10 ^ (tN n) := Nat.pow_pos (by decide)
    refine qc_Si (As := [.int (nI (tN n))]) (rest := [.long (lN (tN r_28)), .ref (q 0)]) ⟨hx, hb, hml, hown, hts⟩ (c_X6_rows l (tN n) (by omega)) (va_cwS 1 hts gX6_mean_X6_rows rfl rfl rfl (by decide +kernel) ⟨Nat.le_of_ble_eq_true rfl, Nat.le_of_ble_eq_true rfl⟩) rfl hl.1 rfl (Nat.le_of_ble_eq_true rfl) dX6_mean_33 ⟨Nat.zero_le _, Nat.zero_le _⟩ (fun r_33 hw_33 => ?_)
    subst hw_33
    refine qv_top (rows_nat (by omega)) ?_
    refine lv_i2l (v := lN (10 ^ (tN n))) hx hb dX6_mean_36 (nI_l (by omega)) ?_
    refine qc_Vi (C := RX6) (As := [.long (lN (tN r_28)), .long (lN (10 ^ (tN n)))]) (rest := []) (ci := 6) (k0 := 0) ⟨hx, hb, hml, hown, hts⟩ (c_X6_told l dC dI q cI cZ H.size w_28 kp tx td ab be su po st nu li fi ga hh (tN r_28) (10 ^ (tN n)) (by omega) (by omega) (by omega)) (cwV 2 hts gX6_mean_X6_told rfl rfl rfl (by decide +kernel) ⟨Nat.le_of_ble_eq_true rfl, Nat.le_of_ble_eq_true rfl⟩) hK hP hD hS hA rfl rfl rfl rfl hl.1 rfl (Nat.le_of_ble_eq_true rfl) dX6_mean_37 ⟨Nat.zero_le _, Nat.zero_le _⟩ (fun r_37 u_37 H locs hw_37 hP hD hS => ?_)
    obtain ⟨ab_37, be_37⟩ := u_37
    have hP : va_P (dC, dI) vwCl (mW q cI cZ w_28 kp tx td ab_37 be_37 su po st nu li fi ga hh) H := hP
    have hD : va_D A (mW q cI cZ w_28 kp tx td ab_37 be_37 su po st nu li fi ga hh) := hD
    rw [hw_37, let3_mk r_37 ab_37 be_37] at hF
    have hP9 : va_P (dC, dI) vwCl (mW q cI cZ w_28 kp tx td ab_37 be_37 su po st nu li fi ga hh) H := hP
    exact W.iret (v := r_37) hx hb hr (fun t ht hW => ⟨⟨_, ((w_28, ab_37, be_37, su)), rfl, hO.symm.trans hF, by rw [ht]; exact hP9, va_K.moved hW.alike hK, hD⟩, hS.F ht⟩) hS.2.2 dX6_mean_40
  · rw [if_neg c_9] at hF
    refine lv_aload_n hx hb dX6_mean_12 rfl (lv_at hl 0 rfl) ?_
    refine lv_bipush (v := (-2)) hx hb dX6_mean_13 (by decide) ?_
    refine qc_Vi (C := RX6) (As := [.int ((-2))]) (rest := []) (ci := 6) (k0 := 0) ⟨hx, hb, hml, hown, hts⟩ (c_X6_bad l dC dI q cI cZ s.heap.size w kp tx td ab be su po st nu li fi ga hh ((-2)) ) (cwV 1 hts gX6_mean_X6_bad rfl rfl rfl (by decide +kernel) ⟨Nat.le_of_ble_eq_true rfl, Nat.le_of_ble_eq_true rfl⟩) hK hP hD hS hA rfl rfl rfl rfl hl.1 rfl (Nat.le_of_ble_eq_true rfl) dX6_mean_15 ⟨Nat.zero_le _, Nat.zero_le _⟩ (fun r_15 u_15 H locs hw_15 hP hD hS => ?_)
    obtain ⟨su_15, rfl⟩ : ∃ z, z = u_15 := ⟨_, rfl⟩
    have hP : va_P (dC, dI) vwCl (mW q cI cZ w kp tx td ab be su_15 po st nu li fi ga hh) H := hP
    have hD : va_D A (mW q cI cZ w kp tx td ab be su_15 po st nu li fi ga hh) := hD
    rw [hw_15, let2_mk r_15 su_15] at hF
    have hP9 : va_P (dC, dI) vwCl (mW q cI cZ w kp tx td ab be su_15 po st nu li fi ga hh) H := hP
    exact W.iret (v := r_15) hx hb hr (fun t ht hW => ⟨⟨_, ((w, ab, be, su_15)), rfl, hO.symm.trans hF, by rw [ht]; exact hP9, va_K.moved hW.alike hK, hD⟩, hS.F ht⟩) hS.2.2 dX6_mean_18
def F_X6_send_L26 : Nat → (Int32) → (Nat → Int32) → (Nat) → (Int32) → (Int32) → (Nat → Int32) → (Nat) × (Int32) × (Int32) × (Nat → Int32)
  | 0, _, _, k, bs, ms, w1 => (k, bs, ms, w1)
  | n_26 + 1, n, w, k, bs, ms, w1 => if tN (w 0) ≤ k then (k, bs, ms, w1) else (if (w1 (k + 17)) = 0 then let2 (F_X6_sumBy w1 (nI k) (tN n)) (fun r_54 w_54 => if (nI (tN r_54)) ≤ ms then F_X6_send_L26 n_26 n w (k + 1) bs ms w_54 else F_X6_send_L26 n_26 n w (k + 1) (nI k) (nI (tN r_54)) w_54) else F_X6_send_L26 n_26 n w (k + 1) bs ms w1)
def F_X6_send (w : Nat → Int32) (su : Nat → Int32) (n : Int32) : Int32 × (Nat → Int32) × (Nat → Int32) := if (F_X6_in n.toInt64 1 3) = true then let4 (F_X6_send_L26 7 n w 0 ((-1)) ((-1)) w) (fun k bs ms w1 => (bs, w1, su)) else let2 (F_X6_bad su ((-2))) (fun r_15 su_15 => (r_15, w, su_15))
set_option maxHeartbeats 4000000 in
set_option maxRecDepth 100000 in
theorem c_X6_send (l : Launch) (dC : Nat → ClassId) (dI : Nat → Nat → Nat) (q : Nat → Nat) (cI cZ : ClassId) (sz : Nat) (w : Nat → Int32) (kp : Nat → Int32) (tx : Nat → Int32) (td : Int32) (ab : Int64) (be : Int64) (su : Nat → Int32) (po : Int32) (st : Int32) (nu : Int32) (li : Nat → Int32) (fi : Nat → Int32) (ga : Nat → Int32) (hh : Int64) (n : Int32) (pB : inB (w 0) 6) : Met l yX6_send wsX6_send { frames := 8, cells := 0, slots := 0, locals := 187 } (mPc (dC, dI) vwCl (mT cI cZ) (mW q cI cZ w kp tx td ab be su po st nu li fi ga hh) sz [.ref (q 0), .int n]) (va_Qi (fun (r : Int32) (u : (Nat → Int32) × (Nat → Int32)) => F_X6_send w su n = (r, u)) (mB (dC, dI) vwCl (mT cI cZ) (va_A (mW q cI cZ w kp tx td ab be su po st nu li fi ga hh) sz) (fun u => mW q cI cZ u.1 kp tx td ab be u.2 po st nu li fi ga hh)) (va_A (mW q cI cZ w kp tx td ab be su po st nu li fi ga hh) sz)) 0 0 (va_A (mW q cI cZ w kp tx td ab be su po st nu li fi ga hh) sz) := by
  refine Met.ofW (cc := cX6_send) (maxL := 6) (ret := (some .int)) (by decide) rfl ?_
  intro p e s m args below meth c s₁ B hml hv
  obtain ⟨rfl, hsz, hP, hK, hD0⟩ := hv
  have hx := B.exec
  have hb := B.bytes
  have hr := B.returns
  have hts := atoms_spec (ws := wsX6_send) B.pre
  have hown : s.vm.findClass RX6 = some m.cls := findClass_of_methodNamed B.named
  have hlocks := B.notSynchronized
  subst hsz
  have hD := hD0.self (sz := s.heap.size)
  generalize hAe : va_A (mW q cI cZ w kp tx td ab be su po st nu li fi ga hh) s.heap.size = A at hD ⊢
  have hA : ∀ q : Nat, s.heap.size ≤ q → A q := fun q h => by rw [← hAe]; exact Or.inr h
  have hS : va_S A s.heap s.heap [] := va_S.rf
  have hin : ∀ w ∈ wsX60, w ∈ wsX6_send := by decide +kernel
  have lk7 := hts (.fieldLink RX6 7 "PostRoundersModel" "w" "[I") (by decide +kernel)
  have hl := lv_entry ([.ref (q 0), .int n]) (n := 6) (Nat.le_of_ble_eq_true rfl)
  rw [lg_entry_eq]
  generalize (lg_sl ([.ref (q 0), .int n]) ++ List.replicate (6 - (lg_sl ([.ref (q 0), .int n])).length) Slot.unset).toArray = ls at hl ⊢
  have hl : lv_has ls 6 [(0, .ref (q 0)), (1, .int n)] := hl
  obtain ⟨OUT, hO⟩ : ∃ z, z = F_X6_send w su n := ⟨_, rfl⟩
  have hF := hO
  unfold F_X6_send at hF
  have e_pB := tN_eq pB.1
  have b_pB := pB.2
  refine lv_iload_n hx hb dX6_send_0 rfl (lv_at hl 1 rfl) ?_
  refine lv_i2l hx hb dX6_send_1 rfl ?_
  refine lv_lconst (v := 1) hx hb dX6_send_2 (by decide) ?_
  refine lv_ldc2 (v := 3) hx hb hown (hts (.constantLong RX6 78 3) (by decide +kernel)) dX6_send_3 ?_
  refine qc_Si (As := [.long n.toInt64, .long 1, .long 3]) (rest := []) ⟨hx, hb, hml, hown, hts⟩ (c_X6_in l n.toInt64 1 3) (va_cwS 3 hts gX6_send_X6_in rfl rfl rfl (by decide +kernel) ⟨Nat.le_of_ble_eq_true rfl, Nat.le_of_ble_eq_true rfl⟩) rfl hl.1 rfl (Nat.le_of_ble_eq_true rfl) dX6_send_6 ⟨Nat.zero_le _, Nat.zero_le _⟩ (fun r_6 hw_6 => ?_)
  subst hw_6
  refine qv_zif_ne (tgt := 19) hx hb dX6_send_9 (by decide) (fun c_9 => ?_) (fun c_9 => ?_)
  · rw [if_pos c_9] at hF
    obtain ⟨f_n, fa_n, fb_n⟩ := in_nat (lo := 1) (hi := 3) rfl rfl (by decide) (by decide) c_9
    have e_n := tN_eq f_n
    refine lv_iconst (v := (-1)) hx hb dX6_send_19 (by decide) ?_
    refine lv_istore_n (lv' := [(2, .int ((-1))), (0, .ref (q 0)), (1, .int n)]) hx hb dX6_send_20 rfl hl (by decide) rfl (fun ls hl => ?_)
    refine lv_iconst (v := (-1)) hx hb dX6_send_21 (by decide) ?_
    refine lv_istore_n (lv' := [(3, .int ((-1))), (2, .int ((-1))), (0, .ref (q 0)), (1, .int n)]) hx hb dX6_send_22 rfl hl (by decide) rfl (fun ls hl => ?_)
    refine lv_iconst (v := nI 0) hx hb dX6_send_23 (by decide) ?_
    refine lv_istore (lv' := [(4, .int (nI 0)), (3, .int ((-1))), (2, .int ((-1))), (0, .ref (q 0)), (1, .int n)]) hx hb dX6_send_24 hl (by decide) rfl (fun ls hl => ?_)
    have L_26 : ∀ (n_26 : Nat) (k : Nat) (bs : Int32) (ms : Int32) (w1 : Nat → Int32) (H : Heap) (locs : List Loc), k ≤ tN (w 0) → w1 0 = w 0 → tN (w 0) - k < n_26 → va_P (dC, dI) vwCl (mW q cI cZ w1 kp tx td ab be su po st nu li fi ga hh) H → va_D A (mW q cI cZ w1 kp tx td ab be su po st nu li fi ga hh) → va_S A s.heap H locs → ∀ (ls : Array Slot), lv_has ls 6 [(4, .int (nI k)), (3, .int ms), (2, .int bs), (0, .ref (q 0)), (1, .int n)] → OUT = let4 (F_X6_send_L26 n_26 n w k bs ms w1) (fun k bs ms w1 => (bs, w1, su)) → W p l e (headSpec wsX6_send { frames := 8, cells := 0, slots := 0, locals := 187 }).room s m ([.ref (q 0), .int n] : List Value).toArray below meth c H locs 0 0 (MQ below (va_Qi (fun (r : Int32) (u : (Nat → Int32) × (Nat → Int32)) => F_X6_send w su n = (r, u)) (mB (dC, dI) vwCl (mT cI cZ) A (fun u => mW q cI cZ u.1 kp tx td ab be u.2 po st nu li fi ga hh)) A) ([.ref (q 0), .int n] : List Value).toArray s 0 0 A) (F0 m 26 ls []) := by
      intro n_26
      induction n_26 with
      | zero => intro k bs ms w1 H locs i0 i1 hmu; exact absurd hmu (Nat.not_lt_zero _)
      | succ n_26 ih_26 =>
        intro k bs ms w1 H locs i0 i1 hmu_26 hP hD hS ls hl hF
        rw [F_X6_send_L26] at hF
        refine lv_iload hx hb dX6_send_26 (lv_at hl 0 rfl) ?_
        refine lv_aload_n hx hb dX6_send_28 rfl (lv_at hl 3 rfl) ?_
        refine va_get (D := (dC, dI)) (ci := 6) (v := .ref (q 1)) (C := RX6) (T := TX6) (N := 14) hx hb hts hin hown hK hP 0 rfl rfl 0 (by decide) lk7 (fun _ h9 => h9) rfl dX6_send_29 ?_
        refine lv_iconst (v := nI 0) hx hb dX6_send_32 (by decide) ?_
        refine qv_ald (v := w1 0) hx hb hK hP 1 0 rfl rfl (by omega) (by decide) (rfl) dX6_send_33 ?_
        refine qv_top (i1.trans (e_pB)) ?_
        refine qv_icmp_ge (tgt := 91) hx hb dX6_send_34 (by decide) (by omega) (by omega) (fun c_34 => ?_) (fun c_34 => ?_)
        · rw [if_pos c_34] at hF
          rw [let4_mk (k : Nat) (bs : Int32) (ms : Int32) (w1 : Nat → Int32)] at hF
          refine lv_iload_n hx hb dX6_send_91 rfl (lv_at hl 2 rfl) ?_
          have hP9 : va_P (dC, dI) vwCl (mW q cI cZ w1 kp tx td ab be su po st nu li fi ga hh) H := hP
          exact W.iret (v := bs) hx hb hr (fun t ht hW => ⟨⟨_, ((w1, su)), rfl, hO.symm.trans hF, by rw [ht]; exact hP9, va_K.moved hW.alike hK, hD⟩, hS.F ht⟩) hS.2.2 dX6_send_92
        · rw [if_neg c_34] at hF
          refine lv_aload_n hx hb dX6_send_37 rfl (lv_at hl 3 rfl) ?_
          refine va_get (D := (dC, dI)) (ci := 6) (v := .ref (q 1)) (C := RX6) (T := TX6) (N := 14) hx hb hts hin hown hK hP 0 rfl rfl 0 (by decide) lk7 (fun _ h9 => h9) rfl dX6_send_38 ?_
          refine lv_bipush (v := nI 17) hx hb dX6_send_41 (by decide) ?_
          refine lv_iload hx hb dX6_send_43 (lv_at hl 0 rfl) ?_
          refine qv_iadd hx hb (k + 17) dX6_send_45 (by omega) ?_
          refine qv_ald (v := w1 (k + 17)) hx hb hK hP 1 0 rfl rfl (by omega) (by decide) (rfl) dX6_send_46 ?_
          refine lv_if_ne (tgt := 85) hx hb dX6_send_47 (by decide) (fun c_47 => ?_) (fun c_47 => ?_)
          · rw [if_neg c_47] at hF
            refine lv_iinc (v := nI (k + 1)) (lv' := [(4, .int (nI (k + 1))), (3, .int ms), (2, .int bs), (0, .ref (q 0)), (1, .int n)]) hx hb dX6_send_85 hl (k := 0) rfl (qn_inc (c := 1) rfl (by omega)) (by decide) rfl (fun ls hl => ?_)
            refine lv_goto (tgt := 26) hx hb dX6_send_88 (by decide) ?_
            exact ih_26 (k + 1) bs ms w1 H locs (by omega) i1 (by omega) hP hD hS ls (lv_sub hl [0, 1, 2, 3, 4] rfl) hF
          · rw [if_pos c_47] at hF
            refine lv_aload_n hx hb dX6_send_50 rfl (lv_at hl 3 rfl) ?_
            refine lv_iload hx hb dX6_send_51 (lv_at hl 0 rfl) ?_
            refine lv_iload_n hx hb dX6_send_53 rfl (lv_at hl 4 rfl) ?_
            refine qv_top (e_n) ?_
            refine qc_Vi (C := RX6) (As := [.int (nI k), .int (nI (tN n))]) (rest := []) (ci := 6) (k0 := 0) ⟨hx, hb, hml, hown, hts⟩ (c_X6_sumBy l dC dI q cI cZ H.size w1 kp tx td ab be su po st nu li fi ga hh (nI k) (tN n) (by omega) (by rw [i1]; exact pB : inB (w1 0) 6) (okN_nI (by omega))) (cwV 2 hts gX6_send_X6_sumBy rfl rfl rfl (by decide +kernel) ⟨Nat.le_of_ble_eq_true rfl, Nat.le_of_ble_eq_true rfl⟩) hK hP hD hS hA rfl rfl rfl rfl hl.1 rfl (Nat.le_of_ble_eq_true rfl) dX6_send_54 ⟨Nat.zero_le _, Nat.zero_le _⟩ (fun r_54 u_54 H locs hw_54 hP hD hS => ?_)
            obtain ⟨w_54, rfl⟩ : ∃ z, z = u_54 := ⟨_, rfl⟩
            have hP : va_P (dC, dI) vwCl (mW q cI cZ w_54 kp tx td ab be su po st nu li fi ga hh) H := hP
            have hD : va_D A (mW q cI cZ w_54 kp tx td ab be su po st nu li fi ga hh) := hD
            have a_54 := sumBy_at hw_54 (by rw [i1]; exact pB : inB (w1 0) 6) (okN_nI (by omega))
            have v0_54 : w_54 0 = w1 0 := a_54.1 0 (by decide)
            have e_54 := tN_eq a_54.2.1
            have b_54 := a_54.2.2
            refine qv_top (e_54) ?_
            rw [hw_54, let2_mk r_54 w_54] at hF
            refine lv_istore (lv' := [(5, .int (nI (tN r_54))), (4, .int (nI k)), (3, .int ms), (2, .int bs), (0, .ref (q 0)), (1, .int n)]) hx hb dX6_send_57 hl (by decide) rfl (fun ls hl => ?_)
            refine lv_iload hx hb dX6_send_59 (lv_at hl 0 rfl) ?_
            refine lv_iload_n hx hb dX6_send_61 rfl (lv_at hl 2 rfl) ?_
            refine lv_icmp_le (tgt := 70) hx hb dX6_send_62 (by decide) (fun c_62 => ?_) (fun c_62 => ?_)
            · rw [if_pos c_62] at hF
              refine lv_iload_n hx hb dX6_send_70 rfl (lv_at hl 3 rfl) ?_
              refine lv_istore_n (lv' := [(2, .int bs), (5, .int (nI (tN r_54))), (4, .int (nI k)), (3, .int ms), (0, .ref (q 0)), (1, .int n)]) hx hb dX6_send_71 rfl hl (by decide) rfl (fun ls hl => ?_)
              refine lv_iload hx hb dX6_send_72 (lv_at hl 1 rfl) ?_
              refine lv_iload_n hx hb dX6_send_74 rfl (lv_at hl 3 rfl) ?_
              refine lv_icmp_le (tgt := 83) hx hb dX6_send_75 (by decide) (fun _ => ?_) (fun c_75 => absurd c_62 c_75)
              refine lv_iload_n hx hb dX6_send_83 rfl (lv_at hl 3 rfl) ?_
              refine lv_istore_n (lv' := [(3, .int ms), (2, .int bs), (5, .int (nI (tN r_54))), (4, .int (nI k)), (0, .ref (q 0)), (1, .int n)]) hx hb dX6_send_84 rfl hl (by decide) rfl (fun ls hl => ?_)
              refine lv_iinc (v := nI (k + 1)) (lv' := [(4, .int (nI (k + 1))), (3, .int ms), (2, .int bs), (5, .int (nI (tN r_54))), (0, .ref (q 0)), (1, .int n)]) hx hb dX6_send_85 hl (k := 3) rfl (qn_inc (c := 1) rfl (by omega)) (by decide) rfl (fun ls hl => ?_)
              refine lv_goto (tgt := 26) hx hb dX6_send_88 (by decide) ?_
              exact ih_26 (k + 1) bs ms w_54 H locs (by omega) ((v0_54).trans i1) (by omega) hP hD hS ls (lv_sub hl [0, 1, 2, 4, 5] rfl) hF
            · rw [if_neg c_62] at hF
              refine lv_iload hx hb dX6_send_65 (lv_at hl 1 rfl) ?_
              refine lv_goto (tgt := 71) hx hb dX6_send_67 (by decide) ?_
              refine lv_istore_n (lv' := [(2, .int (nI k)), (5, .int (nI (tN r_54))), (4, .int (nI k)), (3, .int ms), (0, .ref (q 0)), (1, .int n)]) hx hb dX6_send_71 rfl hl (by decide) rfl (fun ls hl => ?_)
              refine lv_iload hx hb dX6_send_72 (lv_at hl 1 rfl) ?_
              refine lv_iload_n hx hb dX6_send_74 rfl (lv_at hl 3 rfl) ?_
              refine lv_icmp_le (tgt := 83) hx hb dX6_send_75 (by decide) (fun c_75 => absurd c_75 c_62) (fun _ => ?_)
              refine lv_iload hx hb dX6_send_78 (lv_at hl 1 rfl) ?_
              refine lv_goto (tgt := 84) hx hb dX6_send_80 (by decide) ?_
              refine lv_istore_n (lv' := [(3, .int (nI (tN r_54))), (2, .int (nI k)), (5, .int (nI (tN r_54))), (4, .int (nI k)), (0, .ref (q 0)), (1, .int n)]) hx hb dX6_send_84 rfl hl (by decide) rfl (fun ls hl => ?_)
              refine lv_iinc (v := nI (k + 1)) (lv' := [(4, .int (nI (k + 1))), (3, .int (nI (tN r_54))), (2, .int (nI k)), (5, .int (nI (tN r_54))), (0, .ref (q 0)), (1, .int n)]) hx hb dX6_send_85 hl (k := 3) rfl (qn_inc (c := 1) rfl (by omega)) (by decide) rfl (fun ls hl => ?_)
              refine lv_goto (tgt := 26) hx hb dX6_send_88 (by decide) ?_
              exact ih_26 (k + 1) (nI k) (nI (tN r_54)) w_54 H locs (by omega) ((v0_54).trans i1) (by omega) hP hD hS ls (lv_sub hl [0, 1, 2, 4, 5] rfl) hF
    exact L_26 7 0 ((-1)) ((-1)) w s.heap [] (by omega) rfl (by omega) hP hD hS ls (lv_sub hl [0, 1, 2, 3, 4] rfl) hF
  · rw [if_neg c_9] at hF
    refine lv_aload_n hx hb dX6_send_12 rfl (lv_at hl 0 rfl) ?_
    refine lv_bipush (v := (-2)) hx hb dX6_send_13 (by decide) ?_
    refine qc_Vi (C := RX6) (As := [.int ((-2))]) (rest := []) (ci := 6) (k0 := 0) ⟨hx, hb, hml, hown, hts⟩ (c_X6_bad l dC dI q cI cZ s.heap.size w kp tx td ab be su po st nu li fi ga hh ((-2)) ) (cwV 1 hts gX6_send_X6_bad rfl rfl rfl (by decide +kernel) ⟨Nat.le_of_ble_eq_true rfl, Nat.le_of_ble_eq_true rfl⟩) hK hP hD hS hA rfl rfl rfl rfl hl.1 rfl (Nat.le_of_ble_eq_true rfl) dX6_send_15 ⟨Nat.zero_le _, Nat.zero_le _⟩ (fun r_15 u_15 H locs hw_15 hP hD hS => ?_)
    obtain ⟨su_15, rfl⟩ : ∃ z, z = u_15 := ⟨_, rfl⟩
    have hP : va_P (dC, dI) vwCl (mW q cI cZ w kp tx td ab be su_15 po st nu li fi ga hh) H := hP
    have hD : va_D A (mW q cI cZ w kp tx td ab be su_15 po st nu li fi ga hh) := hD
    rw [hw_15, let2_mk r_15 su_15] at hF
    have hP9 : va_P (dC, dI) vwCl (mW q cI cZ w kp tx td ab be su_15 po st nu li fi ga hh) H := hP
    exact W.iret (v := r_15) hx hb hr (fun t ht hW => ⟨⟨_, ((w, su_15)), rfl, hO.symm.trans hF, by rw [ht]; exact hP9, va_K.moved hW.alike hK, hD⟩, hS.F ht⟩) hS.2.2 dX6_send_18
