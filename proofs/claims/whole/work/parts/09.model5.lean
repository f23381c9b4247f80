section QZC
variable {p : Program} {l : Launch} {e : Env} {R : Room} {s : State} {m : MethodId} {args : Array Value} {below : List Frame} {meth : Method} {c : Code} {H : Heap} {locs : List Loc} {cells slots : Nat} {Q : State → Prop}
variable {cc : ByteArray} {pc : Nat} {ls : Array Slot} {rest : List Value}
theorem qv_zcmp1_eq (hexec : p.tables.exec = Jvm.exec) (hb : c.code = cc) {z : Bool} {off : Int} {tgt : Nat} (hdg : decode cc pc = .ok (.if_icmp .eq off, 3)) (ht : (pc : Int) + off = (tgt : Int))
    (kt : z = true → W p l e R s m args below meth c H locs cells slots Q (F0 m tgt ls rest)) (kf : ¬ z = true → W p l e R s m args below meth c H locs cells slots Q (F0 m (pc + 3) ls rest)) : W p l e R s m args below meth c H locs cells slots Q (F0 m pc ls (.int (nI 1) :: .int (if z = true then 1 else 0) :: rest)) :=
  lv_icmp_eq hexec hb hdg ht (fun h => kt (by cases z with | true => rfl | false => exact absurd h (by decide))) (fun h => kf (fun g => h (by rw [if_pos g]; rfl)))
theorem qv_zcmp0_eq (hexec : p.tables.exec = Jvm.exec) (hb : c.code = cc) {z : Bool} {off : Int} {tgt : Nat} (hdg : decode cc pc = .ok (.if_icmp .eq off, 3)) (ht : (pc : Int) + off = (tgt : Int))
    (kt : ¬ z = true → W p l e R s m args below meth c H locs cells slots Q (F0 m tgt ls rest)) (kf : z = true → W p l e R s m args below meth c H locs cells slots Q (F0 m (pc + 3) ls rest)) : W p l e R s m args below meth c H locs cells slots Q (F0 m pc ls (.int (nI 0) :: .int (if z = true then 1 else 0) :: rest)) :=
  lv_icmp_eq hexec hb hdg ht (fun h => kt (fun g => by rw [if_pos g] at h; exact absurd h (by decide))) (fun h => kf (by cases z with | true => rfl | false => exact absurd rfl h))
end QZC
def F_X6_byteAt (tx : Nat → Int32) (td : Int32) (k : Nat) : Int32 := if tN td ≤ k then (-1) else tx k
set_option maxHeartbeats 4000000 in
set_option maxRecDepth 100000 in
theorem c_X6_byteAt (l : Launch) (dC : Nat → ClassId) (dI : Nat → Nat → Nat) (q : Nat → Nat) (cI cZ : ClassId) (sz : Nat) (w : Nat → Int32) (kp : Nat → Int32) (tx : Nat → Int32) (td : Int32) (ab : Int64) (be : Int64) (su : Nat → Int32) (po : Int32) (st : Int32) (nu : Int32) (li : Nat → Int32) (fi : Nat → Int32) (ga : Nat → Int32) (hh : Int64) (k : Nat) (pTd : inB td 150) (hk : k < 2 ^ 31) : Met l yX6_byteAt wsX6_byteAt { frames := 0, cells := 0, slots := 0, locals := 0 } (mPc (dC, dI) vwCl (mT cI cZ) (mW q cI cZ w kp tx td ab be su po st nu li fi ga hh) sz [.ref (q 0), .int (nI k)]) (va_Qi (fun (r : Int32) (u : Unit) => F_X6_byteAt tx td k = r) (mB (dC, dI) vwCl (mT cI cZ) (va_A (mW q cI cZ w kp tx td ab be su po st nu li fi ga hh) sz) (fun u => mW q cI cZ w kp tx td ab be su po st nu li fi ga hh)) (va_A (mW q cI cZ w kp tx td ab be su po st nu li fi ga hh) sz)) 0 0 (va_A (mW q cI cZ w kp tx td ab be su po st nu li fi ga hh) sz) := by
  refine Met.ofW (cc := cX6_byteAt) (maxL := 2) (ret := (some .int)) (by decide) rfl ?_
  intro p e s m args below meth c s₁ B hml hv
  obtain ⟨rfl, hsz, hP, hK, hD0⟩ := hv
  have hx := B.exec
  have hb := B.bytes
  have hr := B.returns
  have hts := atoms_spec (ws := wsX6_byteAt) B.pre
  have hown : s.vm.findClass RX6 = some m.cls := findClass_of_methodNamed B.named
  have hlocks := B.notSynchronized
  subst hsz
  have hD := hD0.self (sz := s.heap.size)
  generalize hAe : va_A (mW q cI cZ w kp tx td ab be su po st nu li fi ga hh) s.heap.size = A at hD ⊢
  have hA : ∀ q : Nat, s.heap.size ≤ q → A q := fun q h => by rw [← hAe]; exact Or.inr h
  have hS : va_S A s.heap s.heap [] := va_S.rf
  have hin : ∀ w ∈ wsX60, w ∈ wsX6_byteAt := by decide +kernel
  have lk17 := hts (.fieldLink RX6 17 "PostRoundersModel" "text" "[I") (by decide +kernel)
  have lk102 := hts (.fieldLink RX6 102 "PostRoundersModel" "texted" "I") (by decide +kernel)
  have hl := lv_entry ([.ref (q 0), .int (nI k)]) (n := 2) (Nat.le_of_ble_eq_true rfl)
  rw [lg_entry_eq]
  generalize (lg_sl ([.ref (q 0), .int (nI k)]) ++ List.replicate (2 - (lg_sl ([.ref (q 0), .int (nI k)])).length) Slot.unset).toArray = ls at hl ⊢
  have hl : lv_has ls 2 [(0, .ref (q 0)), (1, .int (nI k))] := hl
  obtain ⟨OUT, hO⟩ : ∃ z, z = F_X6_byteAt tx td k := ⟨_, rfl⟩
  have hF := hO
  unfold F_X6_byteAt at hF
  have e_pTd := tN_eq pTd.1
  have b_pTd := pTd.2
  refine lv_iload_n hx hb dX6_byteAt_0 rfl (lv_at hl 1 rfl) ?_
  refine lv_aload_n hx hb dX6_byteAt_1 rfl (lv_at hl 0 rfl) ?_
  refine va_get (D := (dC, dI)) (ci := 6) (v := .int td) (C := RX6) (T := TX6) (N := 14) hx hb hts hin hown hK hP 0 rfl rfl 3 (by decide) lk102 (fun _ h9 => h9) rfl dX6_byteAt_2 ?_
  refine qv_top (e_pTd) ?_
  refine qv_icmp_ge (tgt := 17) hx hb dX6_byteAt_5 (by decide) (by omega) (by omega) (fun c_5 => ?_) (fun c_5 => ?_)
  · rw [if_pos c_5] at hF
    refine lv_iconst (v := (-1)) hx hb dX6_byteAt_17 (by decide) ?_
    have hP9 : va_P (dC, dI) vwCl (mW q cI cZ w kp tx td ab be su po st nu li fi ga hh) s.heap := hP
    exact W.iret (v := (-1)) hx hb hr (fun t ht hW => ⟨⟨_, (()), rfl, hO.symm.trans hF, by rw [ht]; exact hP9, va_K.moved hW.alike hK, hD⟩, hS.F ht⟩) hS.2.2 dX6_byteAt_18
  · rw [if_neg c_5] at hF
    refine lv_aload_n hx hb dX6_byteAt_8 rfl (lv_at hl 0 rfl) ?_
    refine va_get (D := (dC, dI)) (ci := 6) (v := .ref (q 3)) (C := RX6) (T := TX6) (N := 14) hx hb hts hin hown hK hP 0 rfl rfl 2 (by decide) lk17 (fun _ h9 => h9) rfl dX6_byteAt_9 ?_
    refine lv_iload_n hx hb dX6_byteAt_12 rfl (lv_at hl 1 rfl) ?_
    refine qv_ald (v := tx k) hx hb hK hP 3 0 rfl rfl (by omega) (by decide) (rfl) dX6_byteAt_13 ?_
    refine lv_goto (tgt := 18) hx hb dX6_byteAt_14 (by decide) ?_
    have hP9 : va_P (dC, dI) vwCl (mW q cI cZ w kp tx td ab be su po st nu li fi ga hh) s.heap := hP
    exact W.iret (v := tx k) hx hb hr (fun t ht hW => ⟨⟨_, (()), rfl, hO.symm.trans hF, by rw [ht]; exact hP9, va_K.moved hW.alike hK, hD⟩, hS.F ht⟩) hS.2.2 dX6_byteAt_18
theorem byteAt_lt {tx : Nat → Int32} {td : Int32} {k : Nat} {r : Int32} (e : F_X6_byteAt tx td k = r) (h : r ≠ -1) : k < tN td := by
  unfold F_X6_byteAt at e
  by_cases c : tN td ≤ k
  · rw [if_pos c] at e; exact absurd e.symm h
  · omega
theorem in_ne {x : Int32} {a b : Int64} {lo hi : Nat} (ha : a = lN lo) (hb : b = lN hi) (hlo : lo < 2 ^ 31) (hhi : hi < 2 ^ 31) (h : F_X6_in x.toInt64 a b = true) : x ≠ -1 := fun q => by
  have := (in_nat ha hb hlo hhi h).1
  rw [q] at this
  exact absurd this (by decide)
def F_X6_blanks_L0 : Nat → (Nat → Int32) → (Int32) → (Nat) → (Nat)
  | 0, _, _, pp => pp
  | n_0 + 1, tx, td, pp => let1 (F_X6_byteAt tx td pp) (fun r_5 => if r_5 = (nI 32) then F_X6_blanks_L0 n_0 tx td (pp + 1) else pp)
def F_X6_blanks (tx : Nat → Int32) (td : Int32) (po : Nat) : (Nat) × (Nat) := let1 (F_X6_blanks_L0 151 tx td po) (fun pp => (pp, pp))
set_option maxHeartbeats 4000000 in
set_option maxRecDepth 100000 in
theorem c_X6_blanks (l : Launch) (dC : Nat → ClassId) (dI : Nat → Nat → Nat) (q : Nat → Nat) (cI cZ : ClassId) (sz : Nat) (w : Nat → Int32) (kp : Nat → Int32) (tx : Nat → Int32) (td : Int32) (ab : Int64) (be : Int64) (su : Nat → Int32) (po : Nat) (st : Int32) (nu : Int32) (li : Nat → Int32) (fi : Nat → Int32) (ga : Nat → Int32) (hh : Int64) (pTd : inB td 150) (hp : po ≤ tN td) : Met l yX6_blanks wsX6_blanks { frames := 1, cells := 0, slots := 0, locals := 21 } (mPc (dC, dI) vwCl (mT cI cZ) (mW q cI cZ w kp tx td ab be su (nI po) st nu li fi ga hh) sz [.ref (q 0)]) (va_Qv (fun (u : (Nat) × (Nat)) => F_X6_blanks tx td po = u) (mB (dC, dI) vwCl (mT cI cZ) (va_A (mW q cI cZ w kp tx td ab be su (nI po) st nu li fi ga hh) sz) (fun u => mW q cI cZ w kp tx td ab be su (nI u.1) (nI u.2) nu li fi ga hh)) (va_A (mW q cI cZ w kp tx td ab be su (nI po) st nu li fi ga hh) sz)) 0 0 (va_A (mW q cI cZ w kp tx td ab be su (nI po) st nu li fi ga hh) sz) := by
  refine Met.ofW (cc := cX6_blanks) (maxL := 1) (ret := none) (by decide) rfl ?_
  intro p e s m args below meth c s₁ B hml hv
  obtain ⟨rfl, hsz, hP, hK, hD0⟩ := hv
  have hx := B.exec
  have hb := B.bytes
  have hr := B.returns
  have hts := atoms_spec (ws := wsX6_blanks) B.pre
  have hown : s.vm.findClass RX6 = some m.cls := findClass_of_methodNamed B.named
  have hlocks := B.notSynchronized
  subst hsz
  have hD := hD0.self (sz := s.heap.size)
  generalize hAe : va_A (mW q cI cZ w kp tx td ab be su (nI po) st nu li fi ga hh) s.heap.size = A at hD ⊢
  have hA : ∀ q : Nat, s.heap.size ≤ q → A q := fun q h => by rw [← hAe]; exact Or.inr h
  have hS : va_S A s.heap s.heap [] := va_S.rf
  have hin : ∀ w ∈ wsX60, w ∈ wsX6_blanks := by decide +kernel
  have lk106 := hts (.fieldLink RX6 106 "PostRoundersModel" "at" "I") (by decide +kernel)
  have lk112 := hts (.fieldLink RX6 112 "PostRoundersModel" "start" "I") (by decide +kernel)
  have hl := lv_entry ([.ref (q 0)]) (n := 1) (Nat.le_of_ble_eq_true rfl)
  rw [lg_entry_eq]
  generalize (lg_sl ([.ref (q 0)]) ++ List.replicate (1 - (lg_sl ([.ref (q 0)])).length) Slot.unset).toArray = ls at hl ⊢
  have hl : lv_has ls 1 [(0, .ref (q 0))] := hl
  obtain ⟨OUT, hO⟩ : ∃ z, z = F_X6_blanks tx td po := ⟨_, rfl⟩
  have hF := hO
  unfold F_X6_blanks at hF
  have e_pTd := tN_eq pTd.1
  have b_pTd := pTd.2
  have L_0 : ∀ (n_0 : Nat) (pp : Nat) (H : Heap) (locs : List Loc), pp ≤ tN td → tN td - pp < n_0 → va_P (dC, dI) vwCl (mW q cI cZ w kp tx td ab be su (nI pp) st nu li fi ga hh) H → va_D A (mW q cI cZ w kp tx td ab be su (nI pp) st nu li fi ga hh) → va_S A s.heap H locs → ∀ (ls : Array Slot), lv_has ls 1 [(0, .ref (q 0))] → OUT = let1 (F_X6_blanks_L0 n_0 tx td pp) (fun pp => (pp, pp)) → W p l e (headSpec wsX6_blanks { frames := 1, cells := 0, slots := 0, locals := 21 }).room s m ([.ref (q 0)] : List Value).toArray below meth c H locs 0 0 (MQ below (va_Qv (fun (u : (Nat) × (Nat)) => F_X6_blanks tx td po = u) (mB (dC, dI) vwCl (mT cI cZ) A (fun u => mW q cI cZ w kp tx td ab be su (nI u.1) (nI u.2) nu li fi ga hh)) A) ([.ref (q 0)] : List Value).toArray s 0 0 A) (F0 m 0 ls []) := by
    intro n_0
    induction n_0 with
    | zero => intro pp H locs i0 hmu; exact absurd hmu (Nat.not_lt_zero _)
    | succ n_0 ih_0 =>
      intro pp H locs i0 hmu_0 hP hD hS ls hl hF
      rw [F_X6_blanks_L0] at hF
      refine lv_aload_n hx hb dX6_blanks_0 rfl (lv_at hl 0 rfl) ?_
      refine lv_aload_n hx hb dX6_blanks_1 rfl (lv_at hl 0 rfl) ?_
      refine va_get (D := (dC, dI)) (ci := 6) (v := .int (nI pp)) (C := RX6) (T := TX6) (N := 14) hx hb hts hin hown hK hP 0 rfl rfl 7 (by decide) lk106 (fun _ h9 => h9) rfl dX6_blanks_2 ?_
      refine qc_Vi (C := RX6) (As := [.int (nI pp)]) (rest := []) (ci := 6) (k0 := 0) ⟨hx, hb, hml, hown, hts⟩ (c_X6_byteAt l dC dI q cI cZ H.size w kp tx td ab be su (nI pp) st nu li fi ga hh pp (pTd : inB td 150) (by omega)) (cwV 1 hts gX6_blanks_X6_byteAt rfl rfl rfl (by decide +kernel) ⟨Nat.le_of_ble_eq_true rfl, Nat.le_of_ble_eq_true rfl⟩) hK hP hD hS hA rfl rfl rfl rfl hl.1 rfl (Nat.le_of_ble_eq_true rfl) dX6_blanks_5 ⟨Nat.zero_le _, Nat.zero_le _⟩ (fun r_5 u_5 H locs hw_5 hP hD hS => ?_)
      rw [hw_5, let1_mk r_5] at hF
      refine lv_bipush (v := nI 32) hx hb dX6_blanks_8 (by decide) ?_
      refine lv_icmp_ne (tgt := 26) hx hb dX6_blanks_10 (by decide) (fun c_10 => ?_) (fun c_10 => ?_)
      · rw [if_neg c_10] at hF
        rw [let1_mk (pp : Nat)] at hF
        refine lv_aload_n hx hb dX6_blanks_26 rfl (lv_at hl 0 rfl) ?_
        refine lv_aload_n hx hb dX6_blanks_27 rfl (lv_at hl 0 rfl) ?_
        refine va_get (D := (dC, dI)) (ci := 6) (v := .int (nI pp)) (C := RX6) (T := TX6) (N := 14) hx hb hts hin hown hK hP 0 rfl rfl 7 (by decide) lk106 (fun _ h9 => h9) rfl dX6_blanks_28 ?_
        refine va_put (D := (dC, dI)) (ci := 6) (v := .int (nI pp)) (ty := .int) (C := RX6) (T := TX6) (N := 14) hx hb hts hin tyX6 tyX6_ok nmX6 hown hK hP hD hS 0 rfl rfl 8 (by decide) lk112 (fun _ h9 => h9) rfl (by decide +kernel) rfl rfl (Nat.le_of_ble_eq_true rfl) dX6_blanks_31 (fun H locs hP hD hS => ?_)
        have hP : va_P (dC, dI) vwCl (mW q cI cZ w kp tx td ab be su (nI pp) (nI pp) nu li fi ga hh) H := hP
        have hD : va_D A (mW q cI cZ w kp tx td ab be su (nI pp) (nI pp) nu li fi ga hh) := hD
        have hP9 : va_P (dC, dI) vwCl (mW q cI cZ w kp tx td ab be su (nI pp) (nI pp) nu li fi ga hh) H := hP
        exact W.vret hx hb hr (fun t ht hW => ⟨⟨((pp, pp)), rfl, hO.symm.trans hF, by rw [ht]; exact hP9, va_K.moved hW.alike hK, hD⟩, hS.F ht⟩) hS.2.2 dX6_blanks_34
      · rw [if_pos c_10] at hF
        have l_5 := byteAt_lt hw_5 (by rw [c_10]; decide)
        refine lv_aload_n hx hb dX6_blanks_13 rfl (lv_at hl 0 rfl) ?_
        refine lv_dup hx hb dX6_blanks_14 rfl ?_
        refine va_get (D := (dC, dI)) (ci := 6) (v := .int (nI pp)) (C := RX6) (T := TX6) (N := 14) hx hb hts hin hown hK hP 0 rfl rfl 7 (by decide) lk106 (fun _ h9 => h9) rfl dX6_blanks_15 ?_
        refine lv_iconst (v := nI 1) hx hb dX6_blanks_18 (by decide) ?_
        refine qv_iadd hx hb (pp + 1) dX6_blanks_19 (by omega) ?_
        refine va_put (D := (dC, dI)) (ci := 6) (v := .int (nI (pp + 1))) (ty := .int) (C := RX6) (T := TX6) (N := 14) hx hb hts hin tyX6 tyX6_ok nmX6 hown hK hP hD hS 0 rfl rfl 7 (by decide) lk106 (fun _ h9 => h9) rfl (by decide +kernel) rfl rfl (Nat.le_of_ble_eq_true rfl) dX6_blanks_20 (fun H locs hP hD hS => ?_)
        have hP : va_P (dC, dI) vwCl (mW q cI cZ w kp tx td ab be su (nI (pp + 1)) st nu li fi ga hh) H := hP
        have hD : va_D A (mW q cI cZ w kp tx td ab be su (nI (pp + 1)) st nu li fi ga hh) := hD
        refine lv_goto (tgt := 0) hx hb dX6_blanks_23 (by decide) ?_
        exact ih_0 (pp + 1) H locs (by omega) (by omega) hP hD hS ls (lv_sub hl [0] rfl) hF
  exact L_0 151 po s.heap [] (by omega) (by omega) hP hD hS ls (lv_sub hl [0] rfl) hF
theorem L_blanks (tx : Nat → Int32) (td : Int32) : ∀ (n pp : Nat), pp ≤ tN td → pp ≤ F_X6_blanks_L0 n tx td pp ∧ F_X6_blanks_L0 n tx td pp ≤ tN td
  | 0, _, h => ⟨Nat.le_refl _, h⟩
  | n + 1, pp, h => by
    rw [F_X6_blanks_L0]
    simp only [let1]
    split
    · next c =>
      have := byteAt_lt (tx := tx) (td := td) (k := pp) rfl (by rw [c]; decide)
      have ih := L_blanks tx td n (pp + 1) (by omega)
      omega
    · exact ⟨Nat.le_refl _, h⟩
theorem blanks_at {tx : Nat → Int32} {td : Int32} {po po' st' : Nat} (e : F_X6_blanks tx td po = (po', st')) (h : po ≤ tN td) : po ≤ po' ∧ po' ≤ tN td ∧ st' = po' := by
  unfold F_X6_blanks at e
  simp only [let1] at e
  obtain ⟨h1, h2⟩ := L_blanks tx td 151 po h
  have e1 := (Prod.mk.inj e).1
  have e2 := (Prod.mk.inj e).2
  omega
def F_X6_takesWord_L4 : Nat → (Nat → Int32) → (Int32) → (Nat) → (Nat)
  | 0, _, _, pp => pp
  | n_4 + 1, tx, td, pp => let1 (F_X6_byteAt tx td pp) (fun r_9 => if (F_X6_in r_9.toInt64 97 122) = true then F_X6_takesWord_L4 n_4 tx td (pp + 1) else pp)
def F_X6_takesWord (tx : Nat → Int32) (td : Int32) (po : Nat) : (Nat) × (Nat) := let2 (F_X6_blanks tx td po) (fun po_1 st_1 => let1 (F_X6_takesWord_L4 151 tx td po_1) (fun pp => (pp, st_1)))
set_option maxHeartbeats 4000000 in
set_option maxRecDepth 100000 in
theorem c_X6_takesWord (l : Launch) (dC : Nat → ClassId) (dI : Nat → Nat → Nat) (q : Nat → Nat) (cI cZ : ClassId) (sz : Nat) (w : Nat → Int32) (kp : Nat → Int32) (tx : Nat → Int32) (td : Int32) (ab : Int64) (be : Int64) (su : Nat → Int32) (po : Nat) (st : Int32) (nu : Int32) (li : Nat → Int32) (fi : Nat → Int32) (ga : Nat → Int32) (hh : Int64) (pTd : inB td 150) (hp : po ≤ tN td) : Met l yX6_takesWord wsX6_takesWord { frames := 2, cells := 0, slots := 0, locals := 41 } (mPc (dC, dI) vwCl (mT cI cZ) (mW q cI cZ w kp tx td ab be su (nI po) st nu li fi ga hh) sz [.ref (q 0)]) (va_Qv (fun (u : (Nat) × (Nat)) => F_X6_takesWord tx td po = u) (mB (dC, dI) vwCl (mT cI cZ) (va_A (mW q cI cZ w kp tx td ab be su (nI po) st nu li fi ga hh) sz) (fun u => mW q cI cZ w kp tx td ab be su (nI u.1) (nI u.2) nu li fi ga hh)) (va_A (mW q cI cZ w kp tx td ab be su (nI po) st nu li fi ga hh) sz)) 0 0 (va_A (mW q cI cZ w kp tx td ab be su (nI po) st nu li fi ga hh) sz) := by
  refine Met.ofW (cc := cX6_takesWord) (maxL := 1) (ret := none) (by decide) rfl ?_
  intro p e s m args below meth c s₁ B hml hv
  obtain ⟨rfl, hsz, hP, hK, hD0⟩ := hv
  have hx := B.exec
  have hb := B.bytes
  have hr := B.returns
  have hts := atoms_spec (ws := wsX6_takesWord) B.pre
  have hown : s.vm.findClass RX6 = some m.cls := findClass_of_methodNamed B.named
  have hlocks := B.notSynchronized
  subst hsz
  have hD := hD0.self (sz := s.heap.size)
  generalize hAe : va_A (mW q cI cZ w kp tx td ab be su (nI po) st nu li fi ga hh) s.heap.size = A at hD ⊢
  have hA : ∀ q : Nat, s.heap.size ≤ q → A q := fun q h => by rw [← hAe]; exact Or.inr h
  have hS : va_S A s.heap s.heap [] := va_S.rf
  have hin : ∀ w ∈ wsX60, w ∈ wsX6_takesWord := by decide +kernel
  have lk106 := hts (.fieldLink RX6 106 "PostRoundersModel" "at" "I") (by decide +kernel)
  have hl := lv_entry ([.ref (q 0)]) (n := 1) (Nat.le_of_ble_eq_true rfl)
  rw [lg_entry_eq]
  generalize (lg_sl ([.ref (q 0)]) ++ List.replicate (1 - (lg_sl ([.ref (q 0)])).length) Slot.unset).toArray = ls at hl ⊢
  have hl : lv_has ls 1 [(0, .ref (q 0))] := hl
  obtain ⟨OUT, hO⟩ : ∃ z, z = F_X6_takesWord tx td po := ⟨_, rfl⟩
  have hF := hO
  unfold F_X6_takesWord at hF
  have e_pTd := tN_eq pTd.1
  have b_pTd := pTd.2
  refine lv_aload_n hx hb dX6_takesWord_0 rfl (lv_at hl 0 rfl) ?_
  refine qc_Vv (C := RX6) (As := []) (rest := []) (ci := 6) (k0 := 0) ⟨hx, hb, hml, hown, hts⟩ (c_X6_blanks l dC dI q cI cZ s.heap.size w kp tx td ab be su po st nu li fi ga hh  (pTd : inB td 150) (by omega)) (cwV 0 hts gX6_takesWord_X6_blanks rfl rfl rfl (by decide +kernel) ⟨Nat.le_of_ble_eq_true rfl, Nat.le_of_ble_eq_true rfl⟩) hK hP hD hS hA rfl rfl rfl rfl hl.1 rfl (Nat.le_of_ble_eq_true rfl) dX6_takesWord_1 ⟨Nat.zero_le _, Nat.zero_le _⟩ (fun u_1 H locs hw_1 hP hD hS => ?_)
  obtain ⟨po_1, st_1⟩ := u_1
  have hP : va_P (dC, dI) vwCl (mW q cI cZ w kp tx td ab be su (nI po_1) (nI st_1) nu li fi ga hh) H := hP
  have hD : va_D A (mW q cI cZ w kp tx td ab be su (nI po_1) (nI st_1) nu li fi ga hh) := hD
  have a_1 := blanks_at hw_1 (by omega)
  rw [hw_1, let2_mk po_1 st_1] at hF
  have L_4 : ∀ (n_4 : Nat) (pp : Nat) (H : Heap) (locs : List Loc), pp ≤ tN td → st_1 ≤ pp → tN td - pp < n_4 → va_P (dC, dI) vwCl (mW q cI cZ w kp tx td ab be su (nI pp) (nI st_1) nu li fi ga hh) H → va_D A (mW q cI cZ w kp tx td ab be su (nI pp) (nI st_1) nu li fi ga hh) → va_S A s.heap H locs → ∀ (ls : Array Slot), lv_has ls 1 [(0, .ref (q 0))] → OUT = let1 (F_X6_takesWord_L4 n_4 tx td pp) (fun pp => (pp, st_1)) → W p l e (headSpec wsX6_takesWord { frames := 2, cells := 0, slots := 0, locals := 41 }).room s m ([.ref (q 0)] : List Value).toArray below meth c H locs 0 0 (MQ below (va_Qv (fun (u : (Nat) × (Nat)) => F_X6_takesWord tx td po = u) (mB (dC, dI) vwCl (mT cI cZ) A (fun u => mW q cI cZ w kp tx td ab be su (nI u.1) (nI u.2) nu li fi ga hh)) A) ([.ref (q 0)] : List Value).toArray s 0 0 A) (F0 m 4 ls []) := by
    intro n_4
    induction n_4 with
    | zero => intro pp H locs i0 i1 hmu; exact absurd hmu (Nat.not_lt_zero _)
    | succ n_4 ih_4 =>
      intro pp H locs i0 i1 hmu_4 hP hD hS ls hl hF
      rw [F_X6_takesWord_L4] at hF
      refine lv_aload_n hx hb dX6_takesWord_4 rfl (lv_at hl 0 rfl) ?_
      refine lv_aload_n hx hb dX6_takesWord_5 rfl (lv_at hl 0 rfl) ?_
      refine va_get (D := (dC, dI)) (ci := 6) (v := .int (nI pp)) (C := RX6) (T := TX6) (N := 14) hx hb hts hin hown hK hP 0 rfl rfl 7 (by decide) lk106 (fun _ h9 => h9) rfl dX6_takesWord_6 ?_
      refine qc_Vi (C := RX6) (As := [.int (nI pp)]) (rest := []) (ci := 6) (k0 := 0) ⟨hx, hb, hml, hown, hts⟩ (c_X6_byteAt l dC dI q cI cZ H.size w kp tx td ab be su (nI pp) (nI st_1) nu li fi ga hh pp (pTd : inB td 150) (by omega)) (cwV 1 hts gX6_takesWord_X6_byteAt rfl rfl rfl (by decide +kernel) ⟨Nat.le_of_ble_eq_true rfl, Nat.le_of_ble_eq_true rfl⟩) hK hP hD hS hA rfl rfl rfl rfl hl.1 rfl (Nat.le_of_ble_eq_true rfl) dX6_takesWord_9 ⟨Nat.zero_le _, Nat.zero_le _⟩ (fun r_9 u_9 H locs hw_9 hP hD hS => ?_)
      rw [hw_9, let1_mk r_9] at hF
      refine lv_i2l hx hb dX6_takesWord_12 rfl ?_
      refine lv_ldc2 (v := 97) hx hb hown (hts (.constantLong RX6 118 97) (by decide +kernel)) dX6_takesWord_13 ?_
      refine lv_ldc2 (v := 122) hx hb hown (hts (.constantLong RX6 120 122) (by decide +kernel)) dX6_takesWord_16 ?_
      refine qc_Si (As := [.long r_9.toInt64, .long 97, .long 122]) (rest := []) ⟨hx, hb, hml, hown, hts⟩ (c_X6_in l r_9.toInt64 97 122) (va_cwS 3 hts gX6_takesWord_X6_in rfl rfl rfl (by decide +kernel) ⟨Nat.le_of_ble_eq_true rfl, Nat.le_of_ble_eq_true rfl⟩) rfl hl.1 rfl (Nat.le_of_ble_eq_true rfl) dX6_takesWord_19 ⟨Nat.zero_le _, Nat.zero_le _⟩ (fun r_19 hw_19 => ?_)
      subst hw_19
      refine qv_zif_eq (tgt := 38) hx hb dX6_takesWord_22 (by decide) (fun c_22 => ?_) (fun c_22 => ?_)
      · rw [if_neg c_22] at hF
        rw [let1_mk (pp : Nat)] at hF
        have hP9 : va_P (dC, dI) vwCl (mW q cI cZ w kp tx td ab be su (nI pp) (nI st_1) nu li fi ga hh) H := hP
        exact W.vret hx hb hr (fun t ht hW => ⟨⟨((pp, st_1)), rfl, hO.symm.trans hF, by rw [ht]; exact hP9, va_K.moved hW.alike hK, hD⟩, hS.F ht⟩) hS.2.2 dX6_takesWord_38
      · rw [if_pos c_22] at hF
        obtain ⟨f_r_9, fa_r_9, fb_r_9⟩ := in_nat (lo := 97) (hi := 122) rfl rfl (by decide) (by decide) c_22
        have e_r_9 := tN_eq f_r_9
        have l_9 := byteAt_lt hw_9 (in_ne (lo := 97) (hi := 122) rfl rfl (by decide) (by decide) c_22)
        refine lv_aload_n hx hb dX6_takesWord_25 rfl (lv_at hl 0 rfl) ?_
        refine lv_dup hx hb dX6_takesWord_26 rfl ?_
        refine va_get (D := (dC, dI)) (ci := 6) (v := .int (nI pp)) (C := RX6) (T := TX6) (N := 14) hx hb hts hin hown hK hP 0 rfl rfl 7 (by decide) lk106 (fun _ h9 => h9) rfl dX6_takesWord_27 ?_
        refine lv_iconst (v := nI 1) hx hb dX6_takesWord_30 (by decide) ?_
        refine qv_iadd hx hb (pp + 1) dX6_takesWord_31 (by omega) ?_
        refine va_put (D := (dC, dI)) (ci := 6) (v := .int (nI (pp + 1))) (ty := .int) (C := RX6) (T := TX6) (N := 14) hx hb hts hin tyX6 tyX6_ok nmX6 hown hK hP hD hS 0 rfl rfl 7 (by decide) lk106 (fun _ h9 => h9) rfl (by decide +kernel) rfl rfl (Nat.le_of_ble_eq_true rfl) dX6_takesWord_32 (fun H locs hP hD hS => ?_)
        have hP : va_P (dC, dI) vwCl (mW q cI cZ w kp tx td ab be su (nI (pp + 1)) (nI st_1) nu li fi ga hh) H := hP
        have hD : va_D A (mW q cI cZ w kp tx td ab be su (nI (pp + 1)) (nI st_1) nu li fi ga hh) := hD
        refine lv_goto (tgt := 4) hx hb dX6_takesWord_35 (by decide) ?_
        exact ih_4 (pp + 1) H locs (by omega) (by omega) (by omega) hP hD hS ls (lv_sub hl [0] rfl) hF
  exact L_4 151 po_1 H locs (by omega) (by omega) (by omega) hP hD hS ls (lv_sub hl [0] rfl) hF
theorem L_takesWord (tx : Nat → Int32) (td : Int32) : ∀ (n pp : Nat), pp ≤ tN td → pp ≤ F_X6_takesWord_L4 n tx td pp ∧ F_X6_takesWord_L4 n tx td pp ≤ tN td
  | 0, _, h => ⟨Nat.le_refl _, h⟩
  | n + 1, pp, h => by
    rw [F_X6_takesWord_L4]
    simp only [let1]
    split
    · next c =>
      have := byteAt_lt (tx := tx) (td := td) (k := pp) rfl (in_ne (lo := 97) (hi := 122) rfl rfl (by decide) (by decide) c)
      have ih := L_takesWord tx td n (pp + 1) (by omega)
      omega
    · exact ⟨Nat.le_refl _, h⟩
theorem takesWord_at {tx : Nat → Int32} {td : Int32} {po po' st' : Nat} (e : F_X6_takesWord tx td po = (po', st')) (h : po ≤ tN td) : po ≤ st' ∧ st' ≤ po' ∧ po' ≤ tN td := by
  unfold F_X6_takesWord at e
  cases hb : F_X6_blanks tx td po with
  | mk p1 s1 =>
    rw [hb] at e
    simp only [let1, let2] at e
    obtain ⟨h1, h2, h3⟩ := blanks_at hb h
    obtain ⟨h4, h5⟩ := L_takesWord tx td 151 p1 h2
    have e1 := (Prod.mk.inj e).1
    have e2 := (Prod.mk.inj e).2
    omega
def F_X6_isLetter (tx : Nat → Int32) (st : Nat) (k : Nat) (lt : Nat) (lo : Nat) : Bool := if lt = 0 then (if k < lo then false else true) else (if lo ≤ k then false else (if (tx (st + k)) = (nI lt) then true else false))
set_option maxHeartbeats 4000000 in
set_option maxRecDepth 100000 in
theorem c_X6_isLetter (l : Launch) (dC : Nat → ClassId) (dI : Nat → Nat → Nat) (q : Nat → Nat) (cI cZ : ClassId) (sz : Nat) (w : Nat → Int32) (kp : Nat → Int32) (tx : Nat → Int32) (td : Int32) (ab : Int64) (be : Int64) (su : Nat → Int32) (po : Int32) (st : Nat) (nu : Int32) (li : Nat → Int32) (fi : Nat → Int32) (ga : Nat → Int32) (hh : Int64) (k : Nat) (lt : Nat) (lo : Nat) (h1 : st + lo ≤ 150) (h2 : k < 6) (h3 : lt < 128) : Met l yX6_isLetter wsX6_isLetter { frames := 0, cells := 0, slots := 0, locals := 0 } (mPc (dC, dI) vwCl (mT cI cZ) (mW q cI cZ w kp tx td ab be su po (nI st) nu li fi ga hh) sz [.ref (q 0), .int (nI k), .int (nI lt), .int (nI lo)]) (va_Qi (fun (r : Int32) (u : Unit) => ∃ z : Bool, F_X6_isLetter tx st k lt lo = z ∧ r = if z = true then 1 else 0) (mB (dC, dI) vwCl (mT cI cZ) (va_A (mW q cI cZ w kp tx td ab be su po (nI st) nu li fi ga hh) sz) (fun u => mW q cI cZ w kp tx td ab be su po (nI st) nu li fi ga hh)) (va_A (mW q cI cZ w kp tx td ab be su po (nI st) nu li fi ga hh) sz)) 0 0 (va_A (mW q cI cZ w kp tx td ab be su po (nI st) nu li fi ga hh) sz) := by
  refine Met.ofW (cc := cX6_isLetter) (maxL := 4) (ret := (some .boolean)) (by decide) rfl ?_
  intro p e s m args below meth c s₁ B hml hv
  obtain ⟨rfl, hsz, hP, hK, hD0⟩ := hv
  have hx := B.exec
  have hb := B.bytes
  have hr := B.returns
  have hts := atoms_spec (ws := wsX6_isLetter) B.pre
  have hown : s.vm.findClass RX6 = some m.cls := findClass_of_methodNamed B.named
  have hlocks := B.notSynchronized
  subst hsz
  have hD := hD0.self (sz := s.heap.size)
  generalize hAe : va_A (mW q cI cZ w kp tx td ab be su po (nI st) nu li fi ga hh) s.heap.size = A at hD ⊢
  have hA : ∀ q : Nat, s.heap.size ≤ q → A q := fun q h => by rw [← hAe]; exact Or.inr h
  have hS : va_S A s.heap s.heap [] := va_S.rf
  have hin : ∀ w ∈ wsX60, w ∈ wsX6_isLetter := by decide +kernel
  have lk17 := hts (.fieldLink RX6 17 "PostRoundersModel" "text" "[I") (by decide +kernel)
  have lk112 := hts (.fieldLink RX6 112 "PostRoundersModel" "start" "I") (by decide +kernel)
  have hl := lv_entry ([.ref (q 0), .int (nI k), .int (nI lt), .int (nI lo)]) (n := 4) (Nat.le_of_ble_eq_true rfl)
  rw [lg_entry_eq]
  generalize (lg_sl ([.ref (q 0), .int (nI k), .int (nI lt), .int (nI lo)]) ++ List.replicate (4 - (lg_sl ([.ref (q 0), .int (nI k), .int (nI lt), .int (nI lo)])).length) Slot.unset).toArray = ls at hl ⊢
  have hl : lv_has ls 4 [(0, .ref (q 0)), (1, .int (nI k)), (2, .int (nI lt)), (3, .int (nI lo))] := hl
  obtain ⟨OUT, hO⟩ : ∃ z, z = F_X6_isLetter tx st k lt lo := ⟨_, rfl⟩
  have hF := hO
  unfold F_X6_isLetter at hF
  refine lv_iload_n hx hb dX6_isLetter_0 rfl (lv_at hl 2 rfl) ?_
  refine qv_if_ne (tgt := 17) hx hb dX6_isLetter_1 (by decide) (by omega) (fun c_1 => ?_) (fun c_1 => ?_)
  · rw [if_neg c_1] at hF
    refine lv_iload_n hx hb dX6_isLetter_17 rfl (lv_at hl 3 rfl) ?_
    refine lv_iload_n hx hb dX6_isLetter_18 rfl (lv_at hl 1 rfl) ?_
    refine qv_icmp_le (tgt := 41) hx hb dX6_isLetter_19 (by decide) (by omega) (by omega) (fun c_19 => ?_) (fun c_19 => ?_)
    · rw [if_pos c_19] at hF
      refine lv_iconst (v := nI 0) hx hb dX6_isLetter_41 (by decide) ?_
      have hP9 : va_P (dC, dI) vwCl (mW q cI cZ w kp tx td ab be su po (nI st) nu li fi ga hh) s.heap := hP
      exact W.zret (v := nI 0) hx hb hr (by rfl) (fun t ht hW => ⟨⟨_, (()), rfl, ⟨false, hO.symm.trans hF, rfl⟩, by rw [ht]; exact hP9, va_K.moved hW.alike hK, hD⟩, hS.F ht⟩) hS.2.2 dX6_isLetter_42
    · rw [if_neg c_19] at hF
      refine lv_aload_n hx hb dX6_isLetter_22 rfl (lv_at hl 0 rfl) ?_
      refine va_get (D := (dC, dI)) (ci := 6) (v := .ref (q 3)) (C := RX6) (T := TX6) (N := 14) hx hb hts hin hown hK hP 0 rfl rfl 2 (by decide) lk17 (fun _ h9 => h9) rfl dX6_isLetter_23 ?_
      refine lv_aload_n hx hb dX6_isLetter_26 rfl (lv_at hl 0 rfl) ?_
      refine va_get (D := (dC, dI)) (ci := 6) (v := .int (nI st)) (C := RX6) (T := TX6) (N := 14) hx hb hts hin hown hK hP 0 rfl rfl 8 (by decide) lk112 (fun _ h9 => h9) rfl dX6_isLetter_27 ?_
      refine lv_iload_n hx hb dX6_isLetter_30 rfl (lv_at hl 1 rfl) ?_
      refine qv_iadd hx hb (st + k) dX6_isLetter_31 (by omega) ?_
      refine qv_ald (v := tx (st + k)) hx hb hK hP 3 0 rfl rfl (by omega) (by decide) (rfl) dX6_isLetter_32 ?_
      refine lv_iload_n hx hb dX6_isLetter_33 rfl (lv_at hl 2 rfl) ?_
      refine lv_icmp_ne (tgt := 41) hx hb dX6_isLetter_34 (by decide) (fun c_34 => ?_) (fun c_34 => ?_)
      · rw [if_neg c_34] at hF
        refine lv_iconst (v := nI 0) hx hb dX6_isLetter_41 (by decide) ?_
        have hP9 : va_P (dC, dI) vwCl (mW q cI cZ w kp tx td ab be su po (nI st) nu li fi ga hh) s.heap := hP
        exact W.zret (v := nI 0) hx hb hr (by rfl) (fun t ht hW => ⟨⟨_, (()), rfl, ⟨false, hO.symm.trans hF, rfl⟩, by rw [ht]; exact hP9, va_K.moved hW.alike hK, hD⟩, hS.F ht⟩) hS.2.2 dX6_isLetter_42
      · rw [if_pos c_34] at hF
        refine lv_iconst (v := nI 1) hx hb dX6_isLetter_37 (by decide) ?_
        refine lv_goto (tgt := 42) hx hb dX6_isLetter_38 (by decide) ?_
        have hP9 : va_P (dC, dI) vwCl (mW q cI cZ w kp tx td ab be su po (nI st) nu li fi ga hh) s.heap := hP
        exact W.zret (v := nI 1) hx hb hr (by rfl) (fun t ht hW => ⟨⟨_, (()), rfl, ⟨true, hO.symm.trans hF, rfl⟩, by rw [ht]; exact hP9, va_K.moved hW.alike hK, hD⟩, hS.F ht⟩) hS.2.2 dX6_isLetter_42
  · rw [if_pos c_1] at hF
    refine lv_iload_n hx hb dX6_isLetter_4 rfl (lv_at hl 3 rfl) ?_
    refine lv_iload_n hx hb dX6_isLetter_5 rfl (lv_at hl 1 rfl) ?_
    refine qv_icmp_gt (tgt := 13) hx hb dX6_isLetter_6 (by decide) (by omega) (by omega) (fun c_6 => ?_) (fun c_6 => ?_)
    · rw [if_pos c_6] at hF
      refine lv_iconst (v := nI 0) hx hb dX6_isLetter_13 (by decide) ?_
      refine lv_goto (tgt := 42) hx hb dX6_isLetter_14 (by decide) ?_
      have hP9 : va_P (dC, dI) vwCl (mW q cI cZ w kp tx td ab be su po (nI st) nu li fi ga hh) s.heap := hP
      exact W.zret (v := nI 0) hx hb hr (by rfl) (fun t ht hW => ⟨⟨_, (()), rfl, ⟨false, hO.symm.trans hF, rfl⟩, by rw [ht]; exact hP9, va_K.moved hW.alike hK, hD⟩, hS.F ht⟩) hS.2.2 dX6_isLetter_42
    · rw [if_neg c_6] at hF
      refine lv_iconst (v := nI 1) hx hb dX6_isLetter_9 (by decide) ?_
      refine lv_goto (tgt := 42) hx hb dX6_isLetter_10 (by decide) ?_
      have hP9 : va_P (dC, dI) vwCl (mW q cI cZ w kp tx td ab be su po (nI st) nu li fi ga hh) s.heap := hP
      exact W.zret (v := nI 1) hx hb hr (by rfl) (fun t ht hW => ⟨⟨_, (()), rfl, ⟨true, hO.symm.trans hF, rfl⟩, by rw [ht]; exact hP9, va_K.moved hW.alike hK, hD⟩, hS.F ht⟩) hS.2.2 dX6_isLetter_42
def F_X6_isWord (tx : Nat → Int32) (po : Nat) (st : Nat) (a : Nat) (b : Nat) (c0 : Nat) (d : Nat) (e0 : Nat) (f : Nat) : Bool := let1 (F_X6_isLetter tx st 0 a ((po - st))) (fun z_16 => if z_16 = true then let1 (F_X6_isLetter tx st 1 b ((po - st))) (fun z_27 => if z_27 = true then let1 (F_X6_isLetter tx st 2 c0 ((po - st))) (fun z_38 => if z_38 = true then let1 (F_X6_isLetter tx st 3 d ((po - st))) (fun z_50 => if z_50 = true then let1 (F_X6_isLetter tx st 4 e0 ((po - st))) (fun z_62 => if z_62 = true then let1 (F_X6_isLetter tx st 5 f ((po - st))) (fun z_74 => if z_74 = true then (if 7 ≤ (po - st) then false else true) else false) else false) else false) else false) else false) else false)
set_option maxHeartbeats 4000000 in
set_option maxRecDepth 100000 in
theorem c_X6_isWord (l : Launch) (dC : Nat → ClassId) (dI : Nat → Nat → Nat) (q : Nat → Nat) (cI cZ : ClassId) (sz : Nat) (w : Nat → Int32) (kp : Nat → Int32) (tx : Nat → Int32) (td : Int32) (ab : Int64) (be : Int64) (su : Nat → Int32) (po : Nat) (st : Nat) (nu : Int32) (li : Nat → Int32) (fi : Nat → Int32) (ga : Nat → Int32) (hh : Int64) (a : Nat) (b : Nat) (c0 : Nat) (d : Nat) (e0 : Nat) (f : Nat) (pTd : inB td 150) (h1 : st ≤ po) (h2 : po ≤ tN td) (h3 : a < 128) (h4 : b < 128) (h5 : c0 < 128) (h6 : d < 128) (h7 : e0 < 128) (h8 : f < 128) : Met l yX6_isWord wsX6_isWord { frames := 1, cells := 0, slots := 0, locals := 23 } (mPc (dC, dI) vwCl (mT cI cZ) (mW q cI cZ w kp tx td ab be su (nI po) (nI st) nu li fi ga hh) sz [.ref (q 0), .int (nI a), .int (nI b), .int (nI c0), .int (nI d), .int (nI e0), .int (nI f)]) (va_Qi (fun (r : Int32) (u : Unit) => ∃ z : Bool, F_X6_isWord tx po st a b c0 d e0 f = z ∧ r = if z = true then 1 else 0) (mB (dC, dI) vwCl (mT cI cZ) (va_A (mW q cI cZ w kp tx td ab be su (nI po) (nI st) nu li fi ga hh) sz) (fun u => mW q cI cZ w kp tx td ab be su (nI po) (nI st) nu li fi ga hh)) (va_A (mW q cI cZ w kp tx td ab be su (nI po) (nI st) nu li fi ga hh) sz)) 0 0 (va_A (mW q cI cZ w kp tx td ab be su (nI po) (nI st) nu li fi ga hh) sz) := by
  refine Met.ofW (cc := cX6_isWord) (maxL := 8) (ret := (some .boolean)) (by decide) rfl ?_
  intro p e s m args below meth c s₁ B hml hv
  obtain ⟨rfl, hsz, hP, hK, hD0⟩ := hv
  have hx := B.exec
  have hb := B.bytes
  have hr := B.returns
  have hts := atoms_spec (ws := wsX6_isWord) B.pre
  have hown : s.vm.findClass RX6 = some m.cls := findClass_of_methodNamed B.named
  have hlocks := B.notSynchronized
  subst hsz
  have hD := hD0.self (sz := s.heap.size)
  generalize hAe : va_A (mW q cI cZ w kp tx td ab be su (nI po) (nI st) nu li fi ga hh) s.heap.size = A at hD ⊢
  have hA : ∀ q : Nat, s.heap.size ≤ q → A q := fun q h => by rw [← hAe]; exact Or.inr h
  have hS : va_S A s.heap s.heap [] := va_S.rf
  have hin : ∀ w ∈ wsX60, w ∈ wsX6_isWord := by decide +kernel
  have lk106 := hts (.fieldLink RX6 106 "PostRoundersModel" "at" "I") (by decide +kernel)
  have lk112 := hts (.fieldLink RX6 112 "PostRoundersModel" "start" "I") (by decide +kernel)
  have hl := lv_entry ([.ref (q 0), .int (nI a), .int (nI b), .int (nI c0), .int (nI d), .int (nI e0), .int (nI f)]) (n := 8) (Nat.le_of_ble_eq_true rfl)
  rw [lg_entry_eq]
  generalize (lg_sl ([.ref (q 0), .int (nI a), .int (nI b), .int (nI c0), .int (nI d), .int (nI e0), .int (nI f)]) ++ List.replicate (8 - (lg_sl ([.ref (q 0), .int (nI a), .int (nI b), .int (nI c0), .int (nI d), .int (nI e0), .int (nI f)])).length) Slot.unset).toArray = ls at hl ⊢
  have hl : lv_has ls 8 [(0, .ref (q 0)), (1, .int (nI a)), (2, .int (nI b)), (3, .int (nI c0)), (4, .int (nI d)), (5, .int (nI e0)), (6, .int (nI f))] := hl
  obtain ⟨OUT, hO⟩ : ∃ z, z = F_X6_isWord tx po st a b c0 d e0 f := ⟨_, rfl⟩
  have hF := hO
  unfold F_X6_isWord at hF
  have e_pTd := tN_eq pTd.1
  have b_pTd := pTd.2
  refine lv_aload_n hx hb dX6_isWord_0 rfl (lv_at hl 0 rfl) ?_
  refine va_get (D := (dC, dI)) (ci := 6) (v := .int (nI po)) (C := RX6) (T := TX6) (N := 14) hx hb hts hin hown hK hP 0 rfl rfl 7 (by decide) lk106 (fun _ h9 => h9) rfl dX6_isWord_1 ?_
  refine lv_aload_n hx hb dX6_isWord_4 rfl (lv_at hl 0 rfl) ?_
  refine va_get (D := (dC, dI)) (ci := 6) (v := .int (nI st)) (C := RX6) (T := TX6) (N := 14) hx hb hts hin hown hK hP 0 rfl rfl 8 (by decide) lk112 (fun _ h9 => h9) rfl dX6_isWord_5 ?_
  refine qv_isub hx hb (po - st) dX6_isWord_8 (by omega) ?_
  refine lv_istore (lv' := [(7, .int (nI ((po - st)))), (0, .ref (q 0)), (1, .int (nI a)), (2, .int (nI b)), (3, .int (nI c0)), (4, .int (nI d)), (5, .int (nI e0)), (6, .int (nI f))]) hx hb dX6_isWord_9 hl (by decide) rfl (fun ls hl => ?_)
  refine lv_aload_n hx hb dX6_isWord_11 rfl (lv_at hl 1 rfl) ?_
  refine lv_iconst (v := nI 0) hx hb dX6_isWord_12 (by decide) ?_
  refine lv_iload_n hx hb dX6_isWord_13 rfl (lv_at hl 2 rfl) ?_
  refine lv_iload hx hb dX6_isWord_14 (lv_at hl 0 rfl) ?_
  refine qc_Vi (C := RX6) (As := [.int (nI 0), .int (nI a), .int (nI ((po - st)))]) (rest := []) (ci := 6) (k0 := 0) ⟨hx, hb, hml, hown, hts⟩ (c_X6_isLetter l dC dI q cI cZ s.heap.size w kp tx td ab be su (nI po) st nu li fi ga hh 0 a ((po - st)) (by omega) (by omega) (by omega)) (cwV 3 hts gX6_isWord_X6_isLetter rfl rfl rfl (by decide +kernel) ⟨Nat.le_of_ble_eq_true rfl, Nat.le_of_ble_eq_true rfl⟩) hK hP hD hS hA rfl rfl rfl rfl hl.1 rfl (Nat.le_of_ble_eq_true rfl) dX6_isWord_16 ⟨Nat.zero_le _, Nat.zero_le _⟩ (fun r_16 u_16 H locs hw_16 hP hD hS => ?_)
  obtain ⟨z_16, hw_16, rfl⟩ := hw_16
  rw [hw_16, let1_mk z_16] at hF
  refine qv_zif_eq (tgt := 91) hx hb dX6_isWord_19 (by decide) (fun c_19 => ?_) (fun c_19 => ?_)
  · rw [if_neg c_19] at hF
    refine lv_iconst (v := nI 0) hx hb dX6_isWord_91 (by decide) ?_
    have hP9 : va_P (dC, dI) vwCl (mW q cI cZ w kp tx td ab be su (nI po) (nI st) nu li fi ga hh) H := hP
    exact W.zret (v := nI 0) hx hb hr (by rfl) (fun t ht hW => ⟨⟨_, (()), rfl, ⟨false, hO.symm.trans hF, rfl⟩, by rw [ht]; exact hP9, va_K.moved hW.alike hK, hD⟩, hS.F ht⟩) hS.2.2 dX6_isWord_92
  · rw [if_pos c_19] at hF
    refine lv_aload_n hx hb dX6_isWord_22 rfl (lv_at hl 1 rfl) ?_
    refine lv_iconst (v := nI 1) hx hb dX6_isWord_23 (by decide) ?_
    refine lv_iload_n hx hb dX6_isWord_24 rfl (lv_at hl 3 rfl) ?_
    refine lv_iload hx hb dX6_isWord_25 (lv_at hl 0 rfl) ?_
    refine qc_Vi (C := RX6) (As := [.int (nI 1), .int (nI b), .int (nI ((po - st)))]) (rest := []) (ci := 6) (k0 := 0) ⟨hx, hb, hml, hown, hts⟩ (c_X6_isLetter l dC dI q cI cZ H.size w kp tx td ab be su (nI po) st nu li fi ga hh 1 b ((po - st)) (by omega) (by omega) (by omega)) (cwV 3 hts gX6_isWord_X6_isLetter rfl rfl rfl (by decide +kernel) ⟨Nat.le_of_ble_eq_true rfl, Nat.le_of_ble_eq_true rfl⟩) hK hP hD hS hA rfl rfl rfl rfl hl.1 rfl (Nat.le_of_ble_eq_true rfl) dX6_isWord_27 ⟨Nat.zero_le _, Nat.zero_le _⟩ (fun r_27 u_27 H locs hw_27 hP hD hS => ?_)
    obtain ⟨z_27, hw_27, rfl⟩ := hw_27
    rw [hw_27, let1_mk z_27] at hF
    refine qv_zif_eq (tgt := 91) hx hb dX6_isWord_30 (by decide) (fun c_30 => ?_) (fun c_30 => ?_)
    · rw [if_neg c_30] at hF
      refine lv_iconst (v := nI 0) hx hb dX6_isWord_91 (by decide) ?_
      have hP9 : va_P (dC, dI) vwCl (mW q cI cZ w kp tx td ab be su (nI po) (nI st) nu li fi ga hh) H := hP
      exact W.zret (v := nI 0) hx hb hr (by rfl) (fun t ht hW => ⟨⟨_, (()), rfl, ⟨false, hO.symm.trans hF, rfl⟩, by rw [ht]; exact hP9, va_K.moved hW.alike hK, hD⟩, hS.F ht⟩) hS.2.2 dX6_isWord_92
    · rw [if_pos c_30] at hF
      refine lv_aload_n hx hb dX6_isWord_33 rfl (lv_at hl 1 rfl) ?_
      refine lv_iconst (v := nI 2) hx hb dX6_isWord_34 (by decide) ?_
      refine lv_iload_n hx hb dX6_isWord_35 rfl (lv_at hl 4 rfl) ?_
      refine lv_iload hx hb dX6_isWord_36 (lv_at hl 0 rfl) ?_
      refine qc_Vi (C := RX6) (As := [.int (nI 2), .int (nI c0), .int (nI ((po - st)))]) (rest := []) (ci := 6) (k0 := 0) ⟨hx, hb, hml, hown, hts⟩ (c_X6_isLetter l dC dI q cI cZ H.size w kp tx td ab be su (nI po) st nu li fi ga hh 2 c0 ((po - st)) (by omega) (by omega) (by omega)) (cwV 3 hts gX6_isWord_X6_isLetter rfl rfl rfl (by decide +kernel) ⟨Nat.le_of_ble_eq_true rfl, Nat.le_of_ble_eq_true rfl⟩) hK hP hD hS hA rfl rfl rfl rfl hl.1 rfl (Nat.le_of_ble_eq_true rfl) dX6_isWord_38 ⟨Nat.zero_le _, Nat.zero_le _⟩ (fun r_38 u_38 H locs hw_38 hP hD hS => ?_)
      obtain ⟨z_38, hw_38, rfl⟩ := hw_38
      rw [hw_38, let1_mk z_38] at hF
      refine qv_zif_eq (tgt := 91) hx hb dX6_isWord_41 (by decide) (fun c_41 => ?_) (fun c_41 => ?_)
      · rw [if_neg c_41] at hF
        refine lv_iconst (v := nI 0) hx hb dX6_isWord_91 (by decide) ?_
        have hP9 : va_P (dC, dI) vwCl (mW q cI cZ w kp tx td ab be su (nI po) (nI st) nu li fi ga hh) H := hP
        exact W.zret (v := nI 0) hx hb hr (by rfl) (fun t ht hW => ⟨⟨_, (()), rfl, ⟨false, hO.symm.trans hF, rfl⟩, by rw [ht]; exact hP9, va_K.moved hW.alike hK, hD⟩, hS.F ht⟩) hS.2.2 dX6_isWord_92
      · rw [if_pos c_41] at hF
        refine lv_aload_n hx hb dX6_isWord_44 rfl (lv_at hl 1 rfl) ?_
        refine lv_iconst (v := nI 3) hx hb dX6_isWord_45 (by decide) ?_
        refine lv_iload hx hb dX6_isWord_46 (lv_at hl 5 rfl) ?_
        refine lv_iload hx hb dX6_isWord_48 (lv_at hl 0 rfl) ?_
        refine qc_Vi (C := RX6) (As := [.int (nI 3), .int (nI d), .int (nI ((po - st)))]) (rest := []) (ci := 6) (k0 := 0) ⟨hx, hb, hml, hown, hts⟩ (c_X6_isLetter l dC dI q cI cZ H.size w kp tx td ab be su (nI po) st nu li fi ga hh 3 d ((po - st)) (by omega) (by omega) (by omega)) (cwV 3 hts gX6_isWord_X6_isLetter rfl rfl rfl (by decide +kernel) ⟨Nat.le_of_ble_eq_true rfl, Nat.le_of_ble_eq_true rfl⟩) hK hP hD hS hA rfl rfl rfl rfl hl.1 rfl (Nat.le_of_ble_eq_true rfl) dX6_isWord_50 ⟨Nat.zero_le _, Nat.zero_le _⟩ (fun r_50 u_50 H locs hw_50 hP hD hS => ?_)
        obtain ⟨z_50, hw_50, rfl⟩ := hw_50
        rw [hw_50, let1_mk z_50] at hF
        refine qv_zif_eq (tgt := 91) hx hb dX6_isWord_53 (by decide) (fun c_53 => ?_) (fun c_53 => ?_)
        · rw [if_neg c_53] at hF
          refine lv_iconst (v := nI 0) hx hb dX6_isWord_91 (by decide) ?_
          have hP9 : va_P (dC, dI) vwCl (mW q cI cZ w kp tx td ab be su (nI po) (nI st) nu li fi ga hh) H := hP
          exact W.zret (v := nI 0) hx hb hr (by rfl) (fun t ht hW => ⟨⟨_, (()), rfl, ⟨false, hO.symm.trans hF, rfl⟩, by rw [ht]; exact hP9, va_K.moved hW.alike hK, hD⟩, hS.F ht⟩) hS.2.2 dX6_isWord_92
        · rw [if_pos c_53] at hF
          refine lv_aload_n hx hb dX6_isWord_56 rfl (lv_at hl 1 rfl) ?_
          refine lv_iconst (v := nI 4) hx hb dX6_isWord_57 (by decide) ?_
          refine lv_iload hx hb dX6_isWord_58 (lv_at hl 6 rfl) ?_
          refine lv_iload hx hb dX6_isWord_60 (lv_at hl 0 rfl) ?_
          refine qc_Vi (C := RX6) (As := [.int (nI 4), .int (nI e0), .int (nI ((po - st)))]) (rest := []) (ci := 6) (k0 := 0) ⟨hx, hb, hml, hown, hts⟩ (c_X6_isLetter l dC dI q cI cZ H.size w kp tx td ab be su (nI po) st nu li fi ga hh 4 e0 ((po - st)) (by omega) (by omega) (by omega)) (cwV 3 hts gX6_isWord_X6_isLetter rfl rfl rfl (by decide +kernel) ⟨Nat.le_of_ble_eq_true rfl, Nat.le_of_ble_eq_true rfl⟩) hK hP hD hS hA rfl rfl rfl rfl hl.1 rfl (Nat.le_of_ble_eq_true rfl) dX6_isWord_62 ⟨Nat.zero_le _, Nat.zero_le _⟩ (fun r_62 u_62 H locs hw_62 hP hD hS => ?_)
          obtain ⟨z_62, hw_62, rfl⟩ := hw_62
          rw [hw_62, let1_mk z_62] at hF
          refine qv_zif_eq (tgt := 91) hx hb dX6_isWord_65 (by decide) (fun c_65 => ?_) (fun c_65 => ?_)
          · rw [if_neg c_65] at hF
            refine lv_iconst (v := nI 0) hx hb dX6_isWord_91 (by decide) ?_
            have hP9 : va_P (dC, dI) vwCl (mW q cI cZ w kp tx td ab be su (nI po) (nI st) nu li fi ga hh) H := hP
            exact W.zret (v := nI 0) hx hb hr (by rfl) (fun t ht hW => ⟨⟨_, (()), rfl, ⟨false, hO.symm.trans hF, rfl⟩, by rw [ht]; exact hP9, va_K.moved hW.alike hK, hD⟩, hS.F ht⟩) hS.2.2 dX6_isWord_92
          · rw [if_pos c_65] at hF
            refine lv_aload_n hx hb dX6_isWord_68 rfl (lv_at hl 1 rfl) ?_
            refine lv_iconst (v := nI 5) hx hb dX6_isWord_69 (by decide) ?_
            refine lv_iload hx hb dX6_isWord_70 (lv_at hl 7 rfl) ?_
            refine lv_iload hx hb dX6_isWord_72 (lv_at hl 0 rfl) ?_
            refine qc_Vi (C := RX6) (As := [.int (nI 5), .int (nI f), .int (nI ((po - st)))]) (rest := []) (ci := 6) (k0 := 0) ⟨hx, hb, hml, hown, hts⟩ (c_X6_isLetter l dC dI q cI cZ H.size w kp tx td ab be su (nI po) st nu li fi ga hh 5 f ((po - st)) (by omega) (by omega) (by omega)) (cwV 3 hts gX6_isWord_X6_isLetter rfl rfl rfl (by decide +kernel) ⟨Nat.le_of_ble_eq_true rfl, Nat.le_of_ble_eq_true rfl⟩) hK hP hD hS hA rfl rfl rfl rfl hl.1 rfl (Nat.le_of_ble_eq_true rfl) dX6_isWord_74 ⟨Nat.zero_le _, Nat.zero_le _⟩ (fun r_74 u_74 H locs hw_74 hP hD hS => ?_)
            obtain ⟨z_74, hw_74, rfl⟩ := hw_74
            rw [hw_74, let1_mk z_74] at hF
            refine qv_zif_eq (tgt := 91) hx hb dX6_isWord_77 (by decide) (fun c_77 => ?_) (fun c_77 => ?_)
            · rw [if_neg c_77] at hF
              refine lv_iconst (v := nI 0) hx hb dX6_isWord_91 (by decide) ?_
              have hP9 : va_P (dC, dI) vwCl (mW q cI cZ w kp tx td ab be su (nI po) (nI st) nu li fi ga hh) H := hP
              exact W.zret (v := nI 0) hx hb hr (by rfl) (fun t ht hW => ⟨⟨_, (()), rfl, ⟨false, hO.symm.trans hF, rfl⟩, by rw [ht]; exact hP9, va_K.moved hW.alike hK, hD⟩, hS.F ht⟩) hS.2.2 dX6_isWord_92
            · rw [if_pos c_77] at hF
              refine lv_iload hx hb dX6_isWord_80 (lv_at hl 0 rfl) ?_
              refine lv_bipush (v := nI 7) hx hb dX6_isWord_82 (by decide) ?_
              refine qv_icmp_ge (tgt := 91) hx hb dX6_isWord_84 (by decide) (by omega) (by omega) (fun c_84 => ?_) (fun c_84 => ?_)
              · rw [if_pos c_84] at hF
                refine lv_iconst (v := nI 0) hx hb dX6_isWord_91 (by decide) ?_
                have hP9 : va_P (dC, dI) vwCl (mW q cI cZ w kp tx td ab be su (nI po) (nI st) nu li fi ga hh) H := hP
                exact W.zret (v := nI 0) hx hb hr (by rfl) (fun t ht hW => ⟨⟨_, (()), rfl, ⟨false, hO.symm.trans hF, rfl⟩, by rw [ht]; exact hP9, va_K.moved hW.alike hK, hD⟩, hS.F ht⟩) hS.2.2 dX6_isWord_92
              · rw [if_neg c_84] at hF
                refine lv_iconst (v := nI 1) hx hb dX6_isWord_87 (by decide) ?_
                refine lv_goto (tgt := 92) hx hb dX6_isWord_88 (by decide) ?_
                have hP9 : va_P (dC, dI) vwCl (mW q cI cZ w kp tx td ab be su (nI po) (nI st) nu li fi ga hh) H := hP
                exact W.zret (v := nI 1) hx hb hr (by rfl) (fun t ht hW => ⟨⟨_, (()), rfl, ⟨true, hO.symm.trans hF, rfl⟩, by rw [ht]; exact hP9, va_K.moved hW.alike hK, hD⟩, hS.F ht⟩) hS.2.2 dX6_isWord_92
def F_X6_wordOf (tx : Nat → Int32) (po : Nat) (st : Nat) : Int32 := let1 (F_X6_isWord tx po st 102 105 101 108 100 0) (fun z_12 => if z_12 = true then nI 1 else let1 (F_X6_isWord tx po st 98 97 116 116 101 114) (fun z_35 => if z_35 = true then nI 2 else let1 (F_X6_isWord tx po st 98 97 108 108 0 0) (fun z_56 => if z_56 = true then nI 3 else nI 0)))
set_option maxHeartbeats 4000000 in
set_option maxRecDepth 100000 in
theorem c_X6_wordOf (l : Launch) (dC : Nat → ClassId) (dI : Nat → Nat → Nat) (q : Nat → Nat) (cI cZ : ClassId) (sz : Nat) (w : Nat → Int32) (kp : Nat → Int32) (tx : Nat → Int32) (td : Int32) (ab : Int64) (be : Int64) (su : Nat → Int32) (po : Nat) (st : Nat) (nu : Int32) (li : Nat → Int32) (fi : Nat → Int32) (ga : Nat → Int32) (hh : Int64) (pTd : inB td 150) (h1 : st ≤ po) (h2 : po ≤ tN td) : Met l yX6_wordOf wsX6_wordOf { frames := 2, cells := 0, slots := 0, locals := 50 } (mPc (dC, dI) vwCl (mT cI cZ) (mW q cI cZ w kp tx td ab be su (nI po) (nI st) nu li fi ga hh) sz [.ref (q 0)]) (va_Qi (fun (r : Int32) (u : Unit) => F_X6_wordOf tx po st = r) (mB (dC, dI) vwCl (mT cI cZ) (va_A (mW q cI cZ w kp tx td ab be su (nI po) (nI st) nu li fi ga hh) sz) (fun u => mW q cI cZ w kp tx td ab be su (nI po) (nI st) nu li fi ga hh)) (va_A (mW q cI cZ w kp tx td ab be su (nI po) (nI st) nu li fi ga hh) sz)) 0 0 (va_A (mW q cI cZ w kp tx td ab be su (nI po) (nI st) nu li fi ga hh) sz) := by
  refine Met.ofW (cc := cX6_wordOf) (maxL := 1) (ret := (some .int)) (by decide) rfl ?_
  intro p e s m args below meth c s₁ B hml hv
  obtain ⟨rfl, hsz, hP, hK, hD0⟩ := hv
  have hx := B.exec
  have hb := B.bytes
  have hr := B.returns
  have hts := atoms_spec (ws := wsX6_wordOf) B.pre
  have hown : s.vm.findClass RX6 = some m.cls := findClass_of_methodNamed B.named
  have hlocks := B.notSynchronized
  subst hsz
  have hD := hD0.self (sz := s.heap.size)
  generalize hAe : va_A (mW q cI cZ w kp tx td ab be su (nI po) (nI st) nu li fi ga hh) s.heap.size = A at hD ⊢
  have hA : ∀ q : Nat, s.heap.size ≤ q → A q := fun q h => by rw [← hAe]; exact Or.inr h
  have hS : va_S A s.heap s.heap [] := va_S.rf
  have hl := lv_entry ([.ref (q 0)]) (n := 1) (Nat.le_of_ble_eq_true rfl)
  rw [lg_entry_eq]
  generalize (lg_sl ([.ref (q 0)]) ++ List.replicate (1 - (lg_sl ([.ref (q 0)])).length) Slot.unset).toArray = ls at hl ⊢
  have hl : lv_has ls 1 [(0, .ref (q 0))] := hl
  obtain ⟨OUT, hO⟩ : ∃ z, z = F_X6_wordOf tx po st := ⟨_, rfl⟩
  have hF := hO
  unfold F_X6_wordOf at hF
  have e_pTd := tN_eq pTd.1
  have b_pTd := pTd.2
  refine lv_aload_n hx hb dX6_wordOf_0 rfl (lv_at hl 0 rfl) ?_
  refine lv_bipush (v := nI 102) hx hb dX6_wordOf_1 (by decide) ?_
  refine lv_bipush (v := nI 105) hx hb dX6_wordOf_3 (by decide) ?_
  refine lv_bipush (v := nI 101) hx hb dX6_wordOf_5 (by decide) ?_
  refine lv_bipush (v := nI 108) hx hb dX6_wordOf_7 (by decide) ?_
  refine lv_bipush (v := nI 100) hx hb dX6_wordOf_9 (by decide) ?_
  refine lv_iconst (v := nI 0) hx hb dX6_wordOf_11 (by decide) ?_
  refine qc_Vi (C := RX6) (As := [.int (nI 102), .int (nI 105), .int (nI 101), .int (nI 108), .int (nI 100), .int (nI 0)]) (rest := []) (ci := 6) (k0 := 0) ⟨hx, hb, hml, hown, hts⟩ (c_X6_isWord l dC dI q cI cZ s.heap.size w kp tx td ab be su po st nu li fi ga hh 102 105 101 108 100 0 (pTd : inB td 150) (by omega) (by omega) (by omega) (by omega) (by omega) (by omega) (by omega) (by omega)) (cwV 6 hts gX6_wordOf_X6_isWord rfl rfl rfl (by decide +kernel) ⟨Nat.le_of_ble_eq_true rfl, Nat.le_of_ble_eq_true rfl⟩) hK hP hD hS hA rfl rfl rfl rfl hl.1 rfl (Nat.le_of_ble_eq_true rfl) dX6_wordOf_12 ⟨Nat.zero_le _, Nat.zero_le _⟩ (fun r_12 u_12 H locs hw_12 hP hD hS => ?_)
  obtain ⟨z_12, hw_12, rfl⟩ := hw_12
  rw [hw_12, let1_mk z_12] at hF
  refine qv_zif_eq (tgt := 22) hx hb dX6_wordOf_15 (by decide) (fun c_15 => ?_) (fun c_15 => ?_)
  · rw [if_neg c_15] at hF
    refine lv_aload_n hx hb dX6_wordOf_22 rfl (lv_at hl 0 rfl) ?_
    refine lv_bipush (v := nI 98) hx hb dX6_wordOf_23 (by decide) ?_
    refine lv_bipush (v := nI 97) hx hb dX6_wordOf_25 (by decide) ?_
    refine lv_bipush (v := nI 116) hx hb dX6_wordOf_27 (by decide) ?_
    refine lv_bipush (v := nI 116) hx hb dX6_wordOf_29 (by decide) ?_
    refine lv_bipush (v := nI 101) hx hb dX6_wordOf_31 (by decide) ?_
    refine lv_bipush (v := nI 114) hx hb dX6_wordOf_33 (by decide) ?_
    refine qc_Vi (C := RX6) (As := [.int (nI 98), .int (nI 97), .int (nI 116), .int (nI 116), .int (nI 101), .int (nI 114)]) (rest := []) (ci := 6) (k0 := 0) ⟨hx, hb, hml, hown, hts⟩ (c_X6_isWord l dC dI q cI cZ H.size w kp tx td ab be su po st nu li fi ga hh 98 97 116 116 101 114 (pTd : inB td 150) (by omega) (by omega) (by omega) (by omega) (by omega) (by omega) (by omega) (by omega)) (cwV 6 hts gX6_wordOf_X6_isWord rfl rfl rfl (by decide +kernel) ⟨Nat.le_of_ble_eq_true rfl, Nat.le_of_ble_eq_true rfl⟩) hK hP hD hS hA rfl rfl rfl rfl hl.1 rfl (Nat.le_of_ble_eq_true rfl) dX6_wordOf_35 ⟨Nat.zero_le _, Nat.zero_le _⟩ (fun r_35 u_35 H locs hw_35 hP hD hS => ?_)
    obtain ⟨z_35, hw_35, rfl⟩ := hw_35
    rw [hw_35, let1_mk z_35] at hF
    refine qv_zif_eq (tgt := 45) hx hb dX6_wordOf_38 (by decide) (fun c_38 => ?_) (fun c_38 => ?_)
    · rw [if_neg c_38] at hF
      refine lv_aload_n hx hb dX6_wordOf_45 rfl (lv_at hl 0 rfl) ?_
      refine lv_bipush (v := nI 98) hx hb dX6_wordOf_46 (by decide) ?_
      refine lv_bipush (v := nI 97) hx hb dX6_wordOf_48 (by decide) ?_
      refine lv_bipush (v := nI 108) hx hb dX6_wordOf_50 (by decide) ?_
      refine lv_bipush (v := nI 108) hx hb dX6_wordOf_52 (by decide) ?_
      refine lv_iconst (v := nI 0) hx hb dX6_wordOf_54 (by decide) ?_
      refine lv_iconst (v := nI 0) hx hb dX6_wordOf_55 (by decide) ?_
      refine qc_Vi (C := RX6) (As := [.int (nI 98), .int (nI 97), .int (nI 108), .int (nI 108), .int (nI 0), .int (nI 0)]) (rest := []) (ci := 6) (k0 := 0) ⟨hx, hb, hml, hown, hts⟩ (c_X6_isWord l dC dI q cI cZ H.size w kp tx td ab be su po st nu li fi ga hh 98 97 108 108 0 0 (pTd : inB td 150) (by omega) (by omega) (by omega) (by omega) (by omega) (by omega) (by omega) (by omega)) (cwV 6 hts gX6_wordOf_X6_isWord rfl rfl rfl (by decide +kernel) ⟨Nat.le_of_ble_eq_true rfl, Nat.le_of_ble_eq_true rfl⟩) hK hP hD hS hA rfl rfl rfl rfl hl.1 rfl (Nat.le_of_ble_eq_true rfl) dX6_wordOf_56 ⟨Nat.zero_le _, Nat.zero_le _⟩ (fun r_56 u_56 H locs hw_56 hP hD hS => ?_)
      obtain ⟨z_56, hw_56, rfl⟩ := hw_56
      rw [hw_56, let1_mk z_56] at hF
      refine qv_zif_eq (tgt := 66) hx hb dX6_wordOf_59 (by decide) (fun c_59 => ?_) (fun c_59 => ?_)
      · rw [if_neg c_59] at hF
        refine lv_iconst (v := nI 0) hx hb dX6_wordOf_66 (by decide) ?_
        have hP9 : va_P (dC, dI) vwCl (mW q cI cZ w kp tx td ab be su (nI po) (nI st) nu li fi ga hh) H := hP
        exact W.iret (v := nI 0) hx hb hr (fun t ht hW => ⟨⟨_, (()), rfl, hO.symm.trans hF, by rw [ht]; exact hP9, va_K.moved hW.alike hK, hD⟩, hS.F ht⟩) hS.2.2 dX6_wordOf_67
      · rw [if_pos c_59] at hF
        refine lv_iconst (v := nI 3) hx hb dX6_wordOf_62 (by decide) ?_
        refine lv_goto (tgt := 67) hx hb dX6_wordOf_63 (by decide) ?_
        have hP9 : va_P (dC, dI) vwCl (mW q cI cZ w kp tx td ab be su (nI po) (nI st) nu li fi ga hh) H := hP
        exact W.iret (v := nI 3) hx hb hr (fun t ht hW => ⟨⟨_, (()), rfl, hO.symm.trans hF, by rw [ht]; exact hP9, va_K.moved hW.alike hK, hD⟩, hS.F ht⟩) hS.2.2 dX6_wordOf_67
    · rw [if_pos c_38] at hF
      refine lv_iconst (v := nI 2) hx hb dX6_wordOf_41 (by decide) ?_
      refine lv_goto (tgt := 67) hx hb dX6_wordOf_42 (by decide) ?_
      have hP9 : va_P (dC, dI) vwCl (mW q cI cZ w kp tx td ab be su (nI po) (nI st) nu li fi ga hh) H := hP
      exact W.iret (v := nI 2) hx hb hr (fun t ht hW => ⟨⟨_, (()), rfl, hO.symm.trans hF, by rw [ht]; exact hP9, va_K.moved hW.alike hK, hD⟩, hS.F ht⟩) hS.2.2 dX6_wordOf_67
  · rw [if_pos c_15] at hF
    refine lv_iconst (v := nI 1) hx hb dX6_wordOf_18 (by decide) ?_
    refine lv_goto (tgt := 67) hx hb dX6_wordOf_19 (by decide) ?_
    have hP9 : va_P (dC, dI) vwCl (mW q cI cZ w kp tx td ab be su (nI po) (nI st) nu li fi ga hh) H := hP
    exact W.iret (v := nI 1) hx hb hr (fun t ht hW => ⟨⟨_, (()), rfl, hO.symm.trans hF, by rw [ht]; exact hP9, va_K.moved hW.alike hK, hD⟩, hS.F ht⟩) hS.2.2 dX6_wordOf_67
def F_X6_takesNumber_L9 : Nat → (Nat → Int32) → (Int32) → (Nat) → (Nat) → (Nat) → (Nat) × (Nat)
  | 0, _, _, _, pp, nn => (pp, nn)
  | n_9 + 1, tx, td, st_1, pp, nn => let1 (F_X6_byteAt tx td pp) (fun r_14 => if (F_X6_in r_14.toInt64 48 57) = true then (if 2 ≤ (pp - st_1) then F_X6_takesNumber_L9 n_9 tx td st_1 (pp + 1) nn else let1 (F_X6_byteAt tx td pp) (fun r_56 => F_X6_takesNumber_L9 n_9 tx td st_1 (pp + 1) ((10 * nn + tN r_14 - 48)))) else (pp, nn))
def F_X6_takesNumber (tx : Nat → Int32) (td : Int32) (po : Nat) (lo : Nat) (hi : Nat) : Bool × (Nat) × (Nat) × (Nat) := let2 (F_X6_blanks tx td po) (fun po_1 st_1 => let2 (F_X6_takesNumber_L9 151 tx td st_1 po_1 0) (fun pp nn => if (F_X6_in ((nI ((pp - st_1))).toInt64) 1 2) = true then (if (F_X6_in ((nI nn).toInt64) ((nI lo).toInt64) ((nI hi).toInt64)) = true then (true, pp, st_1, nn) else (false, pp, st_1, nn)) else (false, pp, st_1, nn)))
set_option maxHeartbeats 4000000 in
set_option maxRecDepth 100000 in
theorem c_X6_takesNumber (l : Launch) (dC : Nat → ClassId) (dI : Nat → Nat → Nat) (q : Nat → Nat) (cI cZ : ClassId) (sz : Nat) (w : Nat → Int32) (kp : Nat → Int32) (tx : Nat → Int32) (td : Int32) (ab : Int64) (be : Int64) (su : Nat → Int32) (po : Nat) (st : Int32) (nu : Int32) (li : Nat → Int32) (fi : Nat → Int32) (ga : Nat → Int32) (hh : Int64) (lo : Nat) (hi : Nat) (pTd : inB td 150) (hp : po ≤ tN td) : Met l yX6_takesNumber wsX6_takesNumber { frames := 2, cells := 0, slots := 0, locals := 41 } (mPc (dC, dI) vwCl (mT cI cZ) (mW q cI cZ w kp tx td ab be su (nI po) st nu li fi ga hh) sz [.ref (q 0), .int (nI lo), .int (nI hi)]) (va_Qi (fun (r : Int32) (u : (Nat) × (Nat) × (Nat)) => ∃ z : Bool, F_X6_takesNumber tx td po lo hi = (z, u) ∧ r = if z = true then 1 else 0) (mB (dC, dI) vwCl (mT cI cZ) (va_A (mW q cI cZ w kp tx td ab be su (nI po) st nu li fi ga hh) sz) (fun u => mW q cI cZ w kp tx td ab be su (nI u.1) (nI u.2.1) (nI u.2.2) li fi ga hh)) (va_A (mW q cI cZ w kp tx td ab be su (nI po) st nu li fi ga hh) sz)) 0 0 (va_A (mW q cI cZ w kp tx td ab be su (nI po) st nu li fi ga hh) sz) := by
  refine Met.ofW (cc := cX6_takesNumber) (maxL := 3) (ret := (some .boolean)) (by decide) rfl ?_
  intro p e s m args below meth c s₁ B hml hv
  obtain ⟨rfl, hsz, hP, hK, hD0⟩ := hv
  have hx := B.exec
  have hb := B.bytes
  have hr := B.returns
  have hts := atoms_spec (ws := wsX6_takesNumber) B.pre
  have hown : s.vm.findClass RX6 = some m.cls := findClass_of_methodNamed B.named
  have hlocks := B.notSynchronized
  subst hsz
  have hD := hD0.self (sz := s.heap.size)
  generalize hAe : va_A (mW q cI cZ w kp tx td ab be su (nI po) st nu li fi ga hh) s.heap.size = A at hD ⊢
  have hA : ∀ q : Nat, s.heap.size ≤ q → A q := fun q h => by rw [← hAe]; exact Or.inr h
  have hS : va_S A s.heap s.heap [] := va_S.rf
  have hin : ∀ w ∈ wsX60, w ∈ wsX6_takesNumber := by decide +kernel
  have lk106 := hts (.fieldLink RX6 106 "PostRoundersModel" "at" "I") (by decide +kernel)
  have lk112 := hts (.fieldLink RX6 112 "PostRoundersModel" "start" "I") (by decide +kernel)
  have lk130 := hts (.fieldLink RX6 130 "PostRoundersModel" "number" "I") (by decide +kernel)
  have hl := lv_entry ([.ref (q 0), .int (nI lo), .int (nI hi)]) (n := 3) (Nat.le_of_ble_eq_true rfl)
  rw [lg_entry_eq]
  generalize (lg_sl ([.ref (q 0), .int (nI lo), .int (nI hi)]) ++ List.replicate (3 - (lg_sl ([.ref (q 0), .int (nI lo), .int (nI hi)])).length) Slot.unset).toArray = ls at hl ⊢
  have hl : lv_has ls 3 [(0, .ref (q 0)), (1, .int (nI lo)), (2, .int (nI hi))] := hl
  obtain ⟨OUT, hO⟩ : ∃ z, z = F_X6_takesNumber tx td po lo hi := ⟨_, rfl⟩
  have hF := hO
  unfold F_X6_takesNumber at hF
  have e_pTd := tN_eq pTd.1
  have b_pTd := pTd.2
  refine lv_aload_n hx hb dX6_takesNumber_0 rfl (lv_at hl 0 rfl) ?_
  refine qc_Vv (C := RX6) (As := []) (rest := []) (ci := 6) (k0 := 0) ⟨hx, hb, hml, hown, hts⟩ (c_X6_blanks l dC dI q cI cZ s.heap.size w kp tx td ab be su po st nu li fi ga hh  (pTd : inB td 150) (by omega)) (cwV 0 hts gX6_takesNumber_X6_blanks rfl rfl rfl (by decide +kernel) ⟨Nat.le_of_ble_eq_true rfl, Nat.le_of_ble_eq_true rfl⟩) hK hP hD hS hA rfl rfl rfl rfl hl.1 rfl (Nat.le_of_ble_eq_true rfl) dX6_takesNumber_1 ⟨Nat.zero_le _, Nat.zero_le _⟩ (fun u_1 H locs hw_1 hP hD hS => ?_)
  obtain ⟨po_1, st_1⟩ := u_1
  have hP : va_P (dC, dI) vwCl (mW q cI cZ w kp tx td ab be su (nI po_1) (nI st_1) nu li fi ga hh) H := hP
  have hD : va_D A (mW q cI cZ w kp tx td ab be su (nI po_1) (nI st_1) nu li fi ga hh) := hD
  have a_1 := blanks_at hw_1 (by omega)
  rw [hw_1, let2_mk po_1 st_1] at hF
  refine lv_aload_n hx hb dX6_takesNumber_4 rfl (lv_at hl 0 rfl) ?_
  refine lv_iconst (v := nI 0) hx hb dX6_takesNumber_5 (by decide) ?_
  refine va_put (D := (dC, dI)) (ci := 6) (v := .int (nI 0)) (ty := .int) (C := RX6) (T := TX6) (N := 14) hx hb hts hin tyX6 tyX6_ok nmX6 hown hK hP hD hS 0 rfl rfl 9 (by decide) lk130 (fun _ h9 => h9) rfl (by decide +kernel) rfl rfl (Nat.le_of_ble_eq_true rfl) dX6_takesNumber_6 (fun H locs hP hD hS => ?_)
  have hP : va_P (dC, dI) vwCl (mW q cI cZ w kp tx td ab be su (nI po_1) (nI st_1) (nI 0) li fi ga hh) H := hP
  have hD : va_D A (mW q cI cZ w kp tx td ab be su (nI po_1) (nI st_1) (nI 0) li fi ga hh) := hD
  have L_9 : ∀ (n_9 : Nat) (pp : Nat) (nn : Nat) (H : Heap) (locs : List Loc), pp ≤ tN td → st_1 ≤ pp → tN td - pp < n_9 → va_P (dC, dI) vwCl (mW q cI cZ w kp tx td ab be su (nI pp) (nI st_1) (nI nn) li fi ga hh) H → va_D A (mW q cI cZ w kp tx td ab be su (nI pp) (nI st_1) (nI nn) li fi ga hh) → va_S A s.heap H locs → ∀ (ls : Array Slot), lv_has ls 3 [(0, .ref (q 0)), (1, .int (nI lo)), (2, .int (nI hi))] → OUT = let2 (F_X6_takesNumber_L9 n_9 tx td st_1 pp nn) (fun pp nn => if (F_X6_in ((nI ((pp - st_1))).toInt64) 1 2) = true then (if (F_X6_in ((nI nn).toInt64) ((nI lo).toInt64) ((nI hi).toInt64)) = true then (true, pp, st_1, nn) else (false, pp, st_1, nn)) else (false, pp, st_1, nn)) → W p l e (headSpec wsX6_takesNumber { frames := 2, cells := 0, slots := 0, locals := 41 }).room s m ([.ref (q 0), .int (nI lo), .int (nI hi)] : List Value).toArray below meth c H locs 0 0 (MQ below (va_Qi (fun (r : Int32) (u : (Nat) × (Nat) × (Nat)) => ∃ z : Bool, F_X6_takesNumber tx td po lo hi = (z, u) ∧ r = if z = true then 1 else 0) (mB (dC, dI) vwCl (mT cI cZ) A (fun u => mW q cI cZ w kp tx td ab be su (nI u.1) (nI u.2.1) (nI u.2.2) li fi ga hh)) A) ([.ref (q 0), .int (nI lo), .int (nI hi)] : List Value).toArray s 0 0 A) (F0 m 9 ls []) := by
    intro n_9
    induction n_9 with
    | zero => intro pp nn H locs i0 i1 hmu; exact absurd hmu (Nat.not_lt_zero _)
    | succ n_9 ih_9 =>
      intro pp nn H locs i0 i1 hmu_9 hP hD hS ls hl hF
      rw [F_X6_takesNumber_L9] at hF
      refine lv_aload_n hx hb dX6_takesNumber_9 rfl (lv_at hl 0 rfl) ?_
      refine lv_aload_n hx hb dX6_takesNumber_10 rfl (lv_at hl 0 rfl) ?_
      refine va_get (D := (dC, dI)) (ci := 6) (v := .int (nI pp)) (C := RX6) (T := TX6) (N := 14) hx hb hts hin hown hK hP 0 rfl rfl 7 (by decide) lk106 (fun _ h9 => h9) rfl dX6_takesNumber_11 ?_
      refine qc_Vi (C := RX6) (As := [.int (nI pp)]) (rest := []) (ci := 6) (k0 := 0) ⟨hx, hb, hml, hown, hts⟩ (c_X6_byteAt l dC dI q cI cZ H.size w kp tx td ab be su (nI pp) (nI st_1) (nI nn) li fi ga hh pp (pTd : inB td 150) (by omega)) (cwV 1 hts gX6_takesNumber_X6_byteAt rfl rfl rfl (by decide +kernel) ⟨Nat.le_of_ble_eq_true rfl, Nat.le_of_ble_eq_true rfl⟩) hK hP hD hS hA rfl rfl rfl rfl hl.1 rfl (Nat.le_of_ble_eq_true rfl) dX6_takesNumber_14 ⟨Nat.zero_le _, Nat.zero_le _⟩ (fun r_14 u_14 H locs hw_14 hP hD hS => ?_)
      rw [hw_14, let1_mk r_14] at hF
      refine lv_i2l hx hb dX6_takesNumber_17 rfl ?_
      refine lv_ldc2 (v := 48) hx hb hown (hts (.constantLong RX6 133 48) (by decide +kernel)) dX6_takesNumber_18 ?_
      refine lv_ldc2 (v := 57) hx hb hown (hts (.constantLong RX6 135 57) (by decide +kernel)) dX6_takesNumber_21 ?_
      refine qc_Si (As := [.long r_14.toInt64, .long 48, .long 57]) (rest := []) ⟨hx, hb, hml, hown, hts⟩ (c_X6_in l r_14.toInt64 48 57) (va_cwS 3 hts gX6_takesNumber_X6_in rfl rfl rfl (by decide +kernel) ⟨Nat.le_of_ble_eq_true rfl, Nat.le_of_ble_eq_true rfl⟩) rfl hl.1 rfl (Nat.le_of_ble_eq_true rfl) dX6_takesNumber_24 ⟨Nat.zero_le _, Nat.zero_le _⟩ (fun r_24 hw_24 => ?_)
      subst hw_24
      refine qv_zif_eq (tgt := 86) hx hb dX6_takesNumber_27 (by decide) (fun c_27 => ?_) (fun c_27 => ?_)
      · rw [if_neg c_27] at hF
        rw [let2_mk (pp : Nat) (nn : Nat)] at hF
        refine lv_aload_n hx hb dX6_takesNumber_86 rfl (lv_at hl 0 rfl) ?_
        refine va_get (D := (dC, dI)) (ci := 6) (v := .int (nI pp)) (C := RX6) (T := TX6) (N := 14) hx hb hts hin hown hK hP 0 rfl rfl 7 (by decide) lk106 (fun _ h9 => h9) rfl dX6_takesNumber_87 ?_
        refine lv_aload_n hx hb dX6_takesNumber_90 rfl (lv_at hl 0 rfl) ?_
        refine va_get (D := (dC, dI)) (ci := 6) (v := .int (nI st_1)) (C := RX6) (T := TX6) (N := 14) hx hb hts hin hown hK hP 0 rfl rfl 8 (by decide) lk112 (fun _ h9 => h9) rfl dX6_takesNumber_91 ?_
        refine qv_isub hx hb (pp - st_1) dX6_takesNumber_94 (by omega) ?_
        refine lv_i2l hx hb dX6_takesNumber_95 rfl ?_
        refine lv_lconst (v := 1) hx hb dX6_takesNumber_96 (by decide) ?_
        refine lv_ldc2 (v := 2) hx hb hown (hts (.constantLong RX6 137 2) (by decide +kernel)) dX6_takesNumber_97 ?_
        refine qc_Si (As := [.long ((nI ((pp - st_1))).toInt64), .long 1, .long 2]) (rest := []) ⟨hx, hb, hml, hown, hts⟩ (c_X6_in l ((nI ((pp - st_1))).toInt64) 1 2) (va_cwS 3 hts gX6_takesNumber_X6_in rfl rfl rfl (by decide +kernel) ⟨Nat.le_of_ble_eq_true rfl, Nat.le_of_ble_eq_true rfl⟩) rfl hl.1 rfl (Nat.le_of_ble_eq_true rfl) dX6_takesNumber_100 ⟨Nat.zero_le _, Nat.zero_le _⟩ (fun r_100 hw_100 => ?_)
        subst hw_100
        refine qv_zif_eq (tgt := 125) hx hb dX6_takesNumber_103 (by decide) (fun c_103 => ?_) (fun c_103 => ?_)
        · rw [if_neg c_103] at hF
          refine lv_iconst (v := nI 0) hx hb dX6_takesNumber_125 (by decide) ?_
          have hP9 : va_P (dC, dI) vwCl (mW q cI cZ w kp tx td ab be su (nI pp) (nI st_1) (nI nn) li fi ga hh) H := hP
          exact W.zret (v := nI 0) hx hb hr (by rfl) (fun t ht hW => ⟨⟨_, ((pp, st_1, nn)), rfl, ⟨false, hO.symm.trans hF, rfl⟩, by rw [ht]; exact hP9, va_K.moved hW.alike hK, hD⟩, hS.F ht⟩) hS.2.2 dX6_takesNumber_126
        · rw [if_pos c_103] at hF
          refine lv_aload_n hx hb dX6_takesNumber_106 rfl (lv_at hl 0 rfl) ?_
          refine va_get (D := (dC, dI)) (ci := 6) (v := .int (nI nn)) (C := RX6) (T := TX6) (N := 14) hx hb hts hin hown hK hP 0 rfl rfl 9 (by decide) lk130 (fun _ h9 => h9) rfl dX6_takesNumber_107 ?_
          refine lv_i2l hx hb dX6_takesNumber_110 rfl ?_
          refine lv_iload_n hx hb dX6_takesNumber_111 rfl (lv_at hl 1 rfl) ?_
          refine lv_i2l hx hb dX6_takesNumber_112 rfl ?_
          refine lv_iload_n hx hb dX6_takesNumber_113 rfl (lv_at hl 2 rfl) ?_
          refine lv_i2l hx hb dX6_takesNumber_114 rfl ?_
          refine qc_Si (As := [.long ((nI nn).toInt64), .long ((nI lo).toInt64), .long ((nI hi).toInt64)]) (rest := []) ⟨hx, hb, hml, hown, hts⟩ (c_X6_in l ((nI nn).toInt64) ((nI lo).toInt64) ((nI hi).toInt64)) (va_cwS 3 hts gX6_takesNumber_X6_in rfl rfl rfl (by decide +kernel) ⟨Nat.le_of_ble_eq_true rfl, Nat.le_of_ble_eq_true rfl⟩) rfl hl.1 rfl (Nat.le_of_ble_eq_true rfl) dX6_takesNumber_115 ⟨Nat.zero_le _, Nat.zero_le _⟩ (fun r_115 hw_115 => ?_)
          subst hw_115
          refine qv_zif_eq (tgt := 125) hx hb dX6_takesNumber_118 (by decide) (fun c_118 => ?_) (fun c_118 => ?_)
          · rw [if_neg c_118] at hF
            refine lv_iconst (v := nI 0) hx hb dX6_takesNumber_125 (by decide) ?_
            have hP9 : va_P (dC, dI) vwCl (mW q cI cZ w kp tx td ab be su (nI pp) (nI st_1) (nI nn) li fi ga hh) H := hP
            exact W.zret (v := nI 0) hx hb hr (by rfl) (fun t ht hW => ⟨⟨_, ((pp, st_1, nn)), rfl, ⟨false, hO.symm.trans hF, rfl⟩, by rw [ht]; exact hP9, va_K.moved hW.alike hK, hD⟩, hS.F ht⟩) hS.2.2 dX6_takesNumber_126
          · rw [if_pos c_118] at hF
            refine lv_iconst (v := nI 1) hx hb dX6_takesNumber_121 (by decide) ?_
            refine lv_goto (tgt := 126) hx hb dX6_takesNumber_122 (by decide) ?_
            have hP9 : va_P (dC, dI) vwCl (mW q cI cZ w kp tx td ab be su (nI pp) (nI st_1) (nI nn) li fi ga hh) H := hP
            exact W.zret (v := nI 1) hx hb hr (by rfl) (fun t ht hW => ⟨⟨_, ((pp, st_1, nn)), rfl, ⟨true, hO.symm.trans hF, rfl⟩, by rw [ht]; exact hP9, va_K.moved hW.alike hK, hD⟩, hS.F ht⟩) hS.2.2 dX6_takesNumber_126
      · rw [if_pos c_27] at hF
        obtain ⟨f_r_14, fa_r_14, fb_r_14⟩ := in_nat (lo := 48) (hi := 57) rfl rfl (by decide) (by decide) c_27
        have e_r_14 := tN_eq f_r_14
        have l_14 := byteAt_lt hw_14 (in_ne (lo := 48) (hi := 57) rfl rfl (by decide) (by decide) c_27)
        refine lv_aload_n hx hb dX6_takesNumber_30 rfl (lv_at hl 0 rfl) ?_
        refine lv_aload_n hx hb dX6_takesNumber_31 rfl (lv_at hl 0 rfl) ?_
        refine va_get (D := (dC, dI)) (ci := 6) (v := .int (nI pp)) (C := RX6) (T := TX6) (N := 14) hx hb hts hin hown hK hP 0 rfl rfl 7 (by decide) lk106 (fun _ h9 => h9) rfl dX6_takesNumber_32 ?_
        refine lv_aload_n hx hb dX6_takesNumber_35 rfl (lv_at hl 0 rfl) ?_
        refine va_get (D := (dC, dI)) (ci := 6) (v := .int (nI st_1)) (C := RX6) (T := TX6) (N := 14) hx hb hts hin hown hK hP 0 rfl rfl 8 (by decide) lk112 (fun _ h9 => h9) rfl dX6_takesNumber_36 ?_
        refine qv_isub hx hb (pp - st_1) dX6_takesNumber_39 (by omega) ?_
        refine lv_iconst (v := nI 2) hx hb dX6_takesNumber_40 (by decide) ?_
        refine qv_icmp_ge (tgt := 66) hx hb dX6_takesNumber_41 (by decide) (by omega) (by omega) (fun c_41 => ?_) (fun c_41 => ?_)
        · rw [if_pos c_41] at hF
          refine lv_aload_n hx hb dX6_takesNumber_66 rfl (lv_at hl 0 rfl) ?_
          refine va_get (D := (dC, dI)) (ci := 6) (v := .int (nI nn)) (C := RX6) (T := TX6) (N := 14) hx hb hts hin hown hK hP 0 rfl rfl 9 (by decide) lk130 (fun _ h9 => h9) rfl dX6_takesNumber_67 ?_
          refine va_put (D := (dC, dI)) (ci := 6) (v := .int (nI nn)) (ty := .int) (C := RX6) (T := TX6) (N := 14) hx hb hts hin tyX6 tyX6_ok nmX6 hown hK hP hD hS 0 rfl rfl 9 (by decide) lk130 (fun _ h9 => h9) rfl (by decide +kernel) rfl rfl (Nat.le_of_ble_eq_true rfl) dX6_takesNumber_70 (fun H locs hP hD hS => ?_)
          have hP : va_P (dC, dI) vwCl (mW q cI cZ w kp tx td ab be su (nI pp) (nI st_1) (nI nn) li fi ga hh) H := hP
          have hD : va_D A (mW q cI cZ w kp tx td ab be su (nI pp) (nI st_1) (nI nn) li fi ga hh) := hD
          refine lv_aload_n hx hb dX6_takesNumber_73 rfl (lv_at hl 0 rfl) ?_
          refine lv_dup hx hb dX6_takesNumber_74 rfl ?_
          refine va_get (D := (dC, dI)) (ci := 6) (v := .int (nI pp)) (C := RX6) (T := TX6) (N := 14) hx hb hts hin hown hK hP 0 rfl rfl 7 (by decide) lk106 (fun _ h9 => h9) rfl dX6_takesNumber_75 ?_
          refine lv_iconst (v := nI 1) hx hb dX6_takesNumber_78 (by decide) ?_
          refine qv_iadd hx hb (pp + 1) dX6_takesNumber_79 (by omega) ?_
          refine va_put (D := (dC, dI)) (ci := 6) (v := .int (nI (pp + 1))) (ty := .int) (C := RX6) (T := TX6) (N := 14) hx hb hts hin tyX6 tyX6_ok nmX6 hown hK hP hD hS 0 rfl rfl 7 (by decide) lk106 (fun _ h9 => h9) rfl (by decide +kernel) rfl rfl (Nat.le_of_ble_eq_true rfl) dX6_takesNumber_80 (fun H locs hP hD hS => ?_)
          have hP : va_P (dC, dI) vwCl (mW q cI cZ w kp tx td ab be su (nI (pp + 1)) (nI st_1) (nI nn) li fi ga hh) H := hP
          have hD : va_D A (mW q cI cZ w kp tx td ab be su (nI (pp + 1)) (nI st_1) (nI nn) li fi ga hh) := hD
          refine lv_goto (tgt := 9) hx hb dX6_takesNumber_83 (by decide) ?_
          exact ih_9 (pp + 1) nn H locs (by omega) (by omega) (by omega) hP hD hS ls (lv_sub hl [0, 1, 2] rfl) hF
        · rw [if_neg c_41] at hF
          refine lv_bipush (v := nI 10) hx hb dX6_takesNumber_44 (by decide) ?_
          refine lv_aload_n hx hb dX6_takesNumber_46 rfl (lv_at hl 0 rfl) ?_
          refine va_get (D := (dC, dI)) (ci := 6) (v := .int (nI nn)) (C := RX6) (T := TX6) (N := 14) hx hb hts hin hown hK hP 0 rfl rfl 9 (by decide) lk130 (fun _ h9 => h9) rfl dX6_takesNumber_47 ?_
          refine qv_imul hx hb (10 * nn) dX6_takesNumber_50 (by omega) ?_
          refine lv_aload_n hx hb dX6_takesNumber_51 rfl (lv_at hl 0 rfl) ?_
          refine lv_aload_n hx hb dX6_takesNumber_52 rfl (lv_at hl 0 rfl) ?_
          refine va_get (D := (dC, dI)) (ci := 6) (v := .int (nI pp)) (C := RX6) (T := TX6) (N := 14) hx hb hts hin hown hK hP 0 rfl rfl 7 (by decide) lk106 (fun _ h9 => h9) rfl dX6_takesNumber_53 ?_
          refine qc_Vi (C := RX6) (As := [.int (nI pp)]) (rest := [.int (nI (10 * nn)), .ref (q 0)]) (ci := 6) (k0 := 0) ⟨hx, hb, hml, hown, hts⟩ (c_X6_byteAt l dC dI q cI cZ H.size w kp tx td ab be su (nI pp) (nI st_1) (nI nn) li fi ga hh pp (pTd : inB td 150) (by omega)) (cwV 1 hts gX6_takesNumber_X6_byteAt rfl rfl rfl (by decide +kernel) ⟨Nat.le_of_ble_eq_true rfl, Nat.le_of_ble_eq_true rfl⟩) hK hP hD hS hA rfl rfl rfl rfl hl.1 rfl (Nat.le_of_ble_eq_true rfl) dX6_takesNumber_56 ⟨Nat.zero_le _, Nat.zero_le _⟩ (fun r_56 u_56 H locs hw_56 hP hD hS => ?_)
          have q_56 : r_56 = r_14 := hw_56.symm.trans hw_14
          refine qv_top q_56 ?_
          refine qv_top (e_r_14) ?_
          rw [let1_mk r_14] at hF
          refine qv_iadd hx hb (10 * nn + tN r_14) dX6_takesNumber_59 (by omega) ?_
          refine lv_bipush (v := nI 48) hx hb dX6_takesNumber_60 (by decide) ?_
          refine qv_isub hx hb (10 * nn + tN r_14 - 48) dX6_takesNumber_62 (by omega) ?_
          refine lv_goto (tgt := 70) hx hb dX6_takesNumber_63 (by decide) ?_
          refine va_put (D := (dC, dI)) (ci := 6) (v := .int (nI ((10 * nn + tN r_14 - 48)))) (ty := .int) (C := RX6) (T := TX6) (N := 14) hx hb hts hin tyX6 tyX6_ok nmX6 hown hK hP hD hS 0 rfl rfl 9 (by decide) lk130 (fun _ h9 => h9) rfl (by decide +kernel) rfl rfl (Nat.le_of_ble_eq_true rfl) dX6_takesNumber_70 (fun H locs hP hD hS => ?_)
          have hP : va_P (dC, dI) vwCl (mW q cI cZ w kp tx td ab be su (nI pp) (nI st_1) (nI ((10 * nn + tN r_14 - 48))) li fi ga hh) H := hP
          have hD : va_D A (mW q cI cZ w kp tx td ab be su (nI pp) (nI st_1) (nI ((10 * nn + tN r_14 - 48))) li fi ga hh) := hD
          refine lv_aload_n hx hb dX6_takesNumber_73 rfl (lv_at hl 0 rfl) ?_
          refine lv_dup hx hb dX6_takesNumber_74 rfl ?_
          refine va_get (D := (dC, dI)) (ci := 6) (v := .int (nI pp)) (C := RX6) (T := TX6) (N := 14) hx hb hts hin hown hK hP 0 rfl rfl 7 (by decide) lk106 (fun _ h9 => h9) rfl dX6_takesNumber_75 ?_
          refine lv_iconst (v := nI 1) hx hb dX6_takesNumber_78 (by decide) ?_
          refine qv_iadd hx hb (pp + 1) dX6_takesNumber_79 (by omega) ?_
          refine va_put (D := (dC, dI)) (ci := 6) (v := .int (nI (pp + 1))) (ty := .int) (C := RX6) (T := TX6) (N := 14) hx hb hts hin tyX6 tyX6_ok nmX6 hown hK hP hD hS 0 rfl rfl 7 (by decide) lk106 (fun _ h9 => h9) rfl (by decide +kernel) rfl rfl (Nat.le_of_ble_eq_true rfl) dX6_takesNumber_80 (fun H locs hP hD hS => ?_)
          have hP : va_P (dC, dI) vwCl (mW q cI cZ w kp tx td ab be su (nI (pp + 1)) (nI st_1) (nI ((10 * nn + tN r_14 - 48))) li fi ga hh) H := hP
          have hD : va_D A (mW q cI cZ w kp tx td ab be su (nI (pp + 1)) (nI st_1) (nI ((10 * nn + tN r_14 - 48))) li fi ga hh) := hD
          refine lv_goto (tgt := 9) hx hb dX6_takesNumber_83 (by decide) ?_
          exact ih_9 (pp + 1) ((10 * nn + tN r_14 - 48)) H locs (by omega) (by omega) (by omega) hP hD hS ls (lv_sub hl [0, 1, 2] rfl) hF
  exact L_9 151 po_1 0 H locs (by omega) (by omega) (by omega) hP hD hS ls (lv_sub hl [0, 1, 2] rfl) hF
theorem L_takesNumber (tx : Nat → Int32) (td : Int32) (st_1 : Nat) : ∀ (n pp nn : Nat), pp ≤ tN td → pp ≤ (F_X6_takesNumber_L9 n tx td st_1 pp nn).1 ∧ (F_X6_takesNumber_L9 n tx td st_1 pp nn).1 ≤ tN td
  | 0, _, _, h => ⟨Nat.le_refl _, h⟩
  | n + 1, pp, nn, h => by
    rw [F_X6_takesNumber_L9]
    simp only [let1]
    split
    · next c =>
      have := byteAt_lt (tx := tx) (td := td) (k := pp) rfl (in_ne (lo := 48) (hi := 57) rfl rfl (by decide) (by decide) c)
      split
      · have ih := L_takesNumber tx td st_1 n (pp + 1) nn (by omega)
        omega
      · have ih := L_takesNumber tx td st_1 n (pp + 1) (10 * nn + tN (F_X6_byteAt tx td pp) - 48) (by omega)
        omega
    · exact ⟨Nat.le_refl _, h⟩
theorem takesNumber_at {tx : Nat → Int32} {td : Int32} {po po' st' nu' lo hi : Nat} {z : Bool} (e : F_X6_takesNumber tx td po lo hi = (z, po', st', nu')) (h : po ≤ tN td) : po ≤ st' ∧ st' ≤ po' ∧ po' ≤ tN td ∧ (z = true → st' < po') := by
  unfold F_X6_takesNumber at e
  cases hb : F_X6_blanks tx td po with
  | mk p1 s1 =>
  rw [hb] at e
  simp only [let2] at e
  obtain ⟨h1, h2, h3⟩ := blanks_at hb h
  obtain ⟨h4, h5⟩ := L_takesNumber tx td s1 151 p1 0 h2
  split at e
  · next c =>
    have hz : (F_X6_takesNumber_L9 151 tx td s1 p1 0).1 - s1 ≠ 0 := fun q => by
      rw [q] at c
      exact absurd c (by decide)
    split at e
    all_goals
      have e1 := (Prod.mk.inj (Prod.mk.inj e).2).1
      have e2 := (Prod.mk.inj (Prod.mk.inj (Prod.mk.inj e).2).2).1
      refine ⟨by omega, by omega, by omega, fun _ => by omega⟩
  · have e0 := (Prod.mk.inj e).1
    have e1 := (Prod.mk.inj (Prod.mk.inj e).2).1
    have e2 := (Prod.mk.inj (Prod.mk.inj (Prod.mk.inj e).2).2).1
    refine ⟨by omega, by omega, by omega, fun q => ?_⟩
    rw [← e0] at q
    exact absurd q (by decide)
def F_X6_takesEnd (tx : Nat → Int32) (td : Int32) (po : Nat) : Bool × (Nat) × (Nat) := let2 (F_X6_blanks tx td po) (fun po_1 st_1 => let1 (F_X6_byteAt tx td st_1) (fun r_19 => if r_19 = (nI 59) then (true, (po_1 + 1), st_1) else (false, (po_1 + 1), st_1)))
set_option maxHeartbeats 4000000 in
set_option maxRecDepth 100000 in
theorem c_X6_takesEnd (l : Launch) (dC : Nat → ClassId) (dI : Nat → Nat → Nat) (q : Nat → Nat) (cI cZ : ClassId) (sz : Nat) (w : Nat → Int32) (kp : Nat → Int32) (tx : Nat → Int32) (td : Int32) (ab : Int64) (be : Int64) (su : Nat → Int32) (po : Nat) (st : Int32) (nu : Int32) (li : Nat → Int32) (fi : Nat → Int32) (ga : Nat → Int32) (hh : Int64) (pTd : inB td 150) (hp : po ≤ tN td) : Met l yX6_takesEnd wsX6_takesEnd { frames := 2, cells := 0, slots := 0, locals := 41 } (mPc (dC, dI) vwCl (mT cI cZ) (mW q cI cZ w kp tx td ab be su (nI po) st nu li fi ga hh) sz [.ref (q 0)]) (va_Qi (fun (r : Int32) (u : (Nat) × (Nat)) => ∃ z : Bool, F_X6_takesEnd tx td po = (z, u) ∧ r = if z = true then 1 else 0) (mB (dC, dI) vwCl (mT cI cZ) (va_A (mW q cI cZ w kp tx td ab be su (nI po) st nu li fi ga hh) sz) (fun u => mW q cI cZ w kp tx td ab be su (nI u.1) (nI u.2) nu li fi ga hh)) (va_A (mW q cI cZ w kp tx td ab be su (nI po) st nu li fi ga hh) sz)) 0 0 (va_A (mW q cI cZ w kp tx td ab be su (nI po) st nu li fi ga hh) sz) := by
  refine Met.ofW (cc := cX6_takesEnd) (maxL := 1) (ret := (some .boolean)) (by decide) rfl ?_
  intro p e s m args below meth c s₁ B hml hv
  obtain ⟨rfl, hsz, hP, hK, hD0⟩ := hv
  have hx := B.exec
  have hb := B.bytes
  have hr := B.returns
  have hts := atoms_spec (ws := wsX6_takesEnd) B.pre
  have hown : s.vm.findClass RX6 = some m.cls := findClass_of_methodNamed B.named
  have hlocks := B.notSynchronized
  subst hsz
  have hD := hD0.self (sz := s.heap.size)
  generalize hAe : va_A (mW q cI cZ w kp tx td ab be su (nI po) st nu li fi ga hh) s.heap.size = A at hD ⊢
  have hA : ∀ q : Nat, s.heap.size ≤ q → A q := fun q h => by rw [← hAe]; exact Or.inr h
  have hS : va_S A s.heap s.heap [] := va_S.rf
  have hin : ∀ w ∈ wsX60, w ∈ wsX6_takesEnd := by decide +kernel
  have lk106 := hts (.fieldLink RX6 106 "PostRoundersModel" "at" "I") (by decide +kernel)
  have lk112 := hts (.fieldLink RX6 112 "PostRoundersModel" "start" "I") (by decide +kernel)
  have hl := lv_entry ([.ref (q 0)]) (n := 1) (Nat.le_of_ble_eq_true rfl)
  rw [lg_entry_eq]
  generalize (lg_sl ([.ref (q 0)]) ++ List.replicate (1 - (lg_sl ([.ref (q 0)])).length) Slot.unset).toArray = ls at hl ⊢
  have hl : lv_has ls 1 [(0, .ref (q 0))] := hl
  obtain ⟨OUT, hO⟩ : ∃ z, z = F_X6_takesEnd tx td po := ⟨_, rfl⟩
  have hF := hO
  unfold F_X6_takesEnd at hF
  have e_pTd := tN_eq pTd.1
  have b_pTd := pTd.2
  refine lv_aload_n hx hb dX6_takesEnd_0 rfl (lv_at hl 0 rfl) ?_
  refine qc_Vv (C := RX6) (As := []) (rest := []) (ci := 6) (k0 := 0) ⟨hx, hb, hml, hown, hts⟩ (c_X6_blanks l dC dI q cI cZ s.heap.size w kp tx td ab be su po st nu li fi ga hh  (pTd : inB td 150) (by omega)) (cwV 0 hts gX6_takesEnd_X6_blanks rfl rfl rfl (by decide +kernel) ⟨Nat.le_of_ble_eq_true rfl, Nat.le_of_ble_eq_true rfl⟩) hK hP hD hS hA rfl rfl rfl rfl hl.1 rfl (Nat.le_of_ble_eq_true rfl) dX6_takesEnd_1 ⟨Nat.zero_le _, Nat.zero_le _⟩ (fun u_1 H locs hw_1 hP hD hS => ?_)
  obtain ⟨po_1, st_1⟩ := u_1
  have hP : va_P (dC, dI) vwCl (mW q cI cZ w kp tx td ab be su (nI po_1) (nI st_1) nu li fi ga hh) H := hP
  have hD : va_D A (mW q cI cZ w kp tx td ab be su (nI po_1) (nI st_1) nu li fi ga hh) := hD
  have a_1 := blanks_at hw_1 (by omega)
  rw [hw_1, let2_mk po_1 st_1] at hF
  refine lv_aload_n hx hb dX6_takesEnd_4 rfl (lv_at hl 0 rfl) ?_
  refine lv_dup hx hb dX6_takesEnd_5 rfl ?_
  refine va_get (D := (dC, dI)) (ci := 6) (v := .int (nI po_1)) (C := RX6) (T := TX6) (N := 14) hx hb hts hin hown hK hP 0 rfl rfl 7 (by decide) lk106 (fun _ h9 => h9) rfl dX6_takesEnd_6 ?_
  refine lv_iconst (v := nI 1) hx hb dX6_takesEnd_9 (by decide) ?_
  refine qv_iadd hx hb (po_1 + 1) dX6_takesEnd_10 (by omega) ?_
  refine va_put (D := (dC, dI)) (ci := 6) (v := .int (nI (po_1 + 1))) (ty := .int) (C := RX6) (T := TX6) (N := 14) hx hb hts hin tyX6 tyX6_ok nmX6 hown hK hP hD hS 0 rfl rfl 7 (by decide) lk106 (fun _ h9 => h9) rfl (by decide +kernel) rfl rfl (Nat.le_of_ble_eq_true rfl) dX6_takesEnd_11 (fun H locs hP hD hS => ?_)
  have hP : va_P (dC, dI) vwCl (mW q cI cZ w kp tx td ab be su (nI (po_1 + 1)) (nI st_1) nu li fi ga hh) H := hP
  have hD : va_D A (mW q cI cZ w kp tx td ab be su (nI (po_1 + 1)) (nI st_1) nu li fi ga hh) := hD
  refine lv_aload_n hx hb dX6_takesEnd_14 rfl (lv_at hl 0 rfl) ?_
  refine lv_aload_n hx hb dX6_takesEnd_15 rfl (lv_at hl 0 rfl) ?_
  refine va_get (D := (dC, dI)) (ci := 6) (v := .int (nI st_1)) (C := RX6) (T := TX6) (N := 14) hx hb hts hin hown hK hP 0 rfl rfl 8 (by decide) lk112 (fun _ h9 => h9) rfl dX6_takesEnd_16 ?_
  refine qc_Vi (C := RX6) (As := [.int (nI st_1)]) (rest := []) (ci := 6) (k0 := 0) ⟨hx, hb, hml, hown, hts⟩ (c_X6_byteAt l dC dI q cI cZ H.size w kp tx td ab be su (nI (po_1 + 1)) (nI st_1) nu li fi ga hh st_1 (pTd : inB td 150) (by omega)) (cwV 1 hts gX6_takesEnd_X6_byteAt rfl rfl rfl (by decide +kernel) ⟨Nat.le_of_ble_eq_true rfl, Nat.le_of_ble_eq_true rfl⟩) hK hP hD hS hA rfl rfl rfl rfl hl.1 rfl (Nat.le_of_ble_eq_true rfl) dX6_takesEnd_19 ⟨Nat.zero_le _, Nat.zero_le _⟩ (fun r_19 u_19 H locs hw_19 hP hD hS => ?_)
  rw [hw_19, let1_mk r_19] at hF
  refine lv_bipush (v := nI 59) hx hb dX6_takesEnd_22 (by decide) ?_
  refine lv_icmp_ne (tgt := 31) hx hb dX6_takesEnd_24 (by decide) (fun c_24 => ?_) (fun c_24 => ?_)
  · rw [if_neg c_24] at hF
    refine lv_iconst (v := nI 0) hx hb dX6_takesEnd_31 (by decide) ?_
    have hP9 : va_P (dC, dI) vwCl (mW q cI cZ w kp tx td ab be su (nI (po_1 + 1)) (nI st_1) nu li fi ga hh) H := hP
    exact W.zret (v := nI 0) hx hb hr (by rfl) (fun t ht hW => ⟨⟨_, ((po_1 + 1, st_1)), rfl, ⟨false, hO.symm.trans hF, rfl⟩, by rw [ht]; exact hP9, va_K.moved hW.alike hK, hD⟩, hS.F ht⟩) hS.2.2 dX6_takesEnd_32
  · rw [if_pos c_24] at hF
    refine lv_iconst (v := nI 1) hx hb dX6_takesEnd_27 (by decide) ?_
    refine lv_goto (tgt := 32) hx hb dX6_takesEnd_28 (by decide) ?_
    have hP9 : va_P (dC, dI) vwCl (mW q cI cZ w kp tx td ab be su (nI (po_1 + 1)) (nI st_1) nu li fi ga hh) H := hP
    exact W.zret (v := nI 1) hx hb hr (by rfl) (fun t ht hW => ⟨⟨_, ((po_1 + 1, st_1)), rfl, ⟨true, hO.symm.trans hF, rfl⟩, by rw [ht]; exact hP9, va_K.moved hW.alike hK, hD⟩, hS.F ht⟩) hS.2.2 dX6_takesEnd_32
theorem takesEnd_at {tx : Nat → Int32} {td : Int32} {po po' st' : Nat} {z : Bool} (e : F_X6_takesEnd tx td po = (z, po', st')) (h : po ≤ tN td) : po < po' ∧ (z = true → po' ≤ tN td) := by
  unfold F_X6_takesEnd at e
  cases hb : F_X6_blanks tx td po with
  | mk p1 s1 =>
  rw [hb] at e
  simp only [let1, let2] at e
  obtain ⟨h1, h2, h3⟩ := blanks_at hb h
  split at e
  · next c =>
    have := byteAt_lt (tx := tx) (td := td) (k := s1) rfl (by rw [c]; decide)
    have e1 := (Prod.mk.inj (Prod.mk.inj e).2).1
    exact ⟨by omega, fun _ => by omega⟩
  · have e0 := (Prod.mk.inj e).1
    have e1 := (Prod.mk.inj (Prod.mk.inj e).2).1
    refine ⟨by omega, fun q => ?_⟩
    rw [← e0] at q
    exact absurd q (by decide)
def F_X6_readsField (w : Nat → Int32) (tx : Nat → Int32) (td : Int32) (po : Nat) : Bool × (Nat) × (Nat) × (Nat) × (Nat → Int32) := let4 (F_X6_takesNumber tx td po 0 5) (fun z_3 po_3 st_3 nu_3 => if z_3 = true then let1 (F_X6_begins w 444 (nI nu_3)) (fun w_19 => (true, po_3, st_3, nu_3, w_19)) else (false, po_3, st_3, nu_3, w))
set_option maxHeartbeats 4000000 in
set_option maxRecDepth 100000 in
theorem c_X6_readsField (l : Launch) (dC : Nat → ClassId) (dI : Nat → Nat → Nat) (q : Nat → Nat) (cI cZ : ClassId) (sz : Nat) (w : Nat → Int32) (kp : Nat → Int32) (tx : Nat → Int32) (td : Int32) (ab : Int64) (be : Int64) (su : Nat → Int32) (po : Nat) (st : Int32) (nu : Int32) (li : Nat → Int32) (fi : Nat → Int32) (ga : Nat → Int32) (hh : Int64) (pTd : inB td 150) (hp : po ≤ tN td) : Met l yX6_readsField wsX6_readsField { frames := 3, cells := 0, slots := 0, locals := 63 } (mPc (dC, dI) vwCl (mT cI cZ) (mW q cI cZ w kp tx td ab be su (nI po) st nu li fi ga hh) sz [.ref (q 0)]) (va_Qi (fun (r : Int32) (u : (Nat) × (Nat) × (Nat) × (Nat → Int32)) => ∃ z : Bool, F_X6_readsField w tx td po = (z, u) ∧ r = if z = true then 1 else 0) (mB (dC, dI) vwCl (mT cI cZ) (va_A (mW q cI cZ w kp tx td ab be su (nI po) st nu li fi ga hh) sz) (fun u => mW q cI cZ u.2.2.2 kp tx td ab be su (nI u.1) (nI u.2.1) (nI u.2.2.1) li fi ga hh)) (va_A (mW q cI cZ w kp tx td ab be su (nI po) st nu li fi ga hh) sz)) 0 0 (va_A (mW q cI cZ w kp tx td ab be su (nI po) st nu li fi ga hh) sz) := by
  refine Met.ofW (cc := cX6_readsField) (maxL := 1) (ret := (some .boolean)) (by decide) rfl ?_
  intro p e s m args below meth c s₁ B hml hv
  obtain ⟨rfl, hsz, hP, hK, hD0⟩ := hv
  have hx := B.exec
  have hb := B.bytes
  have hr := B.returns
  have hts := atoms_spec (ws := wsX6_readsField) B.pre
  have hown : s.vm.findClass RX6 = some m.cls := findClass_of_methodNamed B.named
  have hlocks := B.notSynchronized
  subst hsz
  have hD := hD0.self (sz := s.heap.size)
  generalize hAe : va_A (mW q cI cZ w kp tx td ab be su (nI po) st nu li fi ga hh) s.heap.size = A at hD ⊢
  have hA : ∀ q : Nat, s.heap.size ≤ q → A q := fun q h => by rw [← hAe]; exact Or.inr h
  have hS : va_S A s.heap s.heap [] := va_S.rf
  have hin : ∀ w ∈ wsX60, w ∈ wsX6_readsField := by decide +kernel
  have lk130 := hts (.fieldLink RX6 130 "PostRoundersModel" "number" "I") (by decide +kernel)
  have hl := lv_entry ([.ref (q 0)]) (n := 1) (Nat.le_of_ble_eq_true rfl)
  rw [lg_entry_eq]
  generalize (lg_sl ([.ref (q 0)]) ++ List.replicate (1 - (lg_sl ([.ref (q 0)])).length) Slot.unset).toArray = ls at hl ⊢
  have hl : lv_has ls 1 [(0, .ref (q 0))] := hl
  obtain ⟨OUT, hO⟩ : ∃ z, z = F_X6_readsField w tx td po := ⟨_, rfl⟩
  have hF := hO
  unfold F_X6_readsField at hF
  have e_pTd := tN_eq pTd.1
  have b_pTd := pTd.2
  refine lv_aload_n hx hb dX6_readsField_0 rfl (lv_at hl 0 rfl) ?_
  refine lv_iconst (v := nI 0) hx hb dX6_readsField_1 (by decide) ?_
  refine lv_iconst (v := nI 5) hx hb dX6_readsField_2 (by decide) ?_
  refine qc_Vi (C := RX6) (As := [.int (nI 0), .int (nI 5)]) (rest := []) (ci := 6) (k0 := 0) ⟨hx, hb, hml, hown, hts⟩ (c_X6_takesNumber l dC dI q cI cZ s.heap.size w kp tx td ab be su po st nu li fi ga hh 0 5 (pTd : inB td 150) (by omega)) (cwV 2 hts gX6_readsField_X6_takesNumber rfl rfl rfl (by decide +kernel) ⟨Nat.le_of_ble_eq_true rfl, Nat.le_of_ble_eq_true rfl⟩) hK hP hD hS hA rfl rfl rfl rfl hl.1 rfl (Nat.le_of_ble_eq_true rfl) dX6_readsField_3 ⟨Nat.zero_le _, Nat.zero_le _⟩ (fun r_3 u_3 H locs hw_3 hP hD hS => ?_)
  obtain ⟨po_3, st_3, nu_3⟩ := u_3
  have hP : va_P (dC, dI) vwCl (mW q cI cZ w kp tx td ab be su (nI po_3) (nI st_3) (nI nu_3) li fi ga hh) H := hP
  have hD : va_D A (mW q cI cZ w kp tx td ab be su (nI po_3) (nI st_3) (nI nu_3) li fi ga hh) := hD
  obtain ⟨z_3, hw_3, rfl⟩ := hw_3
  have a_3 := takesNumber_at hw_3 (by omega)
  rw [hw_3, let4_mk z_3 po_3 st_3 nu_3] at hF
  refine qv_zif_ne (tgt := 11) hx hb dX6_readsField_6 (by decide) (fun c_6 => ?_) (fun c_6 => ?_)
  · rw [if_pos c_6] at hF
    refine lv_aload_n hx hb dX6_readsField_11 rfl (lv_at hl 0 rfl) ?_
    refine lv_sipush (v := nI 444) hx hb dX6_readsField_12 (by decide) ?_
    refine lv_aload_n hx hb dX6_readsField_15 rfl (lv_at hl 0 rfl) ?_
    refine va_get (D := (dC, dI)) (ci := 6) (v := .int (nI nu_3)) (C := RX6) (T := TX6) (N := 14) hx hb hts hin hown hK hP 0 rfl rfl 9 (by decide) lk130 (fun _ h9 => h9) rfl dX6_readsField_16 ?_
    refine qc_Vv (C := RX6) (As := [.int (nI 444), .int (nI nu_3)]) (rest := []) (ci := 6) (k0 := 0) ⟨hx, hb, hml, hown, hts⟩ (c_X6_begins l dC dI q cI cZ H.size w kp tx td ab be su (nI po_3) (nI st_3) (nI nu_3) li fi ga hh 444 (nI nu_3) (by omega)) (cwV 2 hts gX6_readsField_X6_begins rfl rfl rfl (by decide +kernel) ⟨Nat.le_of_ble_eq_true rfl, Nat.le_of_ble_eq_true rfl⟩) hK hP hD hS hA rfl rfl rfl rfl hl.1 rfl (Nat.le_of_ble_eq_true rfl) dX6_readsField_19 ⟨Nat.zero_le _, Nat.zero_le _⟩ (fun u_19 H locs hw_19 hP hD hS => ?_)
    obtain ⟨w_19, rfl⟩ : ∃ z, z = u_19 := ⟨_, rfl⟩
    have hP : va_P (dC, dI) vwCl (mW q cI cZ w_19 kp tx td ab be su (nI po_3) (nI st_3) (nI nu_3) li fi ga hh) H := hP
    have hD : va_D A (mW q cI cZ w_19 kp tx td ab be su (nI po_3) (nI st_3) (nI nu_3) li fi ga hh) := hD
    rw [hw_19, let1_mk w_19] at hF
    refine lv_iconst (v := nI 1) hx hb dX6_readsField_22 (by decide) ?_
    have hP9 : va_P (dC, dI) vwCl (mW q cI cZ w_19 kp tx td ab be su (nI po_3) (nI st_3) (nI nu_3) li fi ga hh) H := hP
    exact W.zret (v := nI 1) hx hb hr (by rfl) (fun t ht hW => ⟨⟨_, ((po_3, st_3, nu_3, w_19)), rfl, ⟨true, hO.symm.trans hF, rfl⟩, by rw [ht]; exact hP9, va_K.moved hW.alike hK, hD⟩, hS.F ht⟩) hS.2.2 dX6_readsField_23
  · rw [if_neg c_6] at hF
    refine lv_iconst (v := nI 0) hx hb dX6_readsField_9 (by decide) ?_
    have hP9 : va_P (dC, dI) vwCl (mW q cI cZ w kp tx td ab be su (nI po_3) (nI st_3) (nI nu_3) li fi ga hh) H := hP
    exact W.zret (v := nI 0) hx hb hr (by rfl) (fun t ht hW => ⟨⟨_, ((po_3, st_3, nu_3, w)), rfl, ⟨false, hO.symm.trans hF, rfl⟩, by rw [ht]; exact hP9, va_K.moved hW.alike hK, hD⟩, hS.F ht⟩) hS.2.2 dX6_readsField_10
def F_X6_readsBatter (w : Nat → Int32) (tx : Nat → Int32) (td : Int32) (po : Nat) (st : Int32) (nu : Int32) : Bool × (Nat) × (Int32) × (Int32) × (Nat → Int32) := if tN (w 444) = 6 then (false, po, st, nu, w) else let4 (F_X6_takesNumber tx td po 0 5) (fun z_16 po_16 st_16 nu_16 => if z_16 = true then let4 (F_X6_takesNumber tx td po_16 1 5) (fun z_32 po_32 st_32 nu_32 => if z_32 = true then let1 (F_X6_addsBatter w 444 (nI nu_16) (nI nu_32)) (fun w_49 => (true, po_32, (nI st_32), (nI nu_32), w_49)) else (false, po_32, (nI st_32), (nI nu_32), w)) else (false, po_16, (nI st_16), (nI nu_16), w))
set_option maxHeartbeats 4000000 in
set_option maxRecDepth 100000 in
theorem c_X6_readsBatter (l : Launch) (dC : Nat → ClassId) (dI : Nat → Nat → Nat) (q : Nat → Nat) (cI cZ : ClassId) (sz : Nat) (w : Nat → Int32) (kp : Nat → Int32) (tx : Nat → Int32) (td : Int32) (ab : Int64) (be : Int64) (su : Nat → Int32) (po : Nat) (st : Int32) (nu : Int32) (li : Nat → Int32) (fi : Nat → Int32) (ga : Nat → Int32) (hh : Int64) (pTd : inB td 150) (hp : po ≤ tN td) (pB : inB (w 444) 6) : Met l yX6_readsBatter wsX6_readsBatter { frames := 3, cells := 0, slots := 0, locals := 63 } (mPc (dC, dI) vwCl (mT cI cZ) (mW q cI cZ w kp tx td ab be su (nI po) st nu li fi ga hh) sz [.ref (q 0)]) (va_Qi (fun (r : Int32) (u : (Nat) × (Int32) × (Int32) × (Nat → Int32)) => ∃ z : Bool, F_X6_readsBatter w tx td po st nu = (z, u) ∧ r = if z = true then 1 else 0) (mB (dC, dI) vwCl (mT cI cZ) (va_A (mW q cI cZ w kp tx td ab be su (nI po) st nu li fi ga hh) sz) (fun u => mW q cI cZ u.2.2.2 kp tx td ab be su (nI u.1) u.2.1 u.2.2.1 li fi ga hh)) (va_A (mW q cI cZ w kp tx td ab be su (nI po) st nu li fi ga hh) sz)) 0 0 (va_A (mW q cI cZ w kp tx td ab be su (nI po) st nu li fi ga hh) sz) := by
  refine Met.ofW (cc := cX6_readsBatter) (maxL := 2) (ret := (some .boolean)) (by decide) rfl ?_
  intro p e s m args below meth c s₁ B hml hv
  obtain ⟨rfl, hsz, hP, hK, hD0⟩ := hv
  have hx := B.exec
  have hb := B.bytes
  have hr := B.returns
  have hts := atoms_spec (ws := wsX6_readsBatter) B.pre
  have hown : s.vm.findClass RX6 = some m.cls := findClass_of_methodNamed B.named
  have hlocks := B.notSynchronized
  subst hsz
  have hD := hD0.self (sz := s.heap.size)
  generalize hAe : va_A (mW q cI cZ w kp tx td ab be su (nI po) st nu li fi ga hh) s.heap.size = A at hD ⊢
  have hA : ∀ q : Nat, s.heap.size ≤ q → A q := fun q h => by rw [← hAe]; exact Or.inr h
  have hS : va_S A s.heap s.heap [] := va_S.rf
  have hin : ∀ w ∈ wsX60, w ∈ wsX6_readsBatter := by decide +kernel
  have lk7 := hts (.fieldLink RX6 7 "PostRoundersModel" "w" "[I") (by decide +kernel)
  have lk130 := hts (.fieldLink RX6 130 "PostRoundersModel" "number" "I") (by decide +kernel)
  have hl := lv_entry ([.ref (q 0)]) (n := 2) (Nat.le_of_ble_eq_true rfl)
  rw [lg_entry_eq]
  generalize (lg_sl ([.ref (q 0)]) ++ List.replicate (2 - (lg_sl ([.ref (q 0)])).length) Slot.unset).toArray = ls at hl ⊢
  have hl : lv_has ls 2 [(0, .ref (q 0))] := hl
  obtain ⟨OUT, hO⟩ : ∃ z, z = F_X6_readsBatter w tx td po st nu := ⟨_, rfl⟩
  have hF := hO
  unfold F_X6_readsBatter at hF
  have e_pTd := tN_eq pTd.1
  have b_pTd := pTd.2
  have e_pB := tN_eq pB.1
  have b_pB := pB.2
  refine lv_aload_n hx hb dX6_readsBatter_0 rfl (lv_at hl 0 rfl) ?_
  refine va_get (D := (dC, dI)) (ci := 6) (v := .ref (q 1)) (C := RX6) (T := TX6) (N := 14) hx hb hts hin hown hK hP 0 rfl rfl 0 (by decide) lk7 (fun _ h9 => h9) rfl dX6_readsBatter_1 ?_
  refine lv_sipush (v := nI 444) hx hb dX6_readsBatter_4 (by decide) ?_
  refine qv_ald (v := w 444) hx hb hK hP 1 0 rfl rfl (by omega) (by decide) (rfl) dX6_readsBatter_7 ?_
  refine qv_top (e_pB) ?_
  refine lv_bipush (v := nI 6) hx hb dX6_readsBatter_8 (by decide) ?_
  refine qv_icmp_eq (tgt := 22) hx hb dX6_readsBatter_10 (by decide) (by omega) (by omega) (fun c_10 => ?_) (fun c_10 => ?_)
  · rw [if_pos c_10] at hF
    refine lv_iconst (v := nI 0) hx hb dX6_readsBatter_22 (by decide) ?_
    have hP9 : va_P (dC, dI) vwCl (mW q cI cZ w kp tx td ab be su (nI po) st nu li fi ga hh) s.heap := hP
    exact W.zret (v := nI 0) hx hb hr (by rfl) (fun t ht hW => ⟨⟨_, ((po, st, nu, w)), rfl, ⟨false, hO.symm.trans hF, rfl⟩, by rw [ht]; exact hP9, va_K.moved hW.alike hK, hD⟩, hS.F ht⟩) hS.2.2 dX6_readsBatter_23
  · rw [if_neg c_10] at hF
    refine lv_aload_n hx hb dX6_readsBatter_13 rfl (lv_at hl 0 rfl) ?_
    refine lv_iconst (v := nI 0) hx hb dX6_readsBatter_14 (by decide) ?_
    refine lv_iconst (v := nI 5) hx hb dX6_readsBatter_15 (by decide) ?_
    refine qc_Vi (C := RX6) (As := [.int (nI 0), .int (nI 5)]) (rest := []) (ci := 6) (k0 := 0) ⟨hx, hb, hml, hown, hts⟩ (c_X6_takesNumber l dC dI q cI cZ s.heap.size w kp tx td ab be su po st nu li fi ga hh 0 5 (pTd : inB td 150) (by omega)) (cwV 2 hts gX6_readsBatter_X6_takesNumber rfl rfl rfl (by decide +kernel) ⟨Nat.le_of_ble_eq_true rfl, Nat.le_of_ble_eq_true rfl⟩) hK hP hD hS hA rfl rfl rfl rfl hl.1 rfl (Nat.le_of_ble_eq_true rfl) dX6_readsBatter_16 ⟨Nat.zero_le _, Nat.zero_le _⟩ (fun r_16 u_16 H locs hw_16 hP hD hS => ?_)
    obtain ⟨po_16, st_16, nu_16⟩ := u_16
    have hP : va_P (dC, dI) vwCl (mW q cI cZ w kp tx td ab be su (nI po_16) (nI st_16) (nI nu_16) li fi ga hh) H := hP
    have hD : va_D A (mW q cI cZ w kp tx td ab be su (nI po_16) (nI st_16) (nI nu_16) li fi ga hh) := hD
    obtain ⟨z_16, hw_16, rfl⟩ := hw_16
    have a_16 := takesNumber_at hw_16 (by omega)
    rw [hw_16, let4_mk z_16 po_16 st_16 nu_16] at hF
    refine qv_zif_ne (tgt := 24) hx hb dX6_readsBatter_19 (by decide) (fun c_19 => ?_) (fun c_19 => ?_)
    · rw [if_pos c_19] at hF
      refine lv_aload_n hx hb dX6_readsBatter_24 rfl (lv_at hl 0 rfl) ?_
      refine va_get (D := (dC, dI)) (ci := 6) (v := .int (nI nu_16)) (C := RX6) (T := TX6) (N := 14) hx hb hts hin hown hK hP 0 rfl rfl 9 (by decide) lk130 (fun _ h9 => h9) rfl dX6_readsBatter_25 ?_
      refine lv_istore_n (lv' := [(1, .int (nI nu_16)), (0, .ref (q 0))]) hx hb dX6_readsBatter_28 rfl hl (by decide) rfl (fun ls hl => ?_)
      refine lv_aload_n hx hb dX6_readsBatter_29 rfl (lv_at hl 1 rfl) ?_
      refine lv_iconst (v := nI 1) hx hb dX6_readsBatter_30 (by decide) ?_
      refine lv_iconst (v := nI 5) hx hb dX6_readsBatter_31 (by decide) ?_
      refine qc_Vi (C := RX6) (As := [.int (nI 1), .int (nI 5)]) (rest := []) (ci := 6) (k0 := 0) ⟨hx, hb, hml, hown, hts⟩ (c_X6_takesNumber l dC dI q cI cZ H.size w kp tx td ab be su po_16 (nI st_16) (nI nu_16) li fi ga hh 1 5 (pTd : inB td 150) (by omega)) (cwV 2 hts gX6_readsBatter_X6_takesNumber rfl rfl rfl (by decide +kernel) ⟨Nat.le_of_ble_eq_true rfl, Nat.le_of_ble_eq_true rfl⟩) hK hP hD hS hA rfl rfl rfl rfl hl.1 rfl (Nat.le_of_ble_eq_true rfl) dX6_readsBatter_32 ⟨Nat.zero_le _, Nat.zero_le _⟩ (fun r_32 u_32 H locs hw_32 hP hD hS => ?_)
      obtain ⟨po_32, st_32, nu_32⟩ := u_32
      have hP : va_P (dC, dI) vwCl (mW q cI cZ w kp tx td ab be su (nI po_32) (nI st_32) (nI nu_32) li fi ga hh) H := hP
      have hD : va_D A (mW q cI cZ w kp tx td ab be su (nI po_32) (nI st_32) (nI nu_32) li fi ga hh) := hD
      obtain ⟨z_32, hw_32, rfl⟩ := hw_32
      have a_32 := takesNumber_at hw_32 (by omega)
      rw [hw_32, let4_mk z_32 po_32 st_32 nu_32] at hF
      refine qv_zif_ne (tgt := 40) hx hb dX6_readsBatter_35 (by decide) (fun c_35 => ?_) (fun c_35 => ?_)
      · rw [if_pos c_35] at hF
        refine lv_aload_n hx hb dX6_readsBatter_40 rfl (lv_at hl 1 rfl) ?_
        refine lv_sipush (v := nI 444) hx hb dX6_readsBatter_41 (by decide) ?_
        refine lv_iload_n hx hb dX6_readsBatter_44 rfl (lv_at hl 0 rfl) ?_
        refine lv_aload_n hx hb dX6_readsBatter_45 rfl (lv_at hl 1 rfl) ?_
        refine va_get (D := (dC, dI)) (ci := 6) (v := .int (nI nu_32)) (C := RX6) (T := TX6) (N := 14) hx hb hts hin hown hK hP 0 rfl rfl 9 (by decide) lk130 (fun _ h9 => h9) rfl dX6_readsBatter_46 ?_
        refine qc_Vv (C := RX6) (As := [.int (nI 444), .int (nI nu_16), .int (nI nu_32)]) (rest := []) (ci := 6) (k0 := 0) ⟨hx, hb, hml, hown, hts⟩ (c_X6_addsBatter l dC dI q cI cZ H.size w kp tx td ab be su (nI po_32) (nI st_32) (nI nu_32) li fi ga hh 444 (nI nu_16) (nI nu_32) (by omega) (by rw [show w 444 = nI (tN (w 444)) from e_pB]; exact (inB_nI (by omega) (by decide) : inB (nI (tN (w 444))) 5))) (cwV 3 hts gX6_readsBatter_X6_addsBatter rfl rfl rfl (by decide +kernel) ⟨Nat.le_of_ble_eq_true rfl, Nat.le_of_ble_eq_true rfl⟩) hK hP hD hS hA rfl rfl rfl rfl hl.1 rfl (Nat.le_of_ble_eq_true rfl) dX6_readsBatter_49 ⟨Nat.zero_le _, Nat.zero_le _⟩ (fun u_49 H locs hw_49 hP hD hS => ?_)
        obtain ⟨w_49, rfl⟩ : ∃ z, z = u_49 := ⟨_, rfl⟩
        have hP : va_P (dC, dI) vwCl (mW q cI cZ w_49 kp tx td ab be su (nI po_32) (nI st_32) (nI nu_32) li fi ga hh) H := hP
        have hD : va_D A (mW q cI cZ w_49 kp tx td ab be su (nI po_32) (nI st_32) (nI nu_32) li fi ga hh) := hD
        rw [hw_49, let1_mk w_49] at hF
        refine lv_iconst (v := nI 1) hx hb dX6_readsBatter_52 (by decide) ?_
        have hP9 : va_P (dC, dI) vwCl (mW q cI cZ w_49 kp tx td ab be su (nI po_32) (nI st_32) (nI nu_32) li fi ga hh) H := hP
        exact W.zret (v := nI 1) hx hb hr (by rfl) (fun t ht hW => ⟨⟨_, ((po_32, nI st_32, nI nu_32, w_49)), rfl, ⟨true, hO.symm.trans hF, rfl⟩, by rw [ht]; exact hP9, va_K.moved hW.alike hK, hD⟩, hS.F ht⟩) hS.2.2 dX6_readsBatter_53
      · rw [if_neg c_35] at hF
        refine lv_iconst (v := nI 0) hx hb dX6_readsBatter_38 (by decide) ?_
        have hP9 : va_P (dC, dI) vwCl (mW q cI cZ w kp tx td ab be su (nI po_32) (nI st_32) (nI nu_32) li fi ga hh) H := hP
        exact W.zret (v := nI 0) hx hb hr (by rfl) (fun t ht hW => ⟨⟨_, ((po_32, nI st_32, nI nu_32, w)), rfl, ⟨false, hO.symm.trans hF, rfl⟩, by rw [ht]; exact hP9, va_K.moved hW.alike hK, hD⟩, hS.F ht⟩) hS.2.2 dX6_readsBatter_39
    · rw [if_neg c_19] at hF
      refine lv_iconst (v := nI 0) hx hb dX6_readsBatter_22 (by decide) ?_
      have hP9 : va_P (dC, dI) vwCl (mW q cI cZ w kp tx td ab be su (nI po_16) (nI st_16) (nI nu_16) li fi ga hh) H := hP
      exact W.zret (v := nI 0) hx hb hr (by rfl) (fun t ht hW => ⟨⟨_, ((po_16, nI st_16, nI nu_16, w)), rfl, ⟨false, hO.symm.trans hF, rfl⟩, by rw [ht]; exact hP9, va_K.moved hW.alike hK, hD⟩, hS.F ht⟩) hS.2.2 dX6_readsBatter_23
theorem scores_keep {w w' : Nat → Int32} {R : Nat} {mo r : Int32} (e : F_X6_scores w R mo = (r, w')) (j : Nat) (h : j ≠ R + 3) : w' j = w j := by
  unfold F_X6_scores at e
  split at e
  · rw [← (Prod.mk.inj e).2]; exact pk_un h
  · rw [← (Prod.mk.inj e).2]; exact pk_un h
def F_X6_readsBall_L4 : Nat → (Nat → Int32) → (Int32) → (Nat) → (Bool) → (Nat) → (Int32) → (Int32) → (Nat → Int32) → ((Nat) × (Bool) × (Nat) × (Int32) × (Int32) × (Nat → Int32)) ⊕ (Bool × (Nat) × (Int32) × (Int32) × (Nat → Int32))
  | 0, _, _, n1, mz, pp, s1, m1, w1 => .inl (n1, mz, pp, s1, m1, w1)
  | n_4 + 1, tx, td, n1, mz, pp, s1, m1, w1 => if mz = true then (if n1 = 9 then .inr ((false, pp, s1, m1, w1)) else let4 (F_X6_takesNumber tx td pp 0 9) (fun z_18 po_18 st_18 nu_18 => if z_18 = true then let1 (F_X6_isDone w1 444) (fun z_28 => if z_28 = true then .inr ((false, po_18, (nI st_18), (nI nu_18), w1)) else let2 (F_X6_bats w1 444 (nI nu_18)) (fun r_48 w_48 => let2 (F_X6_scores w_48 444 r_48) (fun r_51 w_51 => if r_51 < 0 then let2 (F_X6_blanks tx td po_18) (fun po_68 st_68 => let1 (F_X6_byteAt tx td po_68) (fun r_76 => if r_76 = (nI 59) then F_X6_readsBall_L4 n_4 tx td n1 false po_68 (nI st_68) (nI nu_18) w_51 else F_X6_readsBall_L4 n_4 tx td n1 true po_68 (nI st_68) (nI nu_18) w_51)) else let2 (F_X6_blanks tx td po_18) (fun po_68 st_68 => let1 (F_X6_byteAt tx td po_68) (fun r_76 => if r_76 = (nI 59) then F_X6_readsBall_L4 n_4 tx td (n1 + 1) false po_68 (nI st_68) (nI nu_18) w_51 else F_X6_readsBall_L4 n_4 tx td (n1 + 1) true po_68 (nI st_68) (nI nu_18) w_51))))) else .inr ((false, po_18, (nI st_18), (nI nu_18), w1)))) else .inl (n1, mz, pp, s1, m1, w1)
def F_X6_readsBall (w : Nat → Int32) (tx : Nat → Int32) (td : Int32) (po : Nat) (st : Int32) (nu : Int32) : Bool × (Nat) × (Int32) × (Int32) × (Nat → Int32) := sel6 (F_X6_readsBall_L4 151 tx td 0 true po st nu w) (fun n1 mz pp s1 m1 w1 => (true, pp, s1, m1, w1)) (fun r => r)
set_option maxHeartbeats 4000000 in
set_option maxRecDepth 100000 in
theorem c_X6_readsBall (l : Launch) (dC : Nat → ClassId) (dI : Nat → Nat → Nat) (q : Nat → Nat) (cI cZ : ClassId) (sz : Nat) (w : Nat → Int32) (kp : Nat → Int32) (tx : Nat → Int32) (td : Int32) (ab : Int64) (be : Int64) (su : Nat → Int32) (po : Nat) (st : Int32) (nu : Int32) (li : Nat → Int32) (fi : Nat → Int32) (ga : Nat → Int32) (hh : Int64) (pTd : inB td 150) (hp : po ≤ tN td) (pB : inB (w 444) 6) (pN : okN (w 446)) : Met l yX6_readsBall wsX6_readsBall { frames := 5, cells := 0, slots := 0, locals := 116 } (mPc (dC, dI) vwCl (mT cI cZ) (mW q cI cZ w kp tx td ab be su (nI po) st nu li fi ga hh) sz [.ref (q 0)]) (va_Qi (fun (r : Int32) (u : (Nat) × (Int32) × (Int32) × (Nat → Int32)) => ∃ z : Bool, F_X6_readsBall w tx td po st nu = (z, u) ∧ r = if z = true then 1 else 0) (mB (dC, dI) vwCl (mT cI cZ) (va_A (mW q cI cZ w kp tx td ab be su (nI po) st nu li fi ga hh) sz) (fun u => mW q cI cZ u.2.2.2 kp tx td ab be su (nI u.1) u.2.1 u.2.2.1 li fi ga hh)) (va_A (mW q cI cZ w kp tx td ab be su (nI po) st nu li fi ga hh) sz)) 0 0 (va_A (mW q cI cZ w kp tx td ab be su (nI po) st nu li fi ga hh) sz) := by
  refine Met.ofW (cc := cX6_readsBall) (maxL := 4) (ret := (some .boolean)) (by decide) rfl ?_
  intro p e s m args below meth c s₁ B hml hv
  obtain ⟨rfl, hsz, hP, hK, hD0⟩ := hv
  have hx := B.exec
  have hb := B.bytes
  have hr := B.returns
  have hts := atoms_spec (ws := wsX6_readsBall) B.pre
  have hown : s.vm.findClass RX6 = some m.cls := findClass_of_methodNamed B.named
  have hlocks := B.notSynchronized
  subst hsz
  have hD := hD0.self (sz := s.heap.size)
  generalize hAe : va_A (mW q cI cZ w kp tx td ab be su (nI po) st nu li fi ga hh) s.heap.size = A at hD ⊢
  have hA : ∀ q : Nat, s.heap.size ≤ q → A q := fun q h => by rw [← hAe]; exact Or.inr h
  have hS : va_S A s.heap s.heap [] := va_S.rf
  have hin : ∀ w ∈ wsX60, w ∈ wsX6_readsBall := by decide +kernel
  have lk106 := hts (.fieldLink RX6 106 "PostRoundersModel" "at" "I") (by decide +kernel)
  have lk130 := hts (.fieldLink RX6 130 "PostRoundersModel" "number" "I") (by decide +kernel)
  have hl := lv_entry ([.ref (q 0)]) (n := 4) (Nat.le_of_ble_eq_true rfl)
  rw [lg_entry_eq]
  generalize (lg_sl ([.ref (q 0)]) ++ List.replicate (4 - (lg_sl ([.ref (q 0)])).length) Slot.unset).toArray = ls at hl ⊢
  have hl : lv_has ls 4 [(0, .ref (q 0))] := hl
  obtain ⟨OUT, hO⟩ : ∃ z, z = F_X6_readsBall w tx td po st nu := ⟨_, rfl⟩
  have hF := hO
  unfold F_X6_readsBall at hF
  have e_pTd := tN_eq pTd.1
  have b_pTd := pTd.2
  have e_pB := tN_eq pB.1
  have b_pB := pB.2
  refine lv_iconst (v := nI 0) hx hb dX6_readsBall_0 (by decide) ?_
  refine lv_istore_n (lv' := [(1, .int (nI 0)), (0, .ref (q 0))]) hx hb dX6_readsBall_1 rfl hl (by decide) rfl (fun ls hl => ?_)
  refine lv_iconst (v := nI 1) hx hb dX6_readsBall_2 (by decide) ?_
  refine lv_istore_n (lv' := [(2, .int (nI 1)), (1, .int (nI 0)), (0, .ref (q 0))]) hx hb dX6_readsBall_3 rfl hl (by decide) rfl (fun ls hl => ?_)
  have L_4 : ∀ (n_4 : Nat) (n1 : Nat) (mz : Bool) (pp : Nat) (s1 : Int32) (m1 : Int32) (w1 : Nat → Int32) (H : Heap) (locs : List Loc), pp ≤ tN td → n1 ≤ pp → w1 444 = w 444 → okN (w1 446) → tN td - pp < n_4 → va_P (dC, dI) vwCl (mW q cI cZ w1 kp tx td ab be su (nI pp) s1 m1 li fi ga hh) H → va_D A (mW q cI cZ w1 kp tx td ab be su (nI pp) s1 m1 li fi ga hh) → va_S A s.heap H locs → ∀ (ls : Array Slot), lv_has ls 4 [(2, .int (if mz = true then 1 else 0)), (1, .int (nI n1)), (0, .ref (q 0))] → OUT = sel6 (F_X6_readsBall_L4 n_4 tx td n1 mz pp s1 m1 w1) (fun n1 mz pp s1 m1 w1 => (true, pp, s1, m1, w1)) (fun r => r) → W p l e (headSpec wsX6_readsBall { frames := 5, cells := 0, slots := 0, locals := 116 }).room s m ([.ref (q 0)] : List Value).toArray below meth c H locs 0 0 (MQ below (va_Qi (fun (r : Int32) (u : (Nat) × (Int32) × (Int32) × (Nat → Int32)) => ∃ z : Bool, F_X6_readsBall w tx td po st nu = (z, u) ∧ r = if z = true then 1 else 0) (mB (dC, dI) vwCl (mT cI cZ) A (fun u => mW q cI cZ u.2.2.2 kp tx td ab be su (nI u.1) u.2.1 u.2.2.1 li fi ga hh)) A) ([.ref (q 0)] : List Value).toArray s 0 0 A) (F0 m 4 ls []) := by
    intro n_4
    induction n_4 with
    | zero => intro n1 mz pp s1 m1 w1 H locs i0 i3 i1 i2 hmu; exact absurd hmu (Nat.not_lt_zero _)
    | succ n_4 ih_4 =>
      intro n1 mz pp s1 m1 w1 H locs i0 i3 i1 i2 hmu_4 hP hD hS ls hl hF
      rw [F_X6_readsBall_L4] at hF
      refine lv_iload_n hx hb dX6_readsBall_4 rfl (lv_at hl 0 rfl) ?_
      refine qv_zif_eq (tgt := 93) hx hb dX6_readsBall_5 (by decide) (fun c_5 => ?_) (fun c_5 => ?_)
      · rw [if_neg c_5] at hF
        rw [sel6_inl (n1 : Nat) (mz : Bool) (pp : Nat) (s1 : Int32) (m1 : Int32) (w1 : Nat → Int32)] at hF
        refine lv_iconst (v := nI 1) hx hb dX6_readsBall_93 (by decide) ?_
        have hP9 : va_P (dC, dI) vwCl (mW q cI cZ w1 kp tx td ab be su (nI pp) s1 m1 li fi ga hh) H := hP
        exact W.zret (v := nI 1) hx hb hr (by rfl) (fun t ht hW => ⟨⟨_, ((pp, s1, m1, w1)), rfl, ⟨true, hO.symm.trans hF, rfl⟩, by rw [ht]; exact hP9, va_K.moved hW.alike hK, hD⟩, hS.F ht⟩) hS.2.2 dX6_readsBall_94
      · rw [if_pos c_5] at hF
        refine lv_iload_n hx hb dX6_readsBall_8 rfl (lv_at hl 1 rfl) ?_
        refine lv_bipush (v := nI 9) hx hb dX6_readsBall_9 (by decide) ?_
        refine qv_icmp_eq (tgt := 34) hx hb dX6_readsBall_11 (by decide) (by omega) (by omega) (fun c_11 => ?_) (fun c_11 => ?_)
        · rw [if_pos c_11] at hF
          refine lv_iconst (v := nI 0) hx hb dX6_readsBall_34 (by decide) ?_
          rw [sel6_inr] at hF
          have hP9 : va_P (dC, dI) vwCl (mW q cI cZ w1 kp tx td ab be su (nI pp) s1 m1 li fi ga hh) H := hP
          exact W.zret (v := nI 0) hx hb hr (by rfl) (fun t ht hW => ⟨⟨_, ((pp, s1, m1, w1)), rfl, ⟨false, hO.symm.trans hF, rfl⟩, by rw [ht]; exact hP9, va_K.moved hW.alike hK, hD⟩, hS.F ht⟩) hS.2.2 dX6_readsBall_35
        · rw [if_neg c_11] at hF
          refine lv_aload_n hx hb dX6_readsBall_14 rfl (lv_at hl 2 rfl) ?_
          refine lv_iconst (v := nI 0) hx hb dX6_readsBall_15 (by decide) ?_
          refine lv_bipush (v := nI 9) hx hb dX6_readsBall_16 (by decide) ?_
          refine qc_Vi (C := RX6) (As := [.int (nI 0), .int (nI 9)]) (rest := []) (ci := 6) (k0 := 0) ⟨hx, hb, hml, hown, hts⟩ (c_X6_takesNumber l dC dI q cI cZ H.size w1 kp tx td ab be su pp s1 m1 li fi ga hh 0 9 (pTd : inB td 150) (by omega)) (cwV 2 hts gX6_readsBall_X6_takesNumber rfl rfl rfl (by decide +kernel) ⟨Nat.le_of_ble_eq_true rfl, Nat.le_of_ble_eq_true rfl⟩) hK hP hD hS hA rfl rfl rfl rfl hl.1 rfl (Nat.le_of_ble_eq_true rfl) dX6_readsBall_18 ⟨Nat.zero_le _, Nat.zero_le _⟩ (fun r_18 u_18 H locs hw_18 hP hD hS => ?_)
          obtain ⟨po_18, st_18, nu_18⟩ := u_18
          have hP : va_P (dC, dI) vwCl (mW q cI cZ w1 kp tx td ab be su (nI po_18) (nI st_18) (nI nu_18) li fi ga hh) H := hP
          have hD : va_D A (mW q cI cZ w1 kp tx td ab be su (nI po_18) (nI st_18) (nI nu_18) li fi ga hh) := hD
          obtain ⟨z_18, hw_18, rfl⟩ := hw_18
          have a_18 := takesNumber_at hw_18 (by omega)
          rw [hw_18, let4_mk z_18 po_18 st_18 nu_18] at hF
          refine qv_zif_eq (tgt := 34) hx hb dX6_readsBall_21 (by decide) (fun c_21 => ?_) (fun c_21 => ?_)
          · rw [if_neg c_21] at hF
            refine lv_iconst (v := nI 0) hx hb dX6_readsBall_34 (by decide) ?_
            rw [sel6_inr] at hF
            have hP9 : va_P (dC, dI) vwCl (mW q cI cZ w1 kp tx td ab be su (nI po_18) (nI st_18) (nI nu_18) li fi ga hh) H := hP
            exact W.zret (v := nI 0) hx hb hr (by rfl) (fun t ht hW => ⟨⟨_, ((po_18, nI st_18, nI nu_18, w1)), rfl, ⟨false, hO.symm.trans hF, rfl⟩, by rw [ht]; exact hP9, va_K.moved hW.alike hK, hD⟩, hS.F ht⟩) hS.2.2 dX6_readsBall_35
          · rw [if_pos c_21] at hF
            have p_24 := a_18.2.2.2 c_21
            refine lv_aload_n hx hb dX6_readsBall_24 rfl (lv_at hl 2 rfl) ?_
            refine lv_sipush (v := nI 444) hx hb dX6_readsBall_25 (by decide) ?_
            refine qc_Vi (C := RX6) (As := [.int (nI 444)]) (rest := []) (ci := 6) (k0 := 0) ⟨hx, hb, hml, hown, hts⟩ (c_X6_isDone l dC dI q cI cZ H.size w1 kp tx td ab be su (nI po_18) (nI st_18) (nI nu_18) li fi ga hh 444 (by omega)) (cwV 1 hts gX6_readsBall_X6_isDone rfl rfl rfl (by decide +kernel) ⟨Nat.le_of_ble_eq_true rfl, Nat.le_of_ble_eq_true rfl⟩) hK hP hD hS hA rfl rfl rfl rfl hl.1 rfl (Nat.le_of_ble_eq_true rfl) dX6_readsBall_28 ⟨Nat.zero_le _, Nat.zero_le _⟩ (fun r_28 u_28 H locs hw_28 hP hD hS => ?_)
            obtain ⟨z_28, hw_28, rfl⟩ := hw_28
            rw [hw_28, let1_mk z_28] at hF
            refine qv_zif_eq (tgt := 36) hx hb dX6_readsBall_31 (by decide) (fun c_31 => ?_) (fun c_31 => ?_)
            · rw [if_neg c_31] at hF
              have pI : inB (w1 446) 5 := i2.resolve_left (isDone_no hw_28 c_31)
              refine lv_aload_n hx hb dX6_readsBall_36 rfl (lv_at hl 2 rfl) ?_
              refine lv_sipush (v := nI 444) hx hb dX6_readsBall_37 (by decide) ?_
              refine lv_aload_n hx hb dX6_readsBall_40 rfl (lv_at hl 2 rfl) ?_
              refine lv_sipush (v := nI 444) hx hb dX6_readsBall_41 (by decide) ?_
              refine lv_aload_n hx hb dX6_readsBall_44 rfl (lv_at hl 2 rfl) ?_
              refine va_get (D := (dC, dI)) (ci := 6) (v := .int (nI nu_18)) (C := RX6) (T := TX6) (N := 14) hx hb hts hin hown hK hP 0 rfl rfl 9 (by decide) lk130 (fun _ h9 => h9) rfl dX6_readsBall_45 ?_
              refine qc_Vi (C := RX6) (As := [.int (nI 444), .int (nI nu_18)]) (rest := [.int (nI 444), .ref (q 0)]) (ci := 6) (k0 := 0) ⟨hx, hb, hml, hown, hts⟩ (c_X6_bats l dC dI q cI cZ H.size w1 kp tx td ab be su (nI po_18) (nI st_18) (nI nu_18) li fi ga hh 444 (nI nu_18) (by omega) (by rw [i1]; exact pB : inB (w1 444) 6) (pI : inB (w1 446) 5)) (cwV 2 hts gX6_readsBall_X6_bats rfl rfl rfl (by decide +kernel) ⟨Nat.le_of_ble_eq_true rfl, Nat.le_of_ble_eq_true rfl⟩) hK hP hD hS hA rfl rfl rfl rfl hl.1 rfl (Nat.le_of_ble_eq_true rfl) dX6_readsBall_48 ⟨Nat.zero_le _, Nat.zero_le _⟩ (fun r_48 u_48 H locs hw_48 hP hD hS => ?_)
              obtain ⟨w_48, rfl⟩ : ∃ z, z = u_48 := ⟨_, rfl⟩
              have hP : va_P (dC, dI) vwCl (mW q cI cZ w_48 kp tx td ab be su (nI po_18) (nI st_18) (nI nu_18) li fi ga hh) H := hP
              have hD : va_D A (mW q cI cZ w_48 kp tx td ab be su (nI po_18) (nI st_18) (nI nu_18) li fi ga hh) := hD
              have a_48 := bats_at hw_48 (by rw [i1]; exact pB : inB (w1 444) 6) (pI : inB (w1 446) 5)
              have v_48 : w_48 444 = w1 444 := a_48.2 444 (by decide) (by decide) (by decide)
              rw [hw_48, let2_mk r_48 w_48] at hF
              refine qc_Vi (C := RX6) (As := [.int (nI 444), .int r_48]) (rest := []) (ci := 6) (k0 := 0) ⟨hx, hb, hml, hown, hts⟩ (c_X6_scores l dC dI q cI cZ H.size w_48 kp tx td ab be su (nI po_18) (nI st_18) (nI nu_18) li fi ga hh 444 r_48 (by omega)) (cwV 2 hts gX6_readsBall_X6_scores rfl rfl rfl (by decide +kernel) ⟨Nat.le_of_ble_eq_true rfl, Nat.le_of_ble_eq_true rfl⟩) hK hP hD hS hA rfl rfl rfl rfl hl.1 rfl (Nat.le_of_ble_eq_true rfl) dX6_readsBall_51 ⟨Nat.zero_le _, Nat.zero_le _⟩ (fun r_51 u_51 H locs hw_51 hP hD hS => ?_)
              obtain ⟨w_51, rfl⟩ : ∃ z, z = u_51 := ⟨_, rfl⟩
              have hP : va_P (dC, dI) vwCl (mW q cI cZ w_51 kp tx td ab be su (nI po_18) (nI st_18) (nI nu_18) li fi ga hh) H := hP
              have hD : va_D A (mW q cI cZ w_51 kp tx td ab be su (nI po_18) (nI st_18) (nI nu_18) li fi ga hh) := hD
              have v444_51 : w_51 444 = w1 444 := (scores_keep hw_51 444 (by decide)).trans (v_48)
              have v446_51 : w_51 446 = w_48 446 := scores_keep hw_51 446 (by decide)
              rw [hw_51, let2_mk r_51 w_51] at hF
              refine lv_istore_n (lv' := [(3, .int r_51), (2, .int (if mz = true then 1 else 0)), (1, .int (nI n1)), (0, .ref (q 0))]) hx hb dX6_readsBall_54 rfl hl (by decide) rfl (fun ls hl => ?_)
              refine lv_iload_n hx hb dX6_readsBall_55 rfl (lv_at hl 2 rfl) ?_
              refine lv_iload_n hx hb dX6_readsBall_56 rfl (lv_at hl 0 rfl) ?_
              refine lv_if_lt (tgt := 64) hx hb dX6_readsBall_57 (by decide) (fun c_57 => ?_) (fun c_57 => ?_)
              · rw [if_pos c_57] at hF
                refine lv_iconst (v := nI 0) hx hb dX6_readsBall_64 (by decide) ?_
                refine qv_iadd hx hb (n1) dX6_readsBall_65 (by omega) ?_
                refine lv_istore_n (lv' := [(1, .int (nI n1)), (3, .int r_51), (2, .int (if mz = true then 1 else 0)), (0, .ref (q 0))]) hx hb dX6_readsBall_66 rfl hl (by decide) rfl (fun ls hl => ?_)
                refine lv_aload_n hx hb dX6_readsBall_67 rfl (lv_at hl 3 rfl) ?_
                refine qc_Vv (C := RX6) (As := []) (rest := []) (ci := 6) (k0 := 0) ⟨hx, hb, hml, hown, hts⟩ (c_X6_blanks l dC dI q cI cZ H.size w_51 kp tx td ab be su po_18 (nI st_18) (nI nu_18) li fi ga hh  (pTd : inB td 150) (by omega)) (cwV 0 hts gX6_readsBall_X6_blanks rfl rfl rfl (by decide +kernel) ⟨Nat.le_of_ble_eq_true rfl, Nat.le_of_ble_eq_true rfl⟩) hK hP hD hS hA rfl rfl rfl rfl hl.1 rfl (Nat.le_of_ble_eq_true rfl) dX6_readsBall_68 ⟨Nat.zero_le _, Nat.zero_le _⟩ (fun u_68 H locs hw_68 hP hD hS => ?_)
                obtain ⟨po_68, st_68⟩ := u_68
                have hP : va_P (dC, dI) vwCl (mW q cI cZ w_51 kp tx td ab be su (nI po_68) (nI st_68) (nI nu_18) li fi ga hh) H := hP
                have hD : va_D A (mW q cI cZ w_51 kp tx td ab be su (nI po_68) (nI st_68) (nI nu_18) li fi ga hh) := hD
                have a_68 := blanks_at hw_68 (by omega)
                rw [hw_68, let2_mk po_68 st_68] at hF
                refine lv_aload_n hx hb dX6_readsBall_71 rfl (lv_at hl 3 rfl) ?_
                refine lv_aload_n hx hb dX6_readsBall_72 rfl (lv_at hl 3 rfl) ?_
                refine va_get (D := (dC, dI)) (ci := 6) (v := .int (nI po_68)) (C := RX6) (T := TX6) (N := 14) hx hb hts hin hown hK hP 0 rfl rfl 7 (by decide) lk106 (fun _ h9 => h9) rfl dX6_readsBall_73 ?_
                refine qc_Vi (C := RX6) (As := [.int (nI po_68)]) (rest := []) (ci := 6) (k0 := 0) ⟨hx, hb, hml, hown, hts⟩ (c_X6_byteAt l dC dI q cI cZ H.size w_51 kp tx td ab be su (nI po_68) (nI st_68) (nI nu_18) li fi ga hh po_68 (pTd : inB td 150) (by omega)) (cwV 1 hts gX6_readsBall_X6_byteAt rfl rfl rfl (by decide +kernel) ⟨Nat.le_of_ble_eq_true rfl, Nat.le_of_ble_eq_true rfl⟩) hK hP hD hS hA rfl rfl rfl rfl hl.1 rfl (Nat.le_of_ble_eq_true rfl) dX6_readsBall_76 ⟨Nat.zero_le _, Nat.zero_le _⟩ (fun r_76 u_76 H locs hw_76 hP hD hS => ?_)
                rw [hw_76, let1_mk r_76] at hF
                refine lv_bipush (v := nI 59) hx hb dX6_readsBall_79 (by decide) ?_
                refine lv_icmp_eq (tgt := 88) hx hb dX6_readsBall_81 (by decide) (fun c_81 => ?_) (fun c_81 => ?_)
                · rw [if_pos c_81] at hF
                  refine lv_iconst (v := nI 0) hx hb dX6_readsBall_88 (by decide) ?_
                  refine lv_istore_n (lv' := [(2, .int (nI 0)), (1, .int (nI n1)), (3, .int r_51), (0, .ref (q 0))]) hx hb dX6_readsBall_89 rfl hl (by decide) rfl (fun ls hl => ?_)
                  refine lv_goto (tgt := 4) hx hb dX6_readsBall_90 (by decide) ?_
                  exact ih_4 n1 false po_68 (nI st_68) (nI nu_18) w_51 H locs (by omega) (by omega) ((v444_51).trans i1) (by rw [show w_51 446 = w_48 446 from v446_51]; exact (a_48.1 : okN (w_48 446))) (by omega) hP hD hS ls (lv_sub hl [0, 1, 3] rfl) hF
                · rw [if_neg c_81] at hF
                  refine lv_iconst (v := nI 1) hx hb dX6_readsBall_84 (by decide) ?_
                  refine lv_goto (tgt := 89) hx hb dX6_readsBall_85 (by decide) ?_
                  refine lv_istore_n (lv' := [(2, .int (nI 1)), (1, .int (nI n1)), (3, .int r_51), (0, .ref (q 0))]) hx hb dX6_readsBall_89 rfl hl (by decide) rfl (fun ls hl => ?_)
                  refine lv_goto (tgt := 4) hx hb dX6_readsBall_90 (by decide) ?_
                  exact ih_4 n1 true po_68 (nI st_68) (nI nu_18) w_51 H locs (by omega) (by omega) ((v444_51).trans i1) (by rw [show w_51 446 = w_48 446 from v446_51]; exact (a_48.1 : okN (w_48 446))) (by omega) hP hD hS ls (lv_sub hl [0, 1, 3] rfl) hF
              · rw [if_neg c_57] at hF
                refine lv_iconst (v := nI 1) hx hb dX6_readsBall_60 (by decide) ?_
                refine lv_goto (tgt := 65) hx hb dX6_readsBall_61 (by decide) ?_
                refine qv_iadd hx hb (n1 + 1) dX6_readsBall_65 (by omega) ?_
                refine lv_istore_n (lv' := [(1, .int (nI (n1 + 1))), (3, .int r_51), (2, .int (if mz = true then 1 else 0)), (0, .ref (q 0))]) hx hb dX6_readsBall_66 rfl hl (by decide) rfl (fun ls hl => ?_)
                refine lv_aload_n hx hb dX6_readsBall_67 rfl (lv_at hl 3 rfl) ?_
                refine qc_Vv (C := RX6) (As := []) (rest := []) (ci := 6) (k0 := 0) ⟨hx, hb, hml, hown, hts⟩ (c_X6_blanks l dC dI q cI cZ H.size w_51 kp tx td ab be su po_18 (nI st_18) (nI nu_18) li fi ga hh  (pTd : inB td 150) (by omega)) (cwV 0 hts gX6_readsBall_X6_blanks rfl rfl rfl (by decide +kernel) ⟨Nat.le_of_ble_eq_true rfl, Nat.le_of_ble_eq_true rfl⟩) hK hP hD hS hA rfl rfl rfl rfl hl.1 rfl (Nat.le_of_ble_eq_true rfl) dX6_readsBall_68 ⟨Nat.zero_le _, Nat.zero_le _⟩ (fun u_68 H locs hw_68 hP hD hS => ?_)
                obtain ⟨po_68, st_68⟩ := u_68
                have hP : va_P (dC, dI) vwCl (mW q cI cZ w_51 kp tx td ab be su (nI po_68) (nI st_68) (nI nu_18) li fi ga hh) H := hP
                have hD : va_D A (mW q cI cZ w_51 kp tx td ab be su (nI po_68) (nI st_68) (nI nu_18) li fi ga hh) := hD
                have a_68 := blanks_at hw_68 (by omega)
                rw [hw_68, let2_mk po_68 st_68] at hF
                refine lv_aload_n hx hb dX6_readsBall_71 rfl (lv_at hl 3 rfl) ?_
                refine lv_aload_n hx hb dX6_readsBall_72 rfl (lv_at hl 3 rfl) ?_
                refine va_get (D := (dC, dI)) (ci := 6) (v := .int (nI po_68)) (C := RX6) (T := TX6) (N := 14) hx hb hts hin hown hK hP 0 rfl rfl 7 (by decide) lk106 (fun _ h9 => h9) rfl dX6_readsBall_73 ?_
                refine qc_Vi (C := RX6) (As := [.int (nI po_68)]) (rest := []) (ci := 6) (k0 := 0) ⟨hx, hb, hml, hown, hts⟩ (c_X6_byteAt l dC dI q cI cZ H.size w_51 kp tx td ab be su (nI po_68) (nI st_68) (nI nu_18) li fi ga hh po_68 (pTd : inB td 150) (by omega)) (cwV 1 hts gX6_readsBall_X6_byteAt rfl rfl rfl (by decide +kernel) ⟨Nat.le_of_ble_eq_true rfl, Nat.le_of_ble_eq_true rfl⟩) hK hP hD hS hA rfl rfl rfl rfl hl.1 rfl (Nat.le_of_ble_eq_true rfl) dX6_readsBall_76 ⟨Nat.zero_le _, Nat.zero_le _⟩ (fun r_76 u_76 H locs hw_76 hP hD hS => ?_)
                rw [hw_76, let1_mk r_76] at hF
                refine lv_bipush (v := nI 59) hx hb dX6_readsBall_79 (by decide) ?_
                refine lv_icmp_eq (tgt := 88) hx hb dX6_readsBall_81 (by decide) (fun c_81 => ?_) (fun c_81 => ?_)
                · rw [if_pos c_81] at hF
                  refine lv_iconst (v := nI 0) hx hb dX6_readsBall_88 (by decide) ?_
                  refine lv_istore_n (lv' := [(2, .int (nI 0)), (1, .int (nI (n1 + 1))), (3, .int r_51), (0, .ref (q 0))]) hx hb dX6_readsBall_89 rfl hl (by decide) rfl (fun ls hl => ?_)
                  refine lv_goto (tgt := 4) hx hb dX6_readsBall_90 (by decide) ?_
                  exact ih_4 (n1 + 1) false po_68 (nI st_68) (nI nu_18) w_51 H locs (by omega) (by omega) ((v444_51).trans i1) (by rw [show w_51 446 = w_48 446 from v446_51]; exact (a_48.1 : okN (w_48 446))) (by omega) hP hD hS ls (lv_sub hl [0, 1, 3] rfl) hF
                · rw [if_neg c_81] at hF
                  refine lv_iconst (v := nI 1) hx hb dX6_readsBall_84 (by decide) ?_
                  refine lv_goto (tgt := 89) hx hb dX6_readsBall_85 (by decide) ?_
                  refine lv_istore_n (lv' := [(2, .int (nI 1)), (1, .int (nI (n1 + 1))), (3, .int r_51), (0, .ref (q 0))]) hx hb dX6_readsBall_89 rfl hl (by decide) rfl (fun ls hl => ?_)
                  refine lv_goto (tgt := 4) hx hb dX6_readsBall_90 (by decide) ?_
                  exact ih_4 (n1 + 1) true po_68 (nI st_68) (nI nu_18) w_51 H locs (by omega) (by omega) ((v444_51).trans i1) (by rw [show w_51 446 = w_48 446 from v446_51]; exact (a_48.1 : okN (w_48 446))) (by omega) hP hD hS ls (lv_sub hl [0, 1, 3] rfl) hF
            · rw [if_pos c_31] at hF
              refine lv_iconst (v := nI 0) hx hb dX6_readsBall_34 (by decide) ?_
              rw [sel6_inr] at hF
              have hP9 : va_P (dC, dI) vwCl (mW q cI cZ w1 kp tx td ab be su (nI po_18) (nI st_18) (nI nu_18) li fi ga hh) H := hP
              exact W.zret (v := nI 0) hx hb hr (by rfl) (fun t ht hW => ⟨⟨_, ((po_18, nI st_18, nI nu_18, w1)), rfl, ⟨false, hO.symm.trans hF, rfl⟩, by rw [ht]; exact hP9, va_K.moved hW.alike hK, hD⟩, hS.F ht⟩) hS.2.2 dX6_readsBall_35
  exact L_4 151 0 true po st nu w s.heap [] (by omega) (by omega) rfl (pN : okN (w 446)) (by omega) hP hD hS ls (lv_sub hl [0, 1, 2] rfl) hF
