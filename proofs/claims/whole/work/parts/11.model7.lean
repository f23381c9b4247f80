theorem readsItem_at {w w' tx : Nat → Int32} {td nu st' nu' : Int32} {po po' : Nat} {z fst : Bool} (e : F_X6_readsItem w tx td po nu fst = (z, po', st', nu', w')) (h : okW td po w) : (z = true → okW td po' w' ∧ po < po') ∧ ∀ j, j < 444 → w' j = w j := by
  unfold F_X6_readsItem at e
  cases hb : F_X6_takesWord tx td po with
  | mk p1 s1 =>
  rw [hb] at e
  simp only [let2, let1] at e
  obtain ⟨t1, t2, t3⟩ := takesWord_at hb h.1
  have hk : okW td p1 w := ⟨t3, h.2⟩
  have fin : ∀ {zz : Bool} {pp : Nat} {ss : Int32} {nn : Int32} {ww : Nat → Int32}, (∀ j, j < 444 → ww j = w j) → (false, pp, ss, nn, ww) = (z, po', st', nu', w') → (z = true → okW td po' w' ∧ po < po') ∧ ∀ j, j < 444 → w' j = w j := by
    intro zz pp ss nn ww hw e
    have e0 := (Prod.mk.inj e).1
    have e2 := (Prod.mk.inj (Prod.mk.inj (Prod.mk.inj (Prod.mk.inj e).2).2).2).2
    rw [← e0, ← e2]
    exact ⟨fun q => absurd q (by decide), hw⟩
  have fin2 : ∀ {p2 : Nat} {nn : Int32} {w2 : Nat → Int32}, okW td p2 w2 → po ≤ p2 → (∀ j, j < 444 → w2 j = w j) → (let3 (F_X6_takesEnd tx td p2) (fun z_72 po_72 st_72 => if z_72 = true then (true, po_72, (nI st_72), nn, w2) else (false, po_72, (nI st_72), nn, w2))) = (z, po', st', nu', w') → (z = true → okW td po' w' ∧ po < po') ∧ ∀ j, j < 444 → w' j = w j := by
    intro p2 nn w2 h2 hle hw e
    cases hb3 : F_X6_takesEnd tx td p2 with
    | mk z3 r3 =>
    obtain ⟨p3, s3⟩ := r3
    rw [hb3] at e
    simp only [let3] at e
    obtain ⟨k1, k2⟩ := takesEnd_at hb3 h2.1
    split at e
    · next c =>
      have e1 := (Prod.mk.inj (Prod.mk.inj e).2).1
      have e2 := (Prod.mk.inj (Prod.mk.inj (Prod.mk.inj (Prod.mk.inj e).2).2).2).2
      rw [← e1, ← e2]
      exact ⟨fun _ => ⟨⟨k2 c, h2.2⟩, by omega⟩, hw⟩
    · exact fin (zz := z) hw e
  split at e
  · split at e
    · cases hf : F_X6_readsField w tx td p1 with
      | mk z4 r4 =>
      obtain ⟨p4, s4, n4, w4⟩ := r4
      rw [hf] at e
      simp only [let5] at e
      obtain ⟨g1, g2, g3⟩ := readsField_at hf hk
      split at e
      · exact fin2 g1 (by omega) g3 e
      · exact fin (zz := z) g3 e
    · exact fin (zz := z) (fun _ _ => rfl) e
  · split at e
    · exact fin (zz := z) (fun _ _ => rfl) e
    · split at e
      · cases hf : F_X6_readsBatter w tx td p1 (nI s1) nu with
        | mk z4 r4 =>
        obtain ⟨p4, s4, n4, w4⟩ := r4
        rw [hf] at e
        simp only [let5] at e
        obtain ⟨g1, g2, g3⟩ := readsBatter_at hf hk
        split at e
        · exact fin2 g1 (by omega) g3 e
        · exact fin (zz := z) g3 e
      · split at e
        · cases hf : F_X6_readsBall w tx td p1 (nI s1) nu with
          | mk z4 r4 =>
          obtain ⟨p4, s4, n4, w4⟩ := r4
          rw [hf] at e
          simp only [let5] at e
          obtain ⟨g1, g3⟩ := readsBall_at hf hk
          split at e
          · next c => exact fin2 (g1 c).1 (by have := (g1 c).2; omega) g3 e
          · exact fin (zz := z) g3 e
        · exact fin (zz := z) (fun _ _ => rfl) e
def rdM (td : Int32) (gz : Bool) (pp : Nat) : Nat := if gz = true then tN td + 1 - pp else 0
def F_X6_read_L20 : Nat → (Nat → Int32) → (Int32) → (Nat) → (Bool) → (Nat) → (Int32) → (Int32) → (Nat → Int32) → (Nat) × (Bool) × (Nat) × (Int32) × (Int32) × (Nat → Int32)
  | 0, _, _, fd, gz, pp, s1, m1, w1 => (fd, gz, pp, s1, m1, w1)
  | n_20 + 1, tx, td, fd, gz, pp, s1, m1, w1 => if gz = true then (if s1 < (nI (tN td)) then (if fd = 0 then let5 (F_X6_readsItem w1 tx td pp m1 true) (fun z_49 po_49 st_49 nu_49 w_49 => if z_49 = true then let2 (F_X6_blanks tx td po_49) (fun po_61 st_61 => F_X6_read_L20 n_20 tx td (fd + 1) z_49 po_61 (nI st_61) nu_49 w_49) else F_X6_read_L20 n_20 tx td (fd + 1) z_49 po_49 st_49 nu_49 w_49) else let5 (F_X6_readsItem w1 tx td pp m1 false) (fun z_49 po_49 st_49 nu_49 w_49 => if z_49 = true then let2 (F_X6_blanks tx td po_49) (fun po_61 st_61 => F_X6_read_L20 n_20 tx td (fd + 1) z_49 po_61 (nI st_61) nu_49 w_49) else F_X6_read_L20 n_20 tx td (fd + 1) z_49 po_49 st_49 nu_49 w_49)) else (if fd = 0 then let5 (F_X6_readsItem w1 tx td pp m1 true) (fun z_49 po_49 st_49 nu_49 w_49 => if z_49 = true then let2 (F_X6_blanks tx td po_49) (fun po_61 st_61 => F_X6_read_L20 n_20 tx td (fd + 1) z_49 po_61 (nI st_61) nu_49 w_49) else F_X6_read_L20 n_20 tx td (fd + 1) z_49 po_49 st_49 nu_49 w_49) else (fd, gz, pp, s1, m1, w1))) else (fd, gz, pp, s1, m1, w1)
def F_X6_read (w : Nat → Int32) (tx : Nat → Int32) (td : Int32) (nu : Int32) : Int32 × (Nat → Int32) × (Nat) × (Int32) × (Int32) := let1 (F_X6_empties w 444) (fun w_4 => let2 (F_X6_blanks tx td 0) (fun po_15 st_15 => let6 (F_X6_read_L20 152 tx td 0 true po_15 (nI st_15) nu w_4) (fun fd gz pp s1 m1 w1 => if gz = true then let1 (F_X6_copy w1 444 0) (fun w_84 => (nI fd, w_84, pp, s1, m1)) else (((-10)) - s1, w1, pp, s1, m1))))
set_option maxHeartbeats 4000000 in
set_option maxRecDepth 100000 in
theorem c_X6_read (l : Launch) (dC : Nat → ClassId) (dI : Nat → Nat → Nat) (q : Nat → Nat) (cI cZ : ClassId) (sz : Nat) (w : Nat → Int32) (kp : Nat → Int32) (tx : Nat → Int32) (td : Int32) (ab : Int64) (be : Int64) (su : Nat → Int32) (po : Int32) (st : Int32) (nu : Int32) (li : Nat → Int32) (fi : Nat → Int32) (ga : Nat → Int32) (hh : Int64) (pTd : inB td 150) : Met l yX6_read wsX6_read { frames := 7, cells := 0, slots := 0, locals := 162 } (mPc (dC, dI) vwCl (mT cI cZ) (mW q cI cZ w kp tx td ab be su po st nu li fi ga hh) sz [.ref (q 0)]) (va_Qi (fun (r : Int32) (u : (Nat → Int32) × (Nat) × (Int32) × (Int32)) => F_X6_read w tx td nu = (r, u)) (mB (dC, dI) vwCl (mT cI cZ) (va_A (mW q cI cZ w kp tx td ab be su po st nu li fi ga hh) sz) (fun u => mW q cI cZ u.1 kp tx td ab be su (nI u.2.1) u.2.2.1 u.2.2.2 li fi ga hh)) (va_A (mW q cI cZ w kp tx td ab be su po st nu li fi ga hh) sz)) 0 0 (va_A (mW q cI cZ w kp tx td ab be su po st nu li fi ga hh) sz) := by
  refine Met.ofW (cc := cX6_read) (maxL := 3) (ret := (some .int)) (by decide) rfl ?_
  intro p e s m args below meth c s₁ B hml hv
  obtain ⟨rfl, hsz, hP, hK, hD0⟩ := hv
  have hx := B.exec
  have hb := B.bytes
  have hr := B.returns
  have hts := atoms_spec (ws := wsX6_read) B.pre
  have hown : s.vm.findClass RX6 = some m.cls := findClass_of_methodNamed B.named
  have hlocks := B.notSynchronized
  subst hsz
  have hD := hD0.self (sz := s.heap.size)
  generalize hAe : va_A (mW q cI cZ w kp tx td ab be su po st nu li fi ga hh) s.heap.size = A at hD ⊢
  have hA : ∀ q : Nat, s.heap.size ≤ q → A q := fun q h => by rw [← hAe]; exact Or.inr h
  have hS : va_S A s.heap s.heap [] := va_S.rf
  have hin : ∀ w ∈ wsX60, w ∈ wsX6_read := by decide +kernel
  have lk102 := hts (.fieldLink RX6 102 "PostRoundersModel" "texted" "I") (by decide +kernel)
  have lk106 := hts (.fieldLink RX6 106 "PostRoundersModel" "at" "I") (by decide +kernel)
  have lk112 := hts (.fieldLink RX6 112 "PostRoundersModel" "start" "I") (by decide +kernel)
  have hl := lv_entry ([.ref (q 0)]) (n := 3) (Nat.le_of_ble_eq_true rfl)
  rw [lg_entry_eq]
  generalize (lg_sl ([.ref (q 0)]) ++ List.replicate (3 - (lg_sl ([.ref (q 0)])).length) Slot.unset).toArray = ls at hl ⊢
  have hl : lv_has ls 3 [(0, .ref (q 0))] := hl
  obtain ⟨OUT, hO⟩ : ∃ z, z = F_X6_read w tx td nu := ⟨_, rfl⟩
  have hF := hO
  unfold F_X6_read at hF
  have e_pTd := tN_eq pTd.1
  have b_pTd := pTd.2
  refine lv_aload_n hx hb dX6_read_0 rfl (lv_at hl 0 rfl) ?_
  refine lv_sipush (v := nI 444) hx hb dX6_read_1 (by decide) ?_
  refine qc_Vv (C := RX6) (As := [.int (nI 444)]) (rest := []) (ci := 6) (k0 := 0) ⟨hx, hb, hml, hown, hts⟩ (c_X6_empties l dC dI q cI cZ s.heap.size w kp tx td ab be su po st nu li fi ga hh 444 (by omega)) (cwV 1 hts gX6_read_X6_empties rfl rfl rfl (by decide +kernel) ⟨Nat.le_of_ble_eq_true rfl, Nat.le_of_ble_eq_true rfl⟩) hK hP hD hS hA rfl rfl rfl rfl hl.1 rfl (Nat.le_of_ble_eq_true rfl) dX6_read_4 ⟨Nat.zero_le _, Nat.zero_le _⟩ (fun u_4 H locs hw_4 hP hD hS => ?_)
  obtain ⟨w_4, rfl⟩ : ∃ z, z = u_4 := ⟨_, rfl⟩
  have hP : va_P (dC, dI) vwCl (mW q cI cZ w_4 kp tx td ab be su po st nu li fi ga hh) H := hP
  have hD : va_D A (mW q cI cZ w_4 kp tx td ab be su po st nu li fi ga hh) := hD
  have v444_4 : w_4 444 = nI 0 := by rw [← hw_4, empties_at, if_pos (by decide)]
  have v446_4 : w_4 446 = nI 0 := by rw [← hw_4, empties_at, if_pos (by decide)]
  rw [hw_4, let1_mk w_4] at hF
  refine lv_aload_n hx hb dX6_read_7 rfl (lv_at hl 0 rfl) ?_
  refine lv_iconst (v := nI 0) hx hb dX6_read_8 (by decide) ?_
  refine va_put (D := (dC, dI)) (ci := 6) (v := .int (nI 0)) (ty := .int) (C := RX6) (T := TX6) (N := 14) hx hb hts hin tyX6 tyX6_ok nmX6 hown hK hP hD hS 0 rfl rfl 7 (by decide) lk106 (fun _ h9 => h9) rfl (by decide +kernel) rfl rfl (Nat.le_of_ble_eq_true rfl) dX6_read_9 (fun H locs hP hD hS => ?_)
  have hP : va_P (dC, dI) vwCl (mW q cI cZ w_4 kp tx td ab be su (nI 0) st nu li fi ga hh) H := hP
  have hD : va_D A (mW q cI cZ w_4 kp tx td ab be su (nI 0) st nu li fi ga hh) := hD
  refine lv_iconst (v := nI 0) hx hb dX6_read_12 (by decide) ?_
  refine lv_istore_n (lv' := [(1, .int (nI 0)), (0, .ref (q 0))]) hx hb dX6_read_13 rfl hl (by decide) rfl (fun ls hl => ?_)
  refine lv_aload_n hx hb dX6_read_14 rfl (lv_at hl 1 rfl) ?_
  refine qc_Vv (C := RX6) (As := []) (rest := []) (ci := 6) (k0 := 0) ⟨hx, hb, hml, hown, hts⟩ (c_X6_blanks l dC dI q cI cZ H.size w_4 kp tx td ab be su 0 st nu li fi ga hh  (pTd : inB td 150) (by omega)) (cwV 0 hts gX6_read_X6_blanks rfl rfl rfl (by decide +kernel) ⟨Nat.le_of_ble_eq_true rfl, Nat.le_of_ble_eq_true rfl⟩) hK hP hD hS hA rfl rfl rfl rfl hl.1 rfl (Nat.le_of_ble_eq_true rfl) dX6_read_15 ⟨Nat.zero_le _, Nat.zero_le _⟩ (fun u_15 H locs hw_15 hP hD hS => ?_)
  obtain ⟨po_15, st_15⟩ := u_15
  have hP : va_P (dC, dI) vwCl (mW q cI cZ w_4 kp tx td ab be su (nI po_15) (nI st_15) nu li fi ga hh) H := hP
  have hD : va_D A (mW q cI cZ w_4 kp tx td ab be su (nI po_15) (nI st_15) nu li fi ga hh) := hD
  have a_15 := blanks_at hw_15 (by omega)
  rw [hw_15, let2_mk po_15 st_15] at hF
  refine lv_iconst (v := nI 1) hx hb dX6_read_18 (by decide) ?_
  refine lv_istore_n (lv' := [(2, .int (nI 1)), (1, .int (nI 0)), (0, .ref (q 0))]) hx hb dX6_read_19 rfl hl (by decide) rfl (fun ls hl => ?_)
  have L_20 : ∀ (n_20 : Nat) (fd : Nat) (gz : Bool) (pp : Nat) (s1 : Int32) (m1 : Int32) (w1 : Nat → Int32) (H : Heap) (locs : List Loc), (gz = true → okW td pp w1) → fd + rdM td gz pp ≤ 152 → rdM td gz pp < n_20 → va_P (dC, dI) vwCl (mW q cI cZ w1 kp tx td ab be su (nI pp) s1 m1 li fi ga hh) H → va_D A (mW q cI cZ w1 kp tx td ab be su (nI pp) s1 m1 li fi ga hh) → va_S A s.heap H locs → ∀ (ls : Array Slot), lv_has ls 3 [(2, .int (if gz = true then 1 else 0)), (1, .int (nI fd)), (0, .ref (q 0))] → OUT = let6 (F_X6_read_L20 n_20 tx td fd gz pp s1 m1 w1) (fun fd gz pp s1 m1 w1 => if gz = true then let1 (F_X6_copy w1 444 0) (fun w_84 => (nI fd, w_84, pp, s1, m1)) else (((-10)) - s1, w1, pp, s1, m1)) → W p l e (headSpec wsX6_read { frames := 7, cells := 0, slots := 0, locals := 162 }).room s m ([.ref (q 0)] : List Value).toArray below meth c H locs 0 0 (MQ below (va_Qi (fun (r : Int32) (u : (Nat → Int32) × (Nat) × (Int32) × (Int32)) => F_X6_read w tx td nu = (r, u)) (mB (dC, dI) vwCl (mT cI cZ) A (fun u => mW q cI cZ u.1 kp tx td ab be su (nI u.2.1) u.2.2.1 u.2.2.2 li fi ga hh)) A) ([.ref (q 0)] : List Value).toArray s 0 0 A) (F0 m 20 ls []) := by
    intro n_20
    induction n_20 with
    | zero => intro fd gz pp s1 m1 w1 H locs i0 i5 hmu; exact absurd hmu (Nat.not_lt_zero _)
    | succ n_20 ih_20 =>
      intro fd gz pp s1 m1 w1 H locs i0 i5 hmu_20 hP hD hS ls hl hF
      rw [F_X6_read_L20] at hF
      refine lv_iload_n hx hb dX6_read_20 rfl (lv_at hl 0 rfl) ?_
      refine qv_zif_eq (tgt := 67) hx hb dX6_read_21 (by decide) (fun c_21 => ?_) (fun c_21 => ?_)
      · rw [if_neg c_21] at hF
        rw [let6_mk (fd : Nat) (gz : Bool) (pp : Nat) (s1 : Int32) (m1 : Int32) (w1 : Nat → Int32)] at hF
        refine lv_iload_n hx hb dX6_read_67 rfl (lv_at hl 0 rfl) ?_
        refine qv_zif_ne (tgt := 79) hx hb dX6_read_68 (by decide) (fun c_68 => ?_) (fun c_68 => ?_)
        · rw [if_pos c_68] at hF
          refine lv_aload_n hx hb dX6_read_79 rfl (lv_at hl 2 rfl) ?_
          refine lv_sipush (v := nI 444) hx hb dX6_read_80 (by decide) ?_
          refine lv_iconst (v := nI 0) hx hb dX6_read_83 (by decide) ?_
          refine qc_Vv (C := RX6) (As := [.int (nI 444), .int (nI 0)]) (rest := []) (ci := 6) (k0 := 0) ⟨hx, hb, hml, hown, hts⟩ (c_X6_copy l dC dI q cI cZ H.size w1 kp tx td ab be su (nI pp) s1 m1 li fi ga hh 444 0 (by omega) (by omega)) (cwV 2 hts gX6_read_X6_copy rfl rfl rfl (by decide +kernel) ⟨Nat.le_of_ble_eq_true rfl, Nat.le_of_ble_eq_true rfl⟩) hK hP hD hS hA rfl rfl rfl rfl hl.1 rfl (Nat.le_of_ble_eq_true rfl) dX6_read_84 ⟨Nat.zero_le _, Nat.zero_le _⟩ (fun u_84 H locs hw_84 hP hD hS => ?_)
          obtain ⟨w_84, rfl⟩ : ∃ z, z = u_84 := ⟨_, rfl⟩
          have hP : va_P (dC, dI) vwCl (mW q cI cZ w_84 kp tx td ab be su (nI pp) s1 m1 li fi ga hh) H := hP
          have hD : va_D A (mW q cI cZ w_84 kp tx td ab be su (nI pp) s1 m1 li fi ga hh) := hD
          rw [hw_84, let1_mk w_84] at hF
          refine lv_iload_n hx hb dX6_read_87 rfl (lv_at hl 1 rfl) ?_
          have hP9 : va_P (dC, dI) vwCl (mW q cI cZ w_84 kp tx td ab be su (nI pp) s1 m1 li fi ga hh) H := hP
          exact W.iret (v := nI fd) hx hb hr (fun t ht hW => ⟨⟨_, ((w_84, pp, s1, m1)), rfl, hO.symm.trans hF, by rw [ht]; exact hP9, va_K.moved hW.alike hK, hD⟩, hS.F ht⟩) hS.2.2 dX6_read_88
        · rw [if_neg c_68] at hF
          refine lv_bipush (v := (-10)) hx hb dX6_read_71 (by decide) ?_
          refine lv_aload_n hx hb dX6_read_73 rfl (lv_at hl 2 rfl) ?_
          refine va_get (D := (dC, dI)) (ci := 6) (v := .int s1) (C := RX6) (T := TX6) (N := 14) hx hb hts hin hown hK hP 0 rfl rfl 8 (by decide) lk112 (fun _ h9 => h9) rfl dX6_read_74 ?_
          refine lv_isub hx hb dX6_read_77 ?_
          have hP9 : va_P (dC, dI) vwCl (mW q cI cZ w1 kp tx td ab be su (nI pp) s1 m1 li fi ga hh) H := hP
          exact W.iret (v := ((-10)) - s1) hx hb hr (fun t ht hW => ⟨⟨_, ((w1, pp, s1, m1)), rfl, hO.symm.trans hF, by rw [ht]; exact hP9, va_K.moved hW.alike hK, hD⟩, hS.F ht⟩) hS.2.2 dX6_read_78
      · rw [if_pos c_21] at hF
        have k_24 := i0 c_21
        have k1_24 := k_24.1
        refine lv_aload_n hx hb dX6_read_24 rfl (lv_at hl 2 rfl) ?_
        refine va_get (D := (dC, dI)) (ci := 6) (v := .int s1) (C := RX6) (T := TX6) (N := 14) hx hb hts hin hown hK hP 0 rfl rfl 8 (by decide) lk112 (fun _ h9 => h9) rfl dX6_read_25 ?_
        refine lv_aload_n hx hb dX6_read_28 rfl (lv_at hl 2 rfl) ?_
        refine va_get (D := (dC, dI)) (ci := 6) (v := .int td) (C := RX6) (T := TX6) (N := 14) hx hb hts hin hown hK hP 0 rfl rfl 3 (by decide) lk102 (fun _ h9 => h9) rfl dX6_read_29 ?_
        refine qv_top (e_pTd) ?_
        refine lv_icmp_lt (tgt := 39) hx hb dX6_read_32 (by decide) (fun c_32 => ?_) (fun c_32 => ?_)
        · rw [if_pos c_32] at hF
          refine lv_aload_n hx hb dX6_read_39 rfl (lv_at hl 2 rfl) ?_
          refine lv_iload_n hx hb dX6_read_40 rfl (lv_at hl 1 rfl) ?_
          refine qv_if_ne (tgt := 48) hx hb dX6_read_41 (by decide) (by omega) (fun c_41 => ?_) (fun c_41 => ?_)
          · rw [if_neg c_41] at hF
            refine lv_iconst (v := nI 0) hx hb dX6_read_48 (by decide) ?_
            refine qc_Vi (C := RX6) (As := [.int (nI 0)]) (rest := []) (ci := 6) (k0 := 0) ⟨hx, hb, hml, hown, hts⟩ (c_X6_readsItem l dC dI q cI cZ H.size w1 kp tx td ab be su pp s1 m1 li fi ga hh false (pTd : inB td 150) (by omega) (k_24.2.1 : inB (w1 444) 6) (k_24.2.2 : okN (w1 446))) (cwV 1 hts gX6_read_X6_readsItem rfl rfl rfl (by decide +kernel) ⟨Nat.le_of_ble_eq_true rfl, Nat.le_of_ble_eq_true rfl⟩) hK hP hD hS hA rfl rfl rfl rfl hl.1 rfl (Nat.le_of_ble_eq_true rfl) dX6_read_49 ⟨Nat.zero_le _, Nat.zero_le _⟩ (fun r_49 u_49 H locs hw_49 hP hD hS => ?_)
            obtain ⟨po_49, st_49, nu_49, w_49⟩ := u_49
            have hP : va_P (dC, dI) vwCl (mW q cI cZ w_49 kp tx td ab be su (nI po_49) st_49 nu_49 li fi ga hh) H := hP
            have hD : va_D A (mW q cI cZ w_49 kp tx td ab be su (nI po_49) st_49 nu_49 li fi ga hh) := hD
            obtain ⟨z_49, hw_49, rfl⟩ := hw_49
            have a_49 := readsItem_at hw_49 ⟨by omega, k_24.2.1, k_24.2.2⟩
            rw [hw_49, let5_mk z_49 po_49 st_49 nu_49 w_49] at hF
            refine lv_istore_n (lv' := [(2, .int (if z_49 = true then 1 else 0)), (1, .int (nI fd)), (0, .ref (q 0))]) hx hb dX6_read_52 rfl hl (by decide) rfl (fun ls hl => ?_)
            refine lv_iinc (v := nI (fd + 1)) (lv' := [(1, .int (nI (fd + 1))), (2, .int (if z_49 = true then 1 else 0)), (0, .ref (q 0))]) hx hb dX6_read_53 hl (k := 1) rfl (qn_inc (c := 1) rfl (by omega)) (by decide) rfl (fun ls hl => ?_)
            refine lv_iload_n hx hb dX6_read_56 rfl (lv_at hl 1 rfl) ?_
            refine qv_zif_eq (tgt := 20) hx hb dX6_read_57 (by decide) (fun c_57 => ?_) (fun c_57 => ?_)
            · rw [if_neg c_57] at hF
              exact ih_20 (fd + 1) z_49 po_49 st_49 nu_49 w_49 H locs (fun q => absurd q c_57) (by unfold rdM at i5 ⊢; rw [if_neg c_57]; rw [if_pos c_21] at i5; omega) (by unfold rdM at hmu_20 ⊢; rw [if_neg c_57]; rw [if_pos c_21] at hmu_20; omega) hP hD hS ls (lv_sub hl [1, 0, 2] rfl) hF
            · rw [if_pos c_57] at hF
              have b_60 := a_49.1 c_57
              have b1_60 := b_60.1.1
              have b2_60 := b_60.2
              refine lv_aload_n hx hb dX6_read_60 rfl (lv_at hl 2 rfl) ?_
              refine qc_Vv (C := RX6) (As := []) (rest := []) (ci := 6) (k0 := 0) ⟨hx, hb, hml, hown, hts⟩ (c_X6_blanks l dC dI q cI cZ H.size w_49 kp tx td ab be su po_49 st_49 nu_49 li fi ga hh  (pTd : inB td 150) (by omega)) (cwV 0 hts gX6_read_X6_blanks rfl rfl rfl (by decide +kernel) ⟨Nat.le_of_ble_eq_true rfl, Nat.le_of_ble_eq_true rfl⟩) hK hP hD hS hA rfl rfl rfl rfl hl.1 rfl (Nat.le_of_ble_eq_true rfl) dX6_read_61 ⟨Nat.zero_le _, Nat.zero_le _⟩ (fun u_61 H locs hw_61 hP hD hS => ?_)
              obtain ⟨po_61, st_61⟩ := u_61
              have hP : va_P (dC, dI) vwCl (mW q cI cZ w_49 kp tx td ab be su (nI po_61) (nI st_61) nu_49 li fi ga hh) H := hP
              have hD : va_D A (mW q cI cZ w_49 kp tx td ab be su (nI po_61) (nI st_61) nu_49 li fi ga hh) := hD
              have a_61 := blanks_at hw_61 (by omega)
              rw [hw_61, let2_mk po_61 st_61] at hF
              refine lv_goto (tgt := 20) hx hb dX6_read_64 (by decide) ?_
              exact ih_20 (fd + 1) z_49 po_61 (nI st_61) nu_49 w_49 H locs (fun _ => ⟨by omega, b_60.1.2.1, b_60.1.2.2⟩) (by unfold rdM at i5 ⊢; rw [if_pos c_57]; rw [if_pos c_21] at i5; omega) (by unfold rdM at hmu_20 ⊢; rw [if_pos c_57]; rw [if_pos c_21] at hmu_20; omega) hP hD hS ls (lv_sub hl [1, 0, 2] rfl) hF
          · rw [if_pos c_41] at hF
            refine lv_iconst (v := nI 1) hx hb dX6_read_44 (by decide) ?_
            refine lv_goto (tgt := 49) hx hb dX6_read_45 (by decide) ?_
            refine qc_Vi (C := RX6) (As := [.int (nI 1)]) (rest := []) (ci := 6) (k0 := 0) ⟨hx, hb, hml, hown, hts⟩ (c_X6_readsItem l dC dI q cI cZ H.size w1 kp tx td ab be su pp s1 m1 li fi ga hh true (pTd : inB td 150) (by omega) (k_24.2.1 : inB (w1 444) 6) (k_24.2.2 : okN (w1 446))) (cwV 1 hts gX6_read_X6_readsItem rfl rfl rfl (by decide +kernel) ⟨Nat.le_of_ble_eq_true rfl, Nat.le_of_ble_eq_true rfl⟩) hK hP hD hS hA rfl rfl rfl rfl hl.1 rfl (Nat.le_of_ble_eq_true rfl) dX6_read_49 ⟨Nat.zero_le _, Nat.zero_le _⟩ (fun r_49 u_49 H locs hw_49 hP hD hS => ?_)
            obtain ⟨po_49, st_49, nu_49, w_49⟩ := u_49
            have hP : va_P (dC, dI) vwCl (mW q cI cZ w_49 kp tx td ab be su (nI po_49) st_49 nu_49 li fi ga hh) H := hP
            have hD : va_D A (mW q cI cZ w_49 kp tx td ab be su (nI po_49) st_49 nu_49 li fi ga hh) := hD
            obtain ⟨z_49, hw_49, rfl⟩ := hw_49
            have a_49 := readsItem_at hw_49 ⟨by omega, k_24.2.1, k_24.2.2⟩
            rw [hw_49, let5_mk z_49 po_49 st_49 nu_49 w_49] at hF
            refine lv_istore_n (lv' := [(2, .int (if z_49 = true then 1 else 0)), (1, .int (nI fd)), (0, .ref (q 0))]) hx hb dX6_read_52 rfl hl (by decide) rfl (fun ls hl => ?_)
            refine lv_iinc (v := nI (fd + 1)) (lv' := [(1, .int (nI (fd + 1))), (2, .int (if z_49 = true then 1 else 0)), (0, .ref (q 0))]) hx hb dX6_read_53 hl (k := 1) rfl (qn_inc (c := 1) rfl (by omega)) (by decide) rfl (fun ls hl => ?_)
            refine lv_iload_n hx hb dX6_read_56 rfl (lv_at hl 1 rfl) ?_
            refine qv_zif_eq (tgt := 20) hx hb dX6_read_57 (by decide) (fun c_57 => ?_) (fun c_57 => ?_)
            · rw [if_neg c_57] at hF
              exact ih_20 (fd + 1) z_49 po_49 st_49 nu_49 w_49 H locs (fun q => absurd q c_57) (by unfold rdM at i5 ⊢; rw [if_neg c_57]; rw [if_pos c_21] at i5; omega) (by unfold rdM at hmu_20 ⊢; rw [if_neg c_57]; rw [if_pos c_21] at hmu_20; omega) hP hD hS ls (lv_sub hl [1, 0, 2] rfl) hF
            · rw [if_pos c_57] at hF
              have b_60 := a_49.1 c_57
              have b1_60 := b_60.1.1
              have b2_60 := b_60.2
              refine lv_aload_n hx hb dX6_read_60 rfl (lv_at hl 2 rfl) ?_
              refine qc_Vv (C := RX6) (As := []) (rest := []) (ci := 6) (k0 := 0) ⟨hx, hb, hml, hown, hts⟩ (c_X6_blanks l dC dI q cI cZ H.size w_49 kp tx td ab be su po_49 st_49 nu_49 li fi ga hh  (pTd : inB td 150) (by omega)) (cwV 0 hts gX6_read_X6_blanks rfl rfl rfl (by decide +kernel) ⟨Nat.le_of_ble_eq_true rfl, Nat.le_of_ble_eq_true rfl⟩) hK hP hD hS hA rfl rfl rfl rfl hl.1 rfl (Nat.le_of_ble_eq_true rfl) dX6_read_61 ⟨Nat.zero_le _, Nat.zero_le _⟩ (fun u_61 H locs hw_61 hP hD hS => ?_)
              obtain ⟨po_61, st_61⟩ := u_61
              have hP : va_P (dC, dI) vwCl (mW q cI cZ w_49 kp tx td ab be su (nI po_61) (nI st_61) nu_49 li fi ga hh) H := hP
              have hD : va_D A (mW q cI cZ w_49 kp tx td ab be su (nI po_61) (nI st_61) nu_49 li fi ga hh) := hD
              have a_61 := blanks_at hw_61 (by omega)
              rw [hw_61, let2_mk po_61 st_61] at hF
              refine lv_goto (tgt := 20) hx hb dX6_read_64 (by decide) ?_
              exact ih_20 (fd + 1) z_49 po_61 (nI st_61) nu_49 w_49 H locs (fun _ => ⟨by omega, b_60.1.2.1, b_60.1.2.2⟩) (by unfold rdM at i5 ⊢; rw [if_pos c_57]; rw [if_pos c_21] at i5; omega) (by unfold rdM at hmu_20 ⊢; rw [if_pos c_57]; rw [if_pos c_21] at hmu_20; omega) hP hD hS ls (lv_sub hl [1, 0, 2] rfl) hF
        · rw [if_neg c_32] at hF
          refine lv_iload_n hx hb dX6_read_35 rfl (lv_at hl 1 rfl) ?_
          refine qv_if_ne (tgt := 67) hx hb dX6_read_36 (by decide) (by omega) (fun c_36 => ?_) (fun c_36 => ?_)
          · rw [if_neg c_36] at hF
            rw [let6_mk (fd : Nat) (gz : Bool) (pp : Nat) (s1 : Int32) (m1 : Int32) (w1 : Nat → Int32)] at hF
            refine lv_iload_n hx hb dX6_read_67 rfl (lv_at hl 0 rfl) ?_
            refine qv_zif_ne (tgt := 79) hx hb dX6_read_68 (by decide) (fun c_68 => ?_) (fun c_68 => ?_)
            · rw [if_pos c_68] at hF
              refine lv_aload_n hx hb dX6_read_79 rfl (lv_at hl 2 rfl) ?_
              refine lv_sipush (v := nI 444) hx hb dX6_read_80 (by decide) ?_
              refine lv_iconst (v := nI 0) hx hb dX6_read_83 (by decide) ?_
              refine qc_Vv (C := RX6) (As := [.int (nI 444), .int (nI 0)]) (rest := []) (ci := 6) (k0 := 0) ⟨hx, hb, hml, hown, hts⟩ (c_X6_copy l dC dI q cI cZ H.size w1 kp tx td ab be su (nI pp) s1 m1 li fi ga hh 444 0 (by omega) (by omega)) (cwV 2 hts gX6_read_X6_copy rfl rfl rfl (by decide +kernel) ⟨Nat.le_of_ble_eq_true rfl, Nat.le_of_ble_eq_true rfl⟩) hK hP hD hS hA rfl rfl rfl rfl hl.1 rfl (Nat.le_of_ble_eq_true rfl) dX6_read_84 ⟨Nat.zero_le _, Nat.zero_le _⟩ (fun u_84 H locs hw_84 hP hD hS => ?_)
              obtain ⟨w_84, rfl⟩ : ∃ z, z = u_84 := ⟨_, rfl⟩
              have hP : va_P (dC, dI) vwCl (mW q cI cZ w_84 kp tx td ab be su (nI pp) s1 m1 li fi ga hh) H := hP
              have hD : va_D A (mW q cI cZ w_84 kp tx td ab be su (nI pp) s1 m1 li fi ga hh) := hD
              rw [hw_84, let1_mk w_84] at hF
              refine lv_iload_n hx hb dX6_read_87 rfl (lv_at hl 1 rfl) ?_
              have hP9 : va_P (dC, dI) vwCl (mW q cI cZ w_84 kp tx td ab be su (nI pp) s1 m1 li fi ga hh) H := hP
              exact W.iret (v := nI fd) hx hb hr (fun t ht hW => ⟨⟨_, ((w_84, pp, s1, m1)), rfl, hO.symm.trans hF, by rw [ht]; exact hP9, va_K.moved hW.alike hK, hD⟩, hS.F ht⟩) hS.2.2 dX6_read_88
            · rw [if_neg c_68] at hF
              refine lv_bipush (v := (-10)) hx hb dX6_read_71 (by decide) ?_
              refine lv_aload_n hx hb dX6_read_73 rfl (lv_at hl 2 rfl) ?_
              refine va_get (D := (dC, dI)) (ci := 6) (v := .int s1) (C := RX6) (T := TX6) (N := 14) hx hb hts hin hown hK hP 0 rfl rfl 8 (by decide) lk112 (fun _ h9 => h9) rfl dX6_read_74 ?_
              refine lv_isub hx hb dX6_read_77 ?_
              have hP9 : va_P (dC, dI) vwCl (mW q cI cZ w1 kp tx td ab be su (nI pp) s1 m1 li fi ga hh) H := hP
              exact W.iret (v := ((-10)) - s1) hx hb hr (fun t ht hW => ⟨⟨_, ((w1, pp, s1, m1)), rfl, hO.symm.trans hF, by rw [ht]; exact hP9, va_K.moved hW.alike hK, hD⟩, hS.F ht⟩) hS.2.2 dX6_read_78
          · rw [if_pos c_36] at hF
            refine lv_aload_n hx hb dX6_read_39 rfl (lv_at hl 2 rfl) ?_
            refine lv_iload_n hx hb dX6_read_40 rfl (lv_at hl 1 rfl) ?_
            refine qv_if_ne (tgt := 48) hx hb dX6_read_41 (by decide) (by omega) (fun c_41 => absurd c_36 c_41) (fun _ => ?_)
            refine lv_iconst (v := nI 1) hx hb dX6_read_44 (by decide) ?_
            refine lv_goto (tgt := 49) hx hb dX6_read_45 (by decide) ?_
            refine qc_Vi (C := RX6) (As := [.int (nI 1)]) (rest := []) (ci := 6) (k0 := 0) ⟨hx, hb, hml, hown, hts⟩ (c_X6_readsItem l dC dI q cI cZ H.size w1 kp tx td ab be su pp s1 m1 li fi ga hh true (pTd : inB td 150) (by omega) (k_24.2.1 : inB (w1 444) 6) (k_24.2.2 : okN (w1 446))) (cwV 1 hts gX6_read_X6_readsItem rfl rfl rfl (by decide +kernel) ⟨Nat.le_of_ble_eq_true rfl, Nat.le_of_ble_eq_true rfl⟩) hK hP hD hS hA rfl rfl rfl rfl hl.1 rfl (Nat.le_of_ble_eq_true rfl) dX6_read_49 ⟨Nat.zero_le _, Nat.zero_le _⟩ (fun r_49 u_49 H locs hw_49 hP hD hS => ?_)
            obtain ⟨po_49, st_49, nu_49, w_49⟩ := u_49
            have hP : va_P (dC, dI) vwCl (mW q cI cZ w_49 kp tx td ab be su (nI po_49) st_49 nu_49 li fi ga hh) H := hP
            have hD : va_D A (mW q cI cZ w_49 kp tx td ab be su (nI po_49) st_49 nu_49 li fi ga hh) := hD
            obtain ⟨z_49, hw_49, rfl⟩ := hw_49
            have a_49 := readsItem_at hw_49 ⟨by omega, k_24.2.1, k_24.2.2⟩
            rw [hw_49, let5_mk z_49 po_49 st_49 nu_49 w_49] at hF
            refine lv_istore_n (lv' := [(2, .int (if z_49 = true then 1 else 0)), (1, .int (nI fd)), (0, .ref (q 0))]) hx hb dX6_read_52 rfl hl (by decide) rfl (fun ls hl => ?_)
            refine lv_iinc (v := nI (fd + 1)) (lv' := [(1, .int (nI (fd + 1))), (2, .int (if z_49 = true then 1 else 0)), (0, .ref (q 0))]) hx hb dX6_read_53 hl (k := 1) rfl (qn_inc (c := 1) rfl (by omega)) (by decide) rfl (fun ls hl => ?_)
            refine lv_iload_n hx hb dX6_read_56 rfl (lv_at hl 1 rfl) ?_
            refine qv_zif_eq (tgt := 20) hx hb dX6_read_57 (by decide) (fun c_57 => ?_) (fun c_57 => ?_)
            · rw [if_neg c_57] at hF
              exact ih_20 (fd + 1) z_49 po_49 st_49 nu_49 w_49 H locs (fun q => absurd q c_57) (by unfold rdM at i5 ⊢; rw [if_neg c_57]; rw [if_pos c_21] at i5; omega) (by unfold rdM at hmu_20 ⊢; rw [if_neg c_57]; rw [if_pos c_21] at hmu_20; omega) hP hD hS ls (lv_sub hl [1, 0, 2] rfl) hF
            · rw [if_pos c_57] at hF
              have b_60 := a_49.1 c_57
              have b1_60 := b_60.1.1
              have b2_60 := b_60.2
              refine lv_aload_n hx hb dX6_read_60 rfl (lv_at hl 2 rfl) ?_
              refine qc_Vv (C := RX6) (As := []) (rest := []) (ci := 6) (k0 := 0) ⟨hx, hb, hml, hown, hts⟩ (c_X6_blanks l dC dI q cI cZ H.size w_49 kp tx td ab be su po_49 st_49 nu_49 li fi ga hh  (pTd : inB td 150) (by omega)) (cwV 0 hts gX6_read_X6_blanks rfl rfl rfl (by decide +kernel) ⟨Nat.le_of_ble_eq_true rfl, Nat.le_of_ble_eq_true rfl⟩) hK hP hD hS hA rfl rfl rfl rfl hl.1 rfl (Nat.le_of_ble_eq_true rfl) dX6_read_61 ⟨Nat.zero_le _, Nat.zero_le _⟩ (fun u_61 H locs hw_61 hP hD hS => ?_)
              obtain ⟨po_61, st_61⟩ := u_61
              have hP : va_P (dC, dI) vwCl (mW q cI cZ w_49 kp tx td ab be su (nI po_61) (nI st_61) nu_49 li fi ga hh) H := hP
              have hD : va_D A (mW q cI cZ w_49 kp tx td ab be su (nI po_61) (nI st_61) nu_49 li fi ga hh) := hD
              have a_61 := blanks_at hw_61 (by omega)
              rw [hw_61, let2_mk po_61 st_61] at hF
              refine lv_goto (tgt := 20) hx hb dX6_read_64 (by decide) ?_
              exact ih_20 (fd + 1) z_49 po_61 (nI st_61) nu_49 w_49 H locs (fun _ => ⟨by omega, b_60.1.2.1, b_60.1.2.2⟩) (by unfold rdM at i5 ⊢; rw [if_pos c_57]; rw [if_pos c_21] at i5; omega) (by unfold rdM at hmu_20 ⊢; rw [if_pos c_57]; rw [if_pos c_21] at hmu_20; omega) hP hD hS ls (lv_sub hl [1, 0, 2] rfl) hF
  exact L_20 152 0 true po_15 (nI st_15) nu w_4 H locs (fun _ => ⟨by omega, by rw [v444_4]; exact inB_nI (by decide) (by decide), by rw [v446_4]; exact okN_nI (by decide)⟩) (by unfold rdM; rw [if_pos rfl]; omega) (by unfold rdM; rw [if_pos rfl]; omega) hP hD hS ls (lv_sub hl [0, 1, 2] rfl) hF
