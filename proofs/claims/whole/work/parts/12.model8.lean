theorem pred_two {n : Nat} (h : 1 ≤ n) : nI n - nI 2 = nI (n - 1) - nI 1 := by
  obtain ⟨m, rfl⟩ : ∃ m, n = m + 1 := ⟨n - 1, by omega⟩
  rw [show m + 1 - 1 = m by omega, ← nI_add m 1, show nI 2 = nI 1 + nI 1 from rfl]
  apply Int32.toBitVec_inj.mp
  simp only [Int32.toBitVec_sub, Int32.toBitVec_add]
  generalize (nI m).toBitVec = x
  generalize (nI 1).toBitVec = y
  apply BitVec.eq_of_toInt_eq
  simp [BitVec.toInt_sub, BitVec.toInt_add]
  congr 1
  omega
theorem pred_eq {k : Nat} (h : 1 ≤ k) : nI k - nI 1 = nI (k - 1) := pk_sub h
theorem qn_pdec {k : Nat} (h : 1 ≤ k) : nI k - nI 1 + Int32.ofInt (-1) = nI (k - 1) - nI 1 := by
  rw [pred_eq h, Int32.sub_eq_add_neg, show Int32.ofInt (-1) = -nI 1 from by decide]
theorem pred_pos {k : Nat} (h : ¬ (nI k - nI 1) < 0) : 1 ≤ k := by
  rcases Nat.eq_zero_or_pos k with q | q
  · subst q; exact absurd (by decide) h
  · exact q
theorem pred_pos2 {k : Nat} (h : 0 ≤ (nI k - nI 1)) : 1 ≤ k := by
  rcases Nat.eq_zero_or_pos k with q | q
  · subst q; exact absurd h (by decide)
  · exact q
theorem pred_no {k : Nat} (hk : k < 2 ^ 30) (h : (nI k - nI 1) < 0) : ¬ 0 ≤ (nI k - nI 1) := fun g => by
  have h1 := Int32.lt_iff_toInt_lt.mp h
  have h2 := Int32.le_iff_toInt_le.mp g
  omega
def F_X6_swaps (li : Nat → Int32) (a : Nat) (b : Nat) : (Nat → Int32) := (upd (upd li a (li b)) b (li a))
set_option maxHeartbeats 4000000 in
set_option maxRecDepth 100000 in
theorem c_X6_swaps (l : Launch) (dC : Nat → ClassId) (dI : Nat → Nat → Nat) (q : Nat → Nat) (cI cZ : ClassId) (sz : Nat) (w : Nat → Int32) (kp : Nat → Int32) (tx : Nat → Int32) (td : Int32) (ab : Int64) (be : Int64) (su : Nat → Int32) (po : Int32) (st : Int32) (nu : Int32) (li : Nat → Int32) (fi : Nat → Int32) (ga : Nat → Int32) (hh : Int64) (a : Nat) (b : Nat) (h1 : a < 6) (h2 : b < 6) : Met l yX6_swaps wsX6_swaps { frames := 0, cells := 0, slots := 0, locals := 0 } (mPc (dC, dI) vwCl (mT cI cZ) (mW q cI cZ w kp tx td ab be su po st nu li fi ga hh) sz [.ref (q 0), .int (nI a), .int (nI b)]) (va_Qv (fun (u : (Nat → Int32)) => F_X6_swaps li a b = u) (mB (dC, dI) vwCl (mT cI cZ) (va_A (mW q cI cZ w kp tx td ab be su po st nu li fi ga hh) sz) (fun u => mW q cI cZ w kp tx td ab be su po st nu u fi ga hh)) (va_A (mW q cI cZ w kp tx td ab be su po st nu li fi ga hh) sz)) 0 0 (va_A (mW q cI cZ w kp tx td ab be su po st nu li fi ga hh) sz) := by
  refine Met.ofW (cc := cX6_swaps) (maxL := 4) (ret := none) (by decide) rfl ?_
  intro p e s m args below meth c s₁ B hml hv
  obtain ⟨rfl, hsz, hP, hK, hD0⟩ := hv
  have hx := B.exec
  have hb := B.bytes
  have hr := B.returns
  have hts := atoms_spec (ws := wsX6_swaps) B.pre
  have hown : s.vm.findClass RX6 = some m.cls := findClass_of_methodNamed B.named
  have hlocks := B.notSynchronized
  subst hsz
  have hD := hD0.self (sz := s.heap.size)
  generalize hAe : va_A (mW q cI cZ w kp tx td ab be su po st nu li fi ga hh) s.heap.size = A at hD ⊢
  have hA : ∀ q : Nat, s.heap.size ≤ q → A q := fun q h => by rw [← hAe]; exact Or.inr h
  have hS : va_S A s.heap s.heap [] := va_S.rf
  have hin : ∀ w ∈ wsX60, w ∈ wsX6_swaps := by decide +kernel
  have lk30 := hts (.fieldLink RX6 30 "PostRoundersModel" "line" "[I") (by decide +kernel)
  have hl := lv_entry ([.ref (q 0), .int (nI a), .int (nI b)]) (n := 4) (Nat.le_of_ble_eq_true rfl)
  rw [lg_entry_eq]
  generalize (lg_sl ([.ref (q 0), .int (nI a), .int (nI b)]) ++ List.replicate (4 - (lg_sl ([.ref (q 0), .int (nI a), .int (nI b)])).length) Slot.unset).toArray = ls at hl ⊢
  have hl : lv_has ls 4 [(0, .ref (q 0)), (1, .int (nI a)), (2, .int (nI b))] := hl
  obtain ⟨OUT, hO⟩ : ∃ z, z = F_X6_swaps li a b := ⟨_, rfl⟩
  have hF := hO
  unfold F_X6_swaps at hF
  refine lv_aload_n hx hb dX6_swaps_0 rfl (lv_at hl 0 rfl) ?_
  refine va_get (D := (dC, dI)) (ci := 6) (v := .ref (q 5)) (C := RX6) (T := TX6) (N := 14) hx hb hts hin hown hK hP 0 rfl rfl 10 (by decide) lk30 (fun _ h9 => h9) rfl dX6_swaps_1 ?_
  refine lv_iload_n hx hb dX6_swaps_4 rfl (lv_at hl 1 rfl) ?_
  refine qv_ald (v := li a) hx hb hK hP 5 0 rfl rfl (by omega) (by decide) (rfl) dX6_swaps_5 ?_
  refine lv_istore_n (lv' := [(3, .int (li a)), (0, .ref (q 0)), (1, .int (nI a)), (2, .int (nI b))]) hx hb dX6_swaps_6 rfl hl (by decide) rfl (fun ls hl => ?_)
  refine lv_aload_n hx hb dX6_swaps_7 rfl (lv_at hl 1 rfl) ?_
  refine va_get (D := (dC, dI)) (ci := 6) (v := .ref (q 5)) (C := RX6) (T := TX6) (N := 14) hx hb hts hin hown hK hP 0 rfl rfl 10 (by decide) lk30 (fun _ h9 => h9) rfl dX6_swaps_8 ?_
  refine lv_iload_n hx hb dX6_swaps_11 rfl (lv_at hl 2 rfl) ?_
  refine lv_aload_n hx hb dX6_swaps_12 rfl (lv_at hl 1 rfl) ?_
  refine va_get (D := (dC, dI)) (ci := 6) (v := .ref (q 5)) (C := RX6) (T := TX6) (N := 14) hx hb hts hin hown hK hP 0 rfl rfl 10 (by decide) lk30 (fun _ h9 => h9) rfl dX6_swaps_13 ?_
  refine lv_iload_n hx hb dX6_swaps_16 rfl (lv_at hl 3 rfl) ?_
  refine qv_ald (v := li b) hx hb hK hP 5 0 rfl rfl (by omega) (by decide) (rfl) dX6_swaps_17 ?_
  refine qv_ast (ws' := mW q cI cZ w kp tx td ab be su po st nu (upd li a (li b)) fi ga hh) hx hb hK hP hD hS 5 0 rfl rfl (by omega) (by decide) dX6_swaps_18 rfl (fun H locs hP hD hS => ?_)
  refine lv_aload_n hx hb dX6_swaps_19 rfl (lv_at hl 1 rfl) ?_
  refine va_get (D := (dC, dI)) (ci := 6) (v := .ref (q 5)) (C := RX6) (T := TX6) (N := 14) hx hb hts hin hown hK hP 0 rfl rfl 10 (by decide) lk30 (fun _ h9 => h9) rfl dX6_swaps_20 ?_
  refine lv_iload_n hx hb dX6_swaps_23 rfl (lv_at hl 3 rfl) ?_
  refine lv_iload_n hx hb dX6_swaps_24 rfl (lv_at hl 0 rfl) ?_
  refine qv_ast (ws' := mW q cI cZ w kp tx td ab be su po st nu (upd (upd li a (li b)) b (li a)) fi ga hh) hx hb hK hP hD hS 5 0 rfl rfl (by omega) (by decide) dX6_swaps_25 rfl (fun H locs hP hD hS => ?_)
  have hP9 : va_P (dC, dI) vwCl (mW q cI cZ w kp tx td ab be su po st nu (upd (upd li a (li b)) b (li a)) fi ga hh) H := hP
  exact W.vret hx hb hr (fun t ht hW => ⟨⟨(upd (upd li a (li b)) b (li a)), rfl, hO.symm.trans hF, by rw [ht]; exact hP9, va_K.moved hW.alike hK, hD⟩, hS.F ht⟩) hS.2.2 dX6_swaps_26
def F_X6_nextLine_L78 : Nat →  (Nat) → (Nat) → (Nat → Int32) → (Nat) × (Nat) × (Nat → Int32)
  | 0, a, b, l2 => (a, b, l2)
  | n_78 + 1, a, b, l2 => if b ≤ a then (a, b, l2) else let1 (F_X6_swaps l2 a b) (fun li_90 => F_X6_nextLine_L78 n_78  (a + 1) ((b - 1)) li_90)
def F_X6_nextLine_L41 : Nat → (Nat → Int32) → (Nat) → (Nat) → (Nat)
  | 0, _, _, jj => jj
  | n_41 + 1, li, kk, jj => if (li ((kk - 1))) ≤ (li jj) then jj else F_X6_nextLine_L41 n_41 li kk ((jj - 1))
def F_X6_nextLine_L4 : Nat → (Nat → Int32) → (Nat) → (Nat)
  | 0, _, kk => kk
  | n_4 + 1, li, kk => if (nI kk - nI 1) < 0 then kk else (if (li ((kk - 1))) ≤ (li ((kk - 1) + 1)) then kk else F_X6_nextLine_L4 n_4 li ((kk - 1)))
def F_X6_nextLine (li : Nat → Int32) (n : Nat) : Bool × (Nat → Int32) := let1 (F_X6_nextLine_L4 7 li ((n - 1))) (fun kk => if 0 ≤ (nI kk - nI 1) then let1 (F_X6_nextLine_L41 7 li kk ((n - 1))) (fun jj => let1 (F_X6_swaps li ((kk - 1)) jj) (fun li_65 => let3 (F_X6_nextLine_L78 7  ((kk - 1) + 1) ((n - 1)) li_65) (fun a b l2 => (true, l2)))) else (false, li))
set_option maxHeartbeats 4000000 in
set_option maxRecDepth 100000 in
theorem c_X6_nextLine (l : Launch) (dC : Nat → ClassId) (dI : Nat → Nat → Nat) (q : Nat → Nat) (cI cZ : ClassId) (sz : Nat) (w : Nat → Int32) (kp : Nat → Int32) (tx : Nat → Int32) (td : Int32) (ab : Int64) (be : Int64) (su : Nat → Int32) (po : Int32) (st : Int32) (nu : Int32) (li : Nat → Int32) (fi : Nat → Int32) (ga : Nat → Int32) (hh : Int64) (n : Nat) (h1 : 1 ≤ n) (h2 : n ≤ 6) : Met l yX6_nextLine wsX6_nextLine { frames := 1, cells := 0, slots := 0, locals := 23 } (mPc (dC, dI) vwCl (mT cI cZ) (mW q cI cZ w kp tx td ab be su po st nu li fi ga hh) sz [.ref (q 0), .int (nI n)]) (va_Qi (fun (r : Int32) (u : (Nat → Int32)) => ∃ z : Bool, F_X6_nextLine li n = (z, u) ∧ r = if z = true then 1 else 0) (mB (dC, dI) vwCl (mT cI cZ) (va_A (mW q cI cZ w kp tx td ab be su po st nu li fi ga hh) sz) (fun u => mW q cI cZ w kp tx td ab be su po st nu u fi ga hh)) (va_A (mW q cI cZ w kp tx td ab be su po st nu li fi ga hh) sz)) 0 0 (va_A (mW q cI cZ w kp tx td ab be su po st nu li fi ga hh) sz) := by
  refine Met.ofW (cc := cX6_nextLine) (maxL := 6) (ret := (some .boolean)) (by decide) rfl ?_
  intro p e s m args below meth c s₁ B hml hv
  obtain ⟨rfl, hsz, hP, hK, hD0⟩ := hv
  have hx := B.exec
  have hb := B.bytes
  have hr := B.returns
  have hts := atoms_spec (ws := wsX6_nextLine) B.pre
  have hown : s.vm.findClass RX6 = some m.cls := findClass_of_methodNamed B.named
  have hlocks := B.notSynchronized
  subst hsz
  have hD := hD0.self (sz := s.heap.size)
  generalize hAe : va_A (mW q cI cZ w kp tx td ab be su po st nu li fi ga hh) s.heap.size = A at hD ⊢
  have hA : ∀ q : Nat, s.heap.size ≤ q → A q := fun q h => by rw [← hAe]; exact Or.inr h
  have hS : va_S A s.heap s.heap [] := va_S.rf
  have hin : ∀ w ∈ wsX60, w ∈ wsX6_nextLine := by decide +kernel
  have lk30 := hts (.fieldLink RX6 30 "PostRoundersModel" "line" "[I") (by decide +kernel)
  have hl := lv_entry ([.ref (q 0), .int (nI n)]) (n := 6) (Nat.le_of_ble_eq_true rfl)
  rw [lg_entry_eq]
  generalize (lg_sl ([.ref (q 0), .int (nI n)]) ++ List.replicate (6 - (lg_sl ([.ref (q 0), .int (nI n)])).length) Slot.unset).toArray = ls at hl ⊢
  have hl : lv_has ls 6 [(0, .ref (q 0)), (1, .int (nI n))] := hl
  obtain ⟨OUT, hO⟩ : ∃ z, z = F_X6_nextLine li n := ⟨_, rfl⟩
  have hF := hO
  unfold F_X6_nextLine at hF
  refine lv_iload_n hx hb dX6_nextLine_0 rfl (lv_at hl 1 rfl) ?_
  refine lv_iconst (v := nI 2) hx hb dX6_nextLine_1 (by decide) ?_
  refine lv_isub hx hb dX6_nextLine_2 ?_
  refine qv_top (pred_two (by omega)) ?_
  refine lv_istore_n (lv' := [(2, .int (nI (n - 1) - nI 1)), (0, .ref (q 0)), (1, .int (nI n))]) hx hb dX6_nextLine_3 rfl hl (by decide) rfl (fun ls hl => ?_)
  have L_4 : ∀ (n_4 : Nat) (kk : Nat) (H : Heap) (locs : List Loc), kk ≤ n - 1 → kk < n_4 → va_P (dC, dI) vwCl (mW q cI cZ w kp tx td ab be su po st nu li fi ga hh) H → va_D A (mW q cI cZ w kp tx td ab be su po st nu li fi ga hh) → va_S A s.heap H locs → ∀ (ls : Array Slot), lv_has ls 6 [(2, .int (nI kk - nI 1)), (0, .ref (q 0)), (1, .int (nI n))] → OUT = let1 (F_X6_nextLine_L4 n_4 li kk) (fun kk => if 0 ≤ (nI kk - nI 1) then let1 (F_X6_nextLine_L41 7 li kk ((n - 1))) (fun jj => let1 (F_X6_swaps li ((kk - 1)) jj) (fun li_65 => let3 (F_X6_nextLine_L78 7  ((kk - 1) + 1) ((n - 1)) li_65) (fun a b l2 => (true, l2)))) else (false, li)) → W p l e (headSpec wsX6_nextLine { frames := 1, cells := 0, slots := 0, locals := 23 }).room s m ([.ref (q 0), .int (nI n)] : List Value).toArray below meth c H locs 0 0 (MQ below (va_Qi (fun (r : Int32) (u : (Nat → Int32)) => ∃ z : Bool, F_X6_nextLine li n = (z, u) ∧ r = if z = true then 1 else 0) (mB (dC, dI) vwCl (mT cI cZ) A (fun u => mW q cI cZ w kp tx td ab be su po st nu u fi ga hh)) A) ([.ref (q 0), .int (nI n)] : List Value).toArray s 0 0 A) (F0 m 4 ls []) := by
    intro n_4
    induction n_4 with
    | zero => intro kk H locs i0 hmu; exact absurd hmu (Nat.not_lt_zero _)
    | succ n_4 ih_4 =>
      intro kk H locs i0 hmu_4 hP hD hS ls hl hF
      rw [F_X6_nextLine_L4] at hF
      refine lv_iload_n hx hb dX6_nextLine_4 rfl (lv_at hl 0 rfl) ?_
      refine lv_if_lt (tgt := 31) hx hb dX6_nextLine_5 (by decide) (fun c_5 => ?_) (fun c_5 => ?_)
      · rw [if_pos c_5] at hF
        rw [let1_mk (kk : Nat)] at hF
        refine lv_iload_n hx hb dX6_nextLine_31 rfl (lv_at hl 0 rfl) ?_
        refine lv_if_ge (tgt := 37) hx hb dX6_nextLine_32 (by decide) (fun c_32 => absurd c_32 (pred_no (by omega) c_5)) (fun _ => ?_)
        rw [if_neg (pred_no (by omega) c_5)] at hF
        refine lv_iconst (v := nI 0) hx hb dX6_nextLine_35 (by decide) ?_
        have hP9 : va_P (dC, dI) vwCl (mW q cI cZ w kp tx td ab be su po st nu li fi ga hh) H := hP
        exact W.zret (v := nI 0) hx hb hr (by rfl) (fun t ht hW => ⟨⟨_, (li), rfl, ⟨false, hO.symm.trans hF, rfl⟩, by rw [ht]; exact hP9, va_K.moved hW.alike hK, hD⟩, hS.F ht⟩) hS.2.2 dX6_nextLine_36
      · rw [if_neg c_5] at hF
        have g_k := pred_pos c_5
        refine lv_aload_n hx hb dX6_nextLine_8 rfl (lv_at hl 1 rfl) ?_
        refine va_get (D := (dC, dI)) (ci := 6) (v := .ref (q 5)) (C := RX6) (T := TX6) (N := 14) hx hb hts hin hown hK hP 0 rfl rfl 10 (by decide) lk30 (fun _ h9 => h9) rfl dX6_nextLine_9 ?_
        refine lv_iload_n hx hb dX6_nextLine_12 rfl (lv_at hl 0 rfl) ?_
        refine qv_top (pred_eq g_k) ?_
        refine qv_ald (v := li ((kk - 1))) hx hb hK hP 5 0 rfl rfl (by omega) (by decide) (rfl) dX6_nextLine_13 ?_
        refine lv_aload_n hx hb dX6_nextLine_14 rfl (lv_at hl 1 rfl) ?_
        refine va_get (D := (dC, dI)) (ci := 6) (v := .ref (q 5)) (C := RX6) (T := TX6) (N := 14) hx hb hts hin hown hK hP 0 rfl rfl 10 (by decide) lk30 (fun _ h9 => h9) rfl dX6_nextLine_15 ?_
        refine lv_iload_n hx hb dX6_nextLine_18 rfl (lv_at hl 0 rfl) ?_
        refine qv_top (pred_eq g_k) ?_
        refine lv_iconst (v := nI 1) hx hb dX6_nextLine_19 (by decide) ?_
        refine qv_iadd hx hb ((kk - 1) + 1) dX6_nextLine_20 (by omega) ?_
        refine qv_ald (v := li ((kk - 1) + 1)) hx hb hK hP 5 0 rfl rfl (by omega) (by decide) (rfl) dX6_nextLine_21 ?_
        refine lv_icmp_le (tgt := 31) hx hb dX6_nextLine_22 (by decide) (fun c_22 => ?_) (fun c_22 => ?_)
        · rw [if_pos c_22] at hF
          rw [let1_mk (kk : Nat)] at hF
          refine lv_iload_n hx hb dX6_nextLine_31 rfl (lv_at hl 0 rfl) ?_
          refine lv_if_ge (tgt := 37) hx hb dX6_nextLine_32 (by decide) (fun c_32 => ?_) (fun c_32 => ?_)
          · rw [if_pos c_32] at hF
            refine lv_iload_n hx hb dX6_nextLine_37 rfl (lv_at hl 2 rfl) ?_
            refine lv_iconst (v := nI 1) hx hb dX6_nextLine_38 (by decide) ?_
            refine qv_isub hx hb (n - 1) dX6_nextLine_39 (by omega) ?_
            refine lv_istore_n (lv' := [(3, .int (nI ((n - 1)))), (2, .int (nI kk - nI 1)), (0, .ref (q 0)), (1, .int (nI n))]) hx hb dX6_nextLine_40 rfl hl (by decide) rfl (fun ls hl => ?_)
            have L_41 : ∀ (n_41 : Nat) (jj : Nat) (H : Heap) (locs : List Loc), kk ≤ jj → jj ≤ n - 1 → jj < n_41 → va_P (dC, dI) vwCl (mW q cI cZ w kp tx td ab be su po st nu li fi ga hh) H → va_D A (mW q cI cZ w kp tx td ab be su po st nu li fi ga hh) → va_S A s.heap H locs → ∀ (ls : Array Slot), lv_has ls 6 [(3, .int (nI jj)), (2, .int (nI kk - nI 1)), (0, .ref (q 0)), (1, .int (nI n))] → OUT = let1 (F_X6_nextLine_L41 n_41 li kk jj) (fun jj => let1 (F_X6_swaps li ((kk - 1)) jj) (fun li_65 => let3 (F_X6_nextLine_L78 7  ((kk - 1) + 1) ((n - 1)) li_65) (fun a b l2 => (true, l2)))) → W p l e (headSpec wsX6_nextLine { frames := 1, cells := 0, slots := 0, locals := 23 }).room s m ([.ref (q 0), .int (nI n)] : List Value).toArray below meth c H locs 0 0 (MQ below (va_Qi (fun (r : Int32) (u : (Nat → Int32)) => ∃ z : Bool, F_X6_nextLine li n = (z, u) ∧ r = if z = true then 1 else 0) (mB (dC, dI) vwCl (mT cI cZ) A (fun u => mW q cI cZ w kp tx td ab be su po st nu u fi ga hh)) A) ([.ref (q 0), .int (nI n)] : List Value).toArray s 0 0 A) (F0 m 41 ls []) := by
              intro n_41
              induction n_41 with
              | zero => intro jj H locs j0 j1 hmu; exact absurd hmu (Nat.not_lt_zero _)
              | succ n_41 ih_41 =>
                intro jj H locs j0 j1 hmu_41 hP hD hS ls hl hF
                rw [F_X6_nextLine_L41] at hF
                refine lv_aload_n hx hb dX6_nextLine_41 rfl (lv_at hl 2 rfl) ?_
                refine va_get (D := (dC, dI)) (ci := 6) (v := .ref (q 5)) (C := RX6) (T := TX6) (N := 14) hx hb hts hin hown hK hP 0 rfl rfl 10 (by decide) lk30 (fun _ h9 => h9) rfl dX6_nextLine_42 ?_
                refine lv_iload_n hx hb dX6_nextLine_45 rfl (lv_at hl 0 rfl) ?_
                refine qv_ald (v := li jj) hx hb hK hP 5 0 rfl rfl (by omega) (by decide) (rfl) dX6_nextLine_46 ?_
                refine lv_aload_n hx hb dX6_nextLine_47 rfl (lv_at hl 2 rfl) ?_
                refine va_get (D := (dC, dI)) (ci := 6) (v := .ref (q 5)) (C := RX6) (T := TX6) (N := 14) hx hb hts hin hown hK hP 0 rfl rfl 10 (by decide) lk30 (fun _ h9 => h9) rfl dX6_nextLine_48 ?_
                refine lv_iload_n hx hb dX6_nextLine_51 rfl (lv_at hl 1 rfl) ?_
                refine qv_top (pred_eq g_k) ?_
                refine qv_ald (v := li ((kk - 1))) hx hb hK hP 5 0 rfl rfl (by omega) (by decide) (rfl) dX6_nextLine_52 ?_
                refine lv_icmp_ge (tgt := 62) hx hb dX6_nextLine_53 (by decide) (fun c_53 => ?_) (fun c_53 => ?_)
                · rw [if_pos c_53] at hF
                  rw [let1_mk (jj : Nat)] at hF
                  refine lv_aload_n hx hb dX6_nextLine_62 rfl (lv_at hl 2 rfl) ?_
                  refine lv_iload_n hx hb dX6_nextLine_63 rfl (lv_at hl 1 rfl) ?_
                  refine qv_top (pred_eq g_k) ?_
                  refine lv_iload_n hx hb dX6_nextLine_64 rfl (lv_at hl 0 rfl) ?_
                  refine qc_Vv (C := RX6) (As := [.int (nI ((kk - 1))), .int (nI jj)]) (rest := []) (ci := 6) (k0 := 0) ⟨hx, hb, hml, hown, hts⟩ (c_X6_swaps l dC dI q cI cZ H.size w kp tx td ab be su po st nu li fi ga hh ((kk - 1)) jj (by omega) (by omega)) (cwV 2 hts gX6_nextLine_X6_swaps rfl rfl rfl (by decide +kernel) ⟨Nat.le_of_ble_eq_true rfl, Nat.le_of_ble_eq_true rfl⟩) hK hP hD hS hA rfl rfl rfl rfl hl.1 rfl (Nat.le_of_ble_eq_true rfl) dX6_nextLine_65 ⟨Nat.zero_le _, Nat.zero_le _⟩ (fun u_65 H locs hw_65 hP hD hS => ?_)
                  obtain ⟨li_65, rfl⟩ : ∃ z, z = u_65 := ⟨_, rfl⟩
                  have hP : va_P (dC, dI) vwCl (mW q cI cZ w kp tx td ab be su po st nu li_65 fi ga hh) H := hP
                  have hD : va_D A (mW q cI cZ w kp tx td ab be su po st nu li_65 fi ga hh) := hD
                  rw [hw_65, let1_mk li_65] at hF
                  refine lv_iload_n hx hb dX6_nextLine_68 rfl (lv_at hl 1 rfl) ?_
                  refine qv_top (pred_eq g_k) ?_
                  refine lv_iconst (v := nI 1) hx hb dX6_nextLine_69 (by decide) ?_
                  refine qv_iadd hx hb ((kk - 1) + 1) dX6_nextLine_70 (by omega) ?_
                  refine lv_istore (lv' := [(4, .int (nI ((kk - 1) + 1))), (3, .int (nI jj)), (2, .int (nI kk - nI 1)), (0, .ref (q 0)), (1, .int (nI n))]) hx hb dX6_nextLine_71 hl (by decide) rfl (fun ls hl => ?_)
                  refine lv_iload_n hx hb dX6_nextLine_73 rfl (lv_at hl 4 rfl) ?_
                  refine lv_iconst (v := nI 1) hx hb dX6_nextLine_74 (by decide) ?_
                  refine qv_isub hx hb (n - 1) dX6_nextLine_75 (by omega) ?_
                  refine lv_istore (lv' := [(5, .int (nI ((n - 1)))), (4, .int (nI ((kk - 1) + 1))), (3, .int (nI jj)), (2, .int (nI kk - nI 1)), (0, .ref (q 0)), (1, .int (nI n))]) hx hb dX6_nextLine_76 hl (by decide) rfl (fun ls hl => ?_)
                  have L_78 : ∀ (n_78 : Nat) (a : Nat) (b : Nat) (l2 : Nat → Int32) (H : Heap) (locs : List Loc), a ≤ 6 → b ≤ 5 → b - a < n_78 → va_P (dC, dI) vwCl (mW q cI cZ w kp tx td ab be su po st nu l2 fi ga hh) H → va_D A (mW q cI cZ w kp tx td ab be su po st nu l2 fi ga hh) → va_S A s.heap H locs → ∀ (ls : Array Slot), lv_has ls 6 [(5, .int (nI b)), (4, .int (nI a)), (3, .int (nI jj)), (2, .int (nI kk - nI 1)), (0, .ref (q 0)), (1, .int (nI n))] → OUT = let3 (F_X6_nextLine_L78 n_78  a b l2) (fun a b l2 => (true, l2)) → W p l e (headSpec wsX6_nextLine { frames := 1, cells := 0, slots := 0, locals := 23 }).room s m ([.ref (q 0), .int (nI n)] : List Value).toArray below meth c H locs 0 0 (MQ below (va_Qi (fun (r : Int32) (u : (Nat → Int32)) => ∃ z : Bool, F_X6_nextLine li n = (z, u) ∧ r = if z = true then 1 else 0) (mB (dC, dI) vwCl (mT cI cZ) A (fun u => mW q cI cZ w kp tx td ab be su po st nu u fi ga hh)) A) ([.ref (q 0), .int (nI n)] : List Value).toArray s 0 0 A) (F0 m 78 ls []) := by
                    intro n_78
                    induction n_78 with
                    | zero => intro a b l2 H locs l0 l1 hmu; exact absurd hmu (Nat.not_lt_zero _)
                    | succ n_78 ih_78 =>
                      intro a b l2 H locs l0 l1 hmu_78 hP hD hS ls hl hF
                      rw [F_X6_nextLine_L78] at hF
                      refine lv_iload hx hb dX6_nextLine_78 (lv_at hl 1 rfl) ?_
                      refine lv_iload hx hb dX6_nextLine_80 (lv_at hl 0 rfl) ?_
                      refine qv_icmp_ge (tgt := 102) hx hb dX6_nextLine_82 (by decide) (by omega) (by omega) (fun c_82 => ?_) (fun c_82 => ?_)
                      · rw [if_pos c_82] at hF
                        rw [let3_mk (a : Nat) (b : Nat) (l2 : Nat → Int32)] at hF
                        refine lv_iconst (v := nI 1) hx hb dX6_nextLine_102 (by decide) ?_
                        have hP9 : va_P (dC, dI) vwCl (mW q cI cZ w kp tx td ab be su po st nu l2 fi ga hh) H := hP
                        exact W.zret (v := nI 1) hx hb hr (by rfl) (fun t ht hW => ⟨⟨_, (l2), rfl, ⟨true, hO.symm.trans hF, rfl⟩, by rw [ht]; exact hP9, va_K.moved hW.alike hK, hD⟩, hS.F ht⟩) hS.2.2 dX6_nextLine_103
                      · rw [if_neg c_82] at hF
                        refine lv_aload_n hx hb dX6_nextLine_85 rfl (lv_at hl 4 rfl) ?_
                        refine lv_iload hx hb dX6_nextLine_86 (lv_at hl 1 rfl) ?_
                        refine lv_iload hx hb dX6_nextLine_88 (lv_at hl 0 rfl) ?_
                        refine qc_Vv (C := RX6) (As := [.int (nI a), .int (nI b)]) (rest := []) (ci := 6) (k0 := 0) ⟨hx, hb, hml, hown, hts⟩ (c_X6_swaps l dC dI q cI cZ H.size w kp tx td ab be su po st nu l2 fi ga hh a b (by omega) (by omega)) (cwV 2 hts gX6_nextLine_X6_swaps rfl rfl rfl (by decide +kernel) ⟨Nat.le_of_ble_eq_true rfl, Nat.le_of_ble_eq_true rfl⟩) hK hP hD hS hA rfl rfl rfl rfl hl.1 rfl (Nat.le_of_ble_eq_true rfl) dX6_nextLine_90 ⟨Nat.zero_le _, Nat.zero_le _⟩ (fun u_90 H locs hw_90 hP hD hS => ?_)
                        obtain ⟨li_90, rfl⟩ : ∃ z, z = u_90 := ⟨_, rfl⟩
                        have hP : va_P (dC, dI) vwCl (mW q cI cZ w kp tx td ab be su po st nu li_90 fi ga hh) H := hP
                        have hD : va_D A (mW q cI cZ w kp tx td ab be su po st nu li_90 fi ga hh) := hD
                        rw [hw_90, let1_mk li_90] at hF
                        refine lv_iinc (v := nI (a + 1)) (lv' := [(4, .int (nI (a + 1))), (5, .int (nI b)), (3, .int (nI jj)), (2, .int (nI kk - nI 1)), (0, .ref (q 0)), (1, .int (nI n))]) hx hb dX6_nextLine_93 hl (k := 1) rfl (qn_inc (c := 1) rfl (by omega)) (by decide) rfl (fun ls hl => ?_)
                        refine lv_iinc (v := nI ((b - 1))) (lv' := [(5, .int (nI ((b - 1)))), (4, .int (nI (a + 1))), (3, .int (nI jj)), (2, .int (nI kk - nI 1)), (0, .ref (q 0)), (1, .int (nI n))]) hx hb dX6_nextLine_96 hl (k := 1) rfl (qn_dec (by omega)) (by decide) rfl (fun ls hl => ?_)
                        refine lv_goto (tgt := 78) hx hb dX6_nextLine_99 (by decide) ?_
                        have hab : a < b := by omega
                        exact ih_78 (a + 1) ((b - 1)) li_90 H locs (by omega) (by omega) (by omega) hP hD hS ls (lv_sub hl [0, 1, 2, 3, 4, 5] rfl) hF
                  exact L_78 7 ((kk - 1) + 1) ((n - 1)) li_65 H locs (by omega) (by omega) (by omega) hP hD hS ls (lv_sub hl [0, 1, 2, 3, 4, 5] rfl) hF
                · rw [if_neg c_53] at hF
                  refine lv_iinc (v := nI ((jj - 1))) (lv' := [(3, .int (nI ((jj - 1)))), (2, .int (nI kk - nI 1)), (0, .ref (q 0)), (1, .int (nI n))]) hx hb dX6_nextLine_56 hl (k := 0) rfl (qn_dec (by omega)) (by decide) rfl (fun ls hl => ?_)
                  refine lv_goto (tgt := 41) hx hb dX6_nextLine_59 (by decide) ?_
                  have ne_56 : jj ≠ kk := fun q => c_53 (by rw [q]; have q2 := c_22; rwa [show kk - 1 + 1 = kk by omega] at q2)
                  exact ih_41 ((jj - 1)) H locs (by omega) (by omega) (by omega) hP hD hS ls (lv_sub hl [0, 1, 2, 3] rfl) hF
            exact L_41 7 ((n - 1)) H locs (by omega) (by omega) (by omega) hP hD hS ls (lv_sub hl [0, 1, 2, 3] rfl) hF
          · rw [if_neg c_32] at hF
            refine lv_iconst (v := nI 0) hx hb dX6_nextLine_35 (by decide) ?_
            have hP9 : va_P (dC, dI) vwCl (mW q cI cZ w kp tx td ab be su po st nu li fi ga hh) H := hP
            exact W.zret (v := nI 0) hx hb hr (by rfl) (fun t ht hW => ⟨⟨_, (li), rfl, ⟨false, hO.symm.trans hF, rfl⟩, by rw [ht]; exact hP9, va_K.moved hW.alike hK, hD⟩, hS.F ht⟩) hS.2.2 dX6_nextLine_36
        · rw [if_neg c_22] at hF
          refine lv_iinc (v := nI ((kk - 1)) - nI 1) (lv' := [(2, .int (nI ((kk - 1)) - nI 1)), (0, .ref (q 0)), (1, .int (nI n))]) hx hb dX6_nextLine_25 hl (k := 0) rfl (qn_pdec (by omega)) (by decide) rfl (fun ls hl => ?_)
          refine lv_goto (tgt := 4) hx hb dX6_nextLine_28 (by decide) ?_
          exact ih_4 ((kk - 1)) H locs (by omega) (by omega) hP hD hS ls (lv_sub hl [0, 1, 2] rfl) hF
  exact L_4 7 ((n - 1)) s.heap [] (by omega) (by omega) hP hD hS ls (lv_sub hl [0, 1, 2] rfl) hF
theorem swaps_in {P : Int32 → Prop} {li : Nat → Int32} {a b : Nat} (ha : a < 6) (hb : b < 6) (h : ∀ j, j < 6 → P (li j)) : ∀ j, j < 6 → P (F_X6_swaps li a b j) := by
  intro j hj
  unfold F_X6_swaps
  by_cases c : j = b
  · rw [c, pk_us]; exact h a ha
  · rw [pk_un c]
    by_cases d : j = a
    · rw [d, pk_us]; exact h b hb
    · rw [pk_un d]; exact h j hj
theorem L_nextLine78 {P : Int32 → Prop} : ∀ (f a b : Nat) (l2 : Nat → Int32), b ≤ 5 → (∀ j, j < 6 → P (l2 j)) → ∀ j, j < 6 → P ((F_X6_nextLine_L78 f a b l2).2.2 j)
  | 0, _, _, _, _, h => h
  | f + 1, a, b, l2, hb, h => by
    rw [F_X6_nextLine_L78]
    split
    · exact h
    · simp only [let1]
      exact L_nextLine78 f (a + 1) (b - 1) _ (by omega) (swaps_in (by omega) (by omega) h)
theorem L_nextLine41 (li : Nat → Int32) (kk : Nat) : ∀ (f jj : Nat), F_X6_nextLine_L41 f li kk jj ≤ jj
  | 0, _ => Nat.le_refl _
  | f + 1, jj => by
    rw [F_X6_nextLine_L41]
    split
    · exact Nat.le_refl _
    · exact Nat.le_trans (L_nextLine41 li kk f (jj - 1)) (by omega)
theorem L_nextLine4 (li : Nat → Int32) : ∀ (f kk : Nat), F_X6_nextLine_L4 f li kk ≤ kk
  | 0, _ => Nat.le_refl _
  | f + 1, kk => by
    rw [F_X6_nextLine_L4]
    split
    · exact Nat.le_refl _
    · split
      · exact Nat.le_refl _
      · exact Nat.le_trans (L_nextLine4 li f (kk - 1)) (by omega)
theorem nextLine_in {P : Int32 → Prop} {li li' : Nat → Int32} {n : Nat} {z : Bool} (e : F_X6_nextLine li n = (z, li')) (h2 : n ≤ 6) (h : ∀ j, j < 6 → P (li j)) : ∀ j, j < 6 → P (li' j) := by
  have e2 : (F_X6_nextLine li n).2 = li' := by rw [e]
  rw [← e2]
  unfold F_X6_nextLine
  simp only [let1]
  split
  · simp only [let3]
    have a1 := L_nextLine4 li 7 (n - 1)
    have a2 := L_nextLine41 li (F_X6_nextLine_L4 7 li (n - 1)) 7 (n - 1)
    exact L_nextLine78 7 _ _ _ (by omega) (swaps_in (by omega) (by omega) h)
  · exact h
def F_X6_scoreInLine_L6 : Nat → (Nat → Int32) → (Nat → Int32) → (Nat) → (Nat → Int32) → (Nat) × (Nat → Int32)
  | 0, _, _, k, w1 => (k, w1)
  | n_6 + 1, w, li, k, w1 => if tN (w 0) ≤ k then (k, w1) else F_X6_scoreInLine_L6 n_6 w li (k + 1) (upd (upd (upd w1 (k + 597) (w1 (tN (li k) + 5))) (k + 603) ((upd w1 (k + 597) (w1 (tN (li k) + 5))) (tN (li k) + 11))) (k + 609) (nI 0))
def F_X6_scoreInLine (w : Nat → Int32) (li : Nat → Int32) (n : Nat) : Int32 × (Nat → Int32) := let1 (F_X6_tries w) (fun w_1 => let2 (F_X6_scoreInLine_L6 7 w li 0 w_1) (fun k w1 => let2 (F_X6_scoreTried (upd w1 594 (nI 0)) n) (fun r_91 w_91 => (r_91, w_91))))
set_option maxHeartbeats 4000000 in
set_option maxRecDepth 100000 in
theorem c_X6_scoreInLine (l : Launch) (dC : Nat → ClassId) (dI : Nat → Nat → Nat) (q : Nat → Nat) (cI cZ : ClassId) (sz : Nat) (w : Nat → Int32) (kp : Nat → Int32) (tx : Nat → Int32) (td : Int32) (ab : Int64) (be : Int64) (su : Nat → Int32) (po : Int32) (st : Int32) (nu : Int32) (li : Nat → Int32) (fi : Nat → Int32) (ga : Nat → Int32) (hh : Int64) (n : Nat) (hn : n ≤ 8) (pB : inB (w 0) 6) (hli : ∀ j, j < 6 → inB (li j) 5) : Met l yX6_scoreInLine wsX6_scoreInLine { frames := 7, cells := 0, slots := 0, locals := 160 } (mPc (dC, dI) vwCl (mT cI cZ) (mW q cI cZ w kp tx td ab be su po st nu li fi ga hh) sz [.ref (q 0), .int (nI n)]) (va_Qi (fun (r : Int32) (u : (Nat → Int32)) => F_X6_scoreInLine w li n = (r, u)) (mB (dC, dI) vwCl (mT cI cZ) (va_A (mW q cI cZ w kp tx td ab be su po st nu li fi ga hh) sz) (fun u => mW q cI cZ u kp tx td ab be su po st nu li fi ga hh)) (va_A (mW q cI cZ w kp tx td ab be su po st nu li fi ga hh) sz)) 0 0 (va_A (mW q cI cZ w kp tx td ab be su po st nu li fi ga hh) sz) := by
  refine Met.ofW (cc := cX6_scoreInLine) (maxL := 3) (ret := (some .int)) (by decide) rfl ?_
  intro p e s m args below meth c s₁ B hml hv
  obtain ⟨rfl, hsz, hP, hK, hD0⟩ := hv
  have hx := B.exec
  have hb := B.bytes
  have hr := B.returns
  have hts := atoms_spec (ws := wsX6_scoreInLine) B.pre
  have hown : s.vm.findClass RX6 = some m.cls := findClass_of_methodNamed B.named
  have hlocks := B.notSynchronized
  subst hsz
  have hD := hD0.self (sz := s.heap.size)
  generalize hAe : va_A (mW q cI cZ w kp tx td ab be su po st nu li fi ga hh) s.heap.size = A at hD ⊢
  have hA : ∀ q : Nat, s.heap.size ≤ q → A q := fun q h => by rw [← hAe]; exact Or.inr h
  have hS : va_S A s.heap s.heap [] := va_S.rf
  have hin : ∀ w ∈ wsX60, w ∈ wsX6_scoreInLine := by decide +kernel
  have lk7 := hts (.fieldLink RX6 7 "PostRoundersModel" "w" "[I") (by decide +kernel)
  have lk30 := hts (.fieldLink RX6 30 "PostRoundersModel" "line" "[I") (by decide +kernel)
  have hl := lv_entry ([.ref (q 0), .int (nI n)]) (n := 3) (Nat.le_of_ble_eq_true rfl)
  rw [lg_entry_eq]
  generalize (lg_sl ([.ref (q 0), .int (nI n)]) ++ List.replicate (3 - (lg_sl ([.ref (q 0), .int (nI n)])).length) Slot.unset).toArray = ls at hl ⊢
  have hl : lv_has ls 3 [(0, .ref (q 0)), (1, .int (nI n))] := hl
  obtain ⟨OUT, hO⟩ : ∃ z, z = F_X6_scoreInLine w li n := ⟨_, rfl⟩
  have hF := hO
  unfold F_X6_scoreInLine at hF
  have e_pB := tN_eq pB.1
  have b_pB := pB.2
  refine lv_aload_n hx hb dX6_scoreInLine_0 rfl (lv_at hl 0 rfl) ?_
  refine qc_Vv (C := RX6) (As := []) (rest := []) (ci := 6) (k0 := 0) ⟨hx, hb, hml, hown, hts⟩ (c_X6_tries l dC dI q cI cZ s.heap.size w kp tx td ab be su po st nu li fi ga hh  ) (cwV 0 hts gX6_scoreInLine_X6_tries rfl rfl rfl (by decide +kernel) ⟨Nat.le_of_ble_eq_true rfl, Nat.le_of_ble_eq_true rfl⟩) hK hP hD hS hA rfl rfl rfl rfl hl.1 rfl (Nat.le_of_ble_eq_true rfl) dX6_scoreInLine_1 ⟨Nat.zero_le _, Nat.zero_le _⟩ (fun u_1 H locs hw_1 hP hD hS => ?_)
  obtain ⟨w_1, rfl⟩ : ∃ z, z = u_1 := ⟨_, rfl⟩
  have hP : va_P (dC, dI) vwCl (mW q cI cZ w_1 kp tx td ab be su po st nu li fi ga hh) H := hP
  have hD : va_D A (mW q cI cZ w_1 kp tx td ab be su po st nu li fi ga hh) := hD
  have t0_1 : w_1 592 = w 0 := tries_to hw_1 (k := 0) (by decide)
  have u0_1 : w_1 0 = w 0 := tries_keep hw_1 0 (by decide)
  rw [hw_1, let1_mk w_1] at hF
  refine lv_iconst (v := nI 0) hx hb dX6_scoreInLine_4 (by decide) ?_
  refine lv_istore_n (lv' := [(2, .int (nI 0)), (0, .ref (q 0)), (1, .int (nI n))]) hx hb dX6_scoreInLine_5 rfl hl (by decide) rfl (fun ls hl => ?_)
  have L_6 : ∀ (n_6 : Nat) (k : Nat) (w1 : Nat → Int32) (H : Heap) (locs : List Loc), k ≤ tN (w 0) → w1 0 = w 0 → w1 592 = w 0 → tN (w 0) - k < n_6 → va_P (dC, dI) vwCl (mW q cI cZ w1 kp tx td ab be su po st nu li fi ga hh) H → va_D A (mW q cI cZ w1 kp tx td ab be su po st nu li fi ga hh) → va_S A s.heap H locs → ∀ (ls : Array Slot), lv_has ls 3 [(2, .int (nI k)), (0, .ref (q 0)), (1, .int (nI n))] → OUT = let2 (F_X6_scoreInLine_L6 n_6 w li k w1) (fun k w1 => let2 (F_X6_scoreTried (upd w1 594 (nI 0)) n) (fun r_91 w_91 => (r_91, w_91))) → W p l e (headSpec wsX6_scoreInLine { frames := 7, cells := 0, slots := 0, locals := 160 }).room s m ([.ref (q 0), .int (nI n)] : List Value).toArray below meth c H locs 0 0 (MQ below (va_Qi (fun (r : Int32) (u : (Nat → Int32)) => F_X6_scoreInLine w li n = (r, u)) (mB (dC, dI) vwCl (mT cI cZ) A (fun u => mW q cI cZ u kp tx td ab be su po st nu li fi ga hh)) A) ([.ref (q 0), .int (nI n)] : List Value).toArray s 0 0 A) (F0 m 6 ls []) := by
    intro n_6
    induction n_6 with
    | zero => intro k w1 H locs i0 i1 i2 hmu; exact absurd hmu (Nat.not_lt_zero _)
    | succ n_6 ih_6 =>
      intro k w1 H locs i0 i1 i2 hmu_6 hP hD hS ls hl hF
      rw [F_X6_scoreInLine_L6] at hF
      refine lv_iload_n hx hb dX6_scoreInLine_6 rfl (lv_at hl 0 rfl) ?_
      refine lv_aload_n hx hb dX6_scoreInLine_7 rfl (lv_at hl 1 rfl) ?_
      refine va_get (D := (dC, dI)) (ci := 6) (v := .ref (q 1)) (C := RX6) (T := TX6) (N := 14) hx hb hts hin hown hK hP 0 rfl rfl 0 (by decide) lk7 (fun _ h9 => h9) rfl dX6_scoreInLine_8 ?_
      refine lv_iconst (v := nI 0) hx hb dX6_scoreInLine_11 (by decide) ?_
      refine qv_ald (v := w1 0) hx hb hK hP 1 0 rfl rfl (by omega) (by decide) (rfl) dX6_scoreInLine_12 ?_
      refine qv_top (i1.trans (e_pB)) ?_
      refine qv_icmp_ge (tgt := 80) hx hb dX6_scoreInLine_13 (by decide) (by omega) (by omega) (fun c_13 => ?_) (fun c_13 => ?_)
      · rw [if_pos c_13] at hF
        rw [let2_mk (k : Nat) (w1 : Nat → Int32)] at hF
        refine lv_aload_n hx hb dX6_scoreInLine_80 rfl (lv_at hl 1 rfl) ?_
        refine va_get (D := (dC, dI)) (ci := 6) (v := .ref (q 1)) (C := RX6) (T := TX6) (N := 14) hx hb hts hin hown hK hP 0 rfl rfl 0 (by decide) lk7 (fun _ h9 => h9) rfl dX6_scoreInLine_81 ?_
        refine lv_sipush (v := nI 594) hx hb dX6_scoreInLine_84 (by decide) ?_
        refine lv_iconst (v := nI 0) hx hb dX6_scoreInLine_87 (by decide) ?_
        refine qv_ast (ws' := mW q cI cZ (upd w1 594 (nI 0)) kp tx td ab be su po st nu li fi ga hh) hx hb hK hP hD hS 1 0 rfl rfl (by omega) (by decide) dX6_scoreInLine_88 rfl (fun H locs hP hD hS => ?_)
        refine lv_aload_n hx hb dX6_scoreInLine_89 rfl (lv_at hl 1 rfl) ?_
        refine lv_iload_n hx hb dX6_scoreInLine_90 rfl (lv_at hl 2 rfl) ?_
        refine qc_Vi (C := RX6) (As := [.int (nI n)]) (rest := []) (ci := 6) (k0 := 0) ⟨hx, hb, hml, hown, hts⟩ (c_X6_scoreTried l dC dI q cI cZ H.size (upd w1 594 (nI 0)) kp tx td ab be su po st nu li fi ga hh n (by omega) (by rw [show (upd w1 594 (nI 0)) 592 = w1 592 from pk_un (by omega)]; exact (by rw [i2]; exact pB : inB (w1 592) 6)) (by rw [show (upd w1 594 (nI 0)) 594 = nI 0 from pk_us]; exact (Or.inr (inB_nI (by omega) (by decide)) : okN (nI 0)))) (cwV 1 hts gX6_scoreInLine_X6_scoreTried rfl rfl rfl (by decide +kernel) ⟨Nat.le_of_ble_eq_true rfl, Nat.le_of_ble_eq_true rfl⟩) hK hP hD hS hA rfl rfl rfl rfl hl.1 rfl (Nat.le_of_ble_eq_true rfl) dX6_scoreInLine_91 ⟨Nat.zero_le _, Nat.zero_le _⟩ (fun r_91 u_91 H locs hw_91 hP hD hS => ?_)
        obtain ⟨w_91, rfl⟩ : ∃ z, z = u_91 := ⟨_, rfl⟩
        have hP : va_P (dC, dI) vwCl (mW q cI cZ w_91 kp tx td ab be su po st nu li fi ga hh) H := hP
        have hD : va_D A (mW q cI cZ w_91 kp tx td ab be su po st nu li fi ga hh) := hD
        rw [hw_91, let2_mk r_91 w_91] at hF
        have hP9 : va_P (dC, dI) vwCl (mW q cI cZ w_91 kp tx td ab be su po st nu li fi ga hh) H := hP
        exact W.iret (v := r_91) hx hb hr (fun t ht hW => ⟨⟨_, (w_91), rfl, hO.symm.trans hF, by rw [ht]; exact hP9, va_K.moved hW.alike hK, hD⟩, hS.F ht⟩) hS.2.2 dX6_scoreInLine_94
      · rw [if_neg c_13] at hF
        refine lv_aload_n hx hb dX6_scoreInLine_16 rfl (lv_at hl 1 rfl) ?_
        refine va_get (D := (dC, dI)) (ci := 6) (v := .ref (q 1)) (C := RX6) (T := TX6) (N := 14) hx hb hts hin hown hK hP 0 rfl rfl 0 (by decide) lk7 (fun _ h9 => h9) rfl dX6_scoreInLine_17 ?_
        refine lv_sipush (v := nI 597) hx hb dX6_scoreInLine_20 (by decide) ?_
        refine lv_iload_n hx hb dX6_scoreInLine_23 rfl (lv_at hl 0 rfl) ?_
        refine qv_iadd hx hb (k + 597) dX6_scoreInLine_24 (by omega) ?_
        refine lv_aload_n hx hb dX6_scoreInLine_25 rfl (lv_at hl 1 rfl) ?_
        refine va_get (D := (dC, dI)) (ci := 6) (v := .ref (q 1)) (C := RX6) (T := TX6) (N := 14) hx hb hts hin hown hK hP 0 rfl rfl 0 (by decide) lk7 (fun _ h9 => h9) rfl dX6_scoreInLine_26 ?_
        refine lv_iconst (v := nI 5) hx hb dX6_scoreInLine_29 (by decide) ?_
        have e_l := tN_eq (hli k (by omega)).1
        have b_l := (hli k (by omega)).2
        refine lv_aload_n hx hb dX6_scoreInLine_30 rfl (lv_at hl 1 rfl) ?_
        refine va_get (D := (dC, dI)) (ci := 6) (v := .ref (q 5)) (C := RX6) (T := TX6) (N := 14) hx hb hts hin hown hK hP 0 rfl rfl 10 (by decide) lk30 (fun _ h9 => h9) rfl dX6_scoreInLine_31 ?_
        refine lv_iload_n hx hb dX6_scoreInLine_34 rfl (lv_at hl 0 rfl) ?_
        refine qv_ald (v := li k) hx hb hK hP 5 0 rfl rfl (by omega) (by decide) (rfl) dX6_scoreInLine_35 ?_
        refine qv_top (e_l) ?_
        refine qv_iadd hx hb (tN (li k) + 5) dX6_scoreInLine_36 (by omega) ?_
        refine qv_ald (v := w1 (tN (li k) + 5)) hx hb hK hP 1 0 rfl rfl (by omega) (by decide) (rfl) dX6_scoreInLine_37 ?_
        refine qv_ast (ws' := mW q cI cZ (upd w1 (k + 597) (w1 (tN (li k) + 5))) kp tx td ab be su po st nu li fi ga hh) hx hb hK hP hD hS 1 0 rfl rfl (by omega) (by decide) dX6_scoreInLine_38 rfl (fun H locs hP hD hS => ?_)
        refine lv_aload_n hx hb dX6_scoreInLine_39 rfl (lv_at hl 1 rfl) ?_
        refine va_get (D := (dC, dI)) (ci := 6) (v := .ref (q 1)) (C := RX6) (T := TX6) (N := 14) hx hb hts hin hown hK hP 0 rfl rfl 0 (by decide) lk7 (fun _ h9 => h9) rfl dX6_scoreInLine_40 ?_
        refine lv_sipush (v := nI 603) hx hb dX6_scoreInLine_43 (by decide) ?_
        refine lv_iload_n hx hb dX6_scoreInLine_46 rfl (lv_at hl 0 rfl) ?_
        refine qv_iadd hx hb (k + 603) dX6_scoreInLine_47 (by omega) ?_
        refine lv_aload_n hx hb dX6_scoreInLine_48 rfl (lv_at hl 1 rfl) ?_
        refine va_get (D := (dC, dI)) (ci := 6) (v := .ref (q 1)) (C := RX6) (T := TX6) (N := 14) hx hb hts hin hown hK hP 0 rfl rfl 0 (by decide) lk7 (fun _ h9 => h9) rfl dX6_scoreInLine_49 ?_
        refine lv_bipush (v := nI 11) hx hb dX6_scoreInLine_52 (by decide) ?_
        refine lv_aload_n hx hb dX6_scoreInLine_54 rfl (lv_at hl 1 rfl) ?_
        refine va_get (D := (dC, dI)) (ci := 6) (v := .ref (q 5)) (C := RX6) (T := TX6) (N := 14) hx hb hts hin hown hK hP 0 rfl rfl 10 (by decide) lk30 (fun _ h9 => h9) rfl dX6_scoreInLine_55 ?_
        refine lv_iload_n hx hb dX6_scoreInLine_58 rfl (lv_at hl 0 rfl) ?_
        refine qv_ald (v := li k) hx hb hK hP 5 0 rfl rfl (by omega) (by decide) (rfl) dX6_scoreInLine_59 ?_
        refine qv_top (e_l) ?_
        refine qv_iadd hx hb (tN (li k) + 11) dX6_scoreInLine_60 (by omega) ?_
        refine qv_ald (v := (upd w1 (k + 597) (w1 (tN (li k) + 5))) (tN (li k) + 11)) hx hb hK hP 1 0 rfl rfl (by omega) (by decide) (rfl) dX6_scoreInLine_61 ?_
        refine qv_ast (ws' := mW q cI cZ (upd (upd w1 (k + 597) (w1 (tN (li k) + 5))) (k + 603) ((upd w1 (k + 597) (w1 (tN (li k) + 5))) (tN (li k) + 11))) kp tx td ab be su po st nu li fi ga hh) hx hb hK hP hD hS 1 0 rfl rfl (by omega) (by decide) dX6_scoreInLine_62 rfl (fun H locs hP hD hS => ?_)
        refine lv_aload_n hx hb dX6_scoreInLine_63 rfl (lv_at hl 1 rfl) ?_
        refine va_get (D := (dC, dI)) (ci := 6) (v := .ref (q 1)) (C := RX6) (T := TX6) (N := 14) hx hb hts hin hown hK hP 0 rfl rfl 0 (by decide) lk7 (fun _ h9 => h9) rfl dX6_scoreInLine_64 ?_
        refine lv_sipush (v := nI 609) hx hb dX6_scoreInLine_67 (by decide) ?_
        refine lv_iload_n hx hb dX6_scoreInLine_70 rfl (lv_at hl 0 rfl) ?_
        refine qv_iadd hx hb (k + 609) dX6_scoreInLine_71 (by omega) ?_
        refine lv_iconst (v := nI 0) hx hb dX6_scoreInLine_72 (by decide) ?_
        refine qv_ast (ws' := mW q cI cZ (upd (upd (upd w1 (k + 597) (w1 (tN (li k) + 5))) (k + 603) ((upd w1 (k + 597) (w1 (tN (li k) + 5))) (tN (li k) + 11))) (k + 609) (nI 0)) kp tx td ab be su po st nu li fi ga hh) hx hb hK hP hD hS 1 0 rfl rfl (by omega) (by decide) dX6_scoreInLine_73 rfl (fun H locs hP hD hS => ?_)
        refine lv_iinc (v := nI (k + 1)) (lv' := [(2, .int (nI (k + 1))), (0, .ref (q 0)), (1, .int (nI n))]) hx hb dX6_scoreInLine_74 hl (k := 0) rfl (qn_inc (c := 1) rfl (by omega)) (by decide) rfl (fun ls hl => ?_)
        refine lv_goto (tgt := 6) hx hb dX6_scoreInLine_77 (by decide) ?_
        exact ih_6 (k + 1) (upd (upd (upd w1 (k + 597) (w1 (tN (li k) + 5))) (k + 603) ((upd w1 (k + 597) (w1 (tN (li k) + 5))) (tN (li k) + 11))) (k + 609) (nI 0)) H locs (by omega) (((pk_un (by omega)).trans ((pk_un (by omega)).trans (pk_un (by omega)))).trans i1) (((pk_un (by omega)).trans ((pk_un (by omega)).trans (pk_un (by omega)))).trans i2) (by omega) hP hD hS ls (lv_sub hl [0, 1, 2] rfl) hF
  exact L_6 7 0 w_1 H locs (by omega) (u0_1) (t0_1) (by omega) hP hD hS ls (lv_sub hl [0, 1, 2] rfl) hF
theorem L_scoreInLine (w li : Nat → Int32) : ∀ (f k : Nat) (w1 : Nat → Int32), ∀ j, j < 597 → (F_X6_scoreInLine_L6 f w li k w1).2 j = w1 j
  | 0, _, _, _, _ => rfl
  | f + 1, k, w1, j, hj => by
    rw [F_X6_scoreInLine_L6]
    split
    · rfl
    · rw [L_scoreInLine w li f _ _ j hj, pk_un (by omega), pk_un (by omega), pk_un (by omega)]
theorem scoreInLine_at {w w' li : Nat → Int32} {n : Nat} {r : Int32} (e : F_X6_scoreInLine w li n = (r, w')) (pB : inB (w 0) 6) : (∀ j, j < 592 → w' j = w j) ∧ inB r 126 := by
  unfold F_X6_scoreInLine at e
  simp only [let1, let2] at e
  have hk := L_scoreInLine w li 7 0 (F_X6_tries w)
  have h := scoreTried_at (w := upd (F_X6_scoreInLine_L6 7 w li 0 (F_X6_tries w)).2 594 (nI 0)) (n := n) rfl (by rw [pk_un (by decide), hk 592 (by decide), tries_at, if_pos (by decide)]; exact pB) (by rw [pk_us]; exact okN_nI (by decide))
  rw [← (Prod.mk.inj e).2, ← (Prod.mk.inj e).1]
  exact ⟨fun j hj => (h.1 j hj).trans ((pk_un (by omega)).trans ((hk j (by omega)).trans (tries_keep rfl j hj))), h.2⟩
/-- an order as a list, and the row that holds it -/
def ar (L : List Nat) : Nat → Int32 := fun j => nI (L.getD j 0)
def nrm (li : Nat → Int32) : List Nat := [tN (li 0), tN (li 1), tN (li 2), tN (li 3), tN (li 4), tN (li 5)]
theorem ar_nrm {li : Nat → Int32} (h : ∀ j, j < 6 → inB (li j) 5) : ∀ j, j < 6 → li j = ar (nrm li) j := by
  intro j hj
  have : j = 0 ∨ j = 1 ∨ j = 2 ∨ j = 3 ∨ j = 4 ∨ j = 5 := by omega
  rcases this with rfl | rfl | rfl | rfl | rfl | rfl
  · exact tN_eq (h 0 (by decide)).1
  · exact tN_eq (h 1 (by decide)).1
  · exact tN_eq (h 2 (by decide)).1
  · exact tN_eq (h 3 (by decide)).1
  · exact tN_eq (h 4 (by decide)).1
  · exact tN_eq (h 5 (by decide)).1
theorem cell_eq {cA : ClassId} {n : Nat} {f g : Nat → Int32} (h : ∀ j, j < n → f j = g j) : vp_cell cA (n, .inl f) = vp_cell cA (n, .inl g) := by
  rw [vp_cell_i, vp_cell_i]
  unfold arrV
  congr 1
  apply congrArg
  funext j
  show Value.int (f j.val) = Value.int (g j.val)
  rw [h j.val j.isLt]
theorem mW_li {D : va_G} {cl : List vw_C} {A : Nat → Prop} {H : Heap} {q : Nat → Nat} {cI cZ : ClassId} {w kp tx : Nat → Int32} {td : Int32} {ab be : Int64} {su : Nat → Int32} {po st nu : Int32} {li li2 fi ga : Nat → Int32} {hh : Int64} (hP : va_P D cl (mW q cI cZ w kp tx td ab be su po st nu li fi ga hh) H) (hD : va_D A (mW q cI cZ w kp tx td ab be su po st nu li fi ga hh)) (h : ∀ j, j < 6 → li j = li2 j) : va_P D cl (mW q cI cZ w kp tx td ab be su po st nu li2 fi ga hh) H ∧ va_D A (mW q cI cZ w kp tx td ab be su po st nu li2 fi ga hh) := by
  have h5 : H[q 5]? = some (vp_cell cI (6, .inl li)) := hP 5 _ rfl
  exact ⟨va_P.set (p := 5) (a := q 5) (e := .inl (cI, 6, .inl li2)) hP hD rfl (by show H[q 5]? = some (vp_cell cI (6, .inl li2)); rw [← cell_eq h]; exact h5) (fun _ _ => rfl), va_D.set (p := 5) (a := q 5) (e := .inl (cI, 6, .inl li2)) hD rfl⟩
/-- how many orders are left, at most -/
def rmn (n : Nat) : Nat → List Nat → Bool
  | 0, _ => false
  | f + 1, L => if (F_X6_nextLine (ar L) n).1 = true then rmn n f (nrm (F_X6_nextLine (ar L) n).2) else true
theorem rmn_step {n fu : Nat} {L : List Nat} {z : Bool} {li' : Nat → Int32} (e : F_X6_nextLine (ar L) n = (z, li')) (h : rmn n fu L = true) : 1 ≤ fu ∧ (z = true → rmn n (fu - 1) (nrm li') = true) := by
  cases fu with
  | zero => simp [rmn] at h
  | succ f =>
    refine ⟨by omega, fun hz => ?_⟩
    rw [rmn, e] at h
    rw [if_pos hz] at h
    exact h
theorem idl_step {l : Nat → Int32} {k : Nat} (h : ∀ j, j < k → l j = nI j) : ∀ j, j < k + 1 → upd l k (nI k) j = nI j := by
  intro j hj
  by_cases c : j = k
  · rw [c, pk_us]
  · rw [pk_un c]; exact h j (by omega)
theorem idl_ar {l : Nat → Int32} {k : Nat} (hk : 6 ≤ k) (h : ∀ j, j < k → l j = nI j) : ∀ j, j < 6 → l j = ar [0, 1, 2, 3, 4, 5] j := by
  intro j hj
  rw [h j (by omega)]
  have : j = 0 ∨ j = 1 ∨ j = 2 ∨ j = 3 ∨ j = 4 ∨ j = 5 := by omega
  rcases this with rfl | rfl | rfl | rfl | rfl | rfl <;> rfl
theorem ge_m1 {k : Int32} (h : (-1) ≤ k) (h2 : ¬ k = -1) : 0 ≤ k := by
  have h1 := Int32.le_iff_toInt_le.mp h
  rw [show (-1 : Int32).toInt = -1 from rfl] at h1
  have h3 : k.toInt ≠ -1 := fun q => h2 (Int32.toInt_inj.mp (by rw [q]; rfl))
  exact Int32.le_iff_toInt_le.mpr (by rw [show (0 : Int32).toInt = 0 from rfl]; omega)
set_option maxRecDepth 100000 in
theorem rmn_1 : rmn 1 720 [0, 1, 2, 3, 4, 5] = true := by decide +kernel
set_option maxRecDepth 100000 in
theorem rmn_2 : rmn 2 720 [0, 1, 2, 3, 4, 5] = true := by decide +kernel
set_option maxRecDepth 100000 in
theorem rmn_3 : rmn 3 720 [0, 1, 2, 3, 4, 5] = true := by decide +kernel
set_option maxRecDepth 100000 in
theorem rmn_4 : rmn 4 720 [0, 1, 2, 3, 4, 5] = true := by decide +kernel
set_option maxRecDepth 100000 in
theorem rmn_5 : rmn 5 720 [0, 1, 2, 3, 4, 5] = true := by decide +kernel
set_option maxRecDepth 100000 in
theorem rmn_6 : rmn 6 720 [0, 1, 2, 3, 4, 5] = true := by decide +kernel
theorem rmn_ok {n : Nat} (h : 1 ≤ n) (h2 : n ≤ 6) : rmn n 720 [0, 1, 2, 3, 4, 5] = true := by
  have : n = 1 ∨ n = 2 ∨ n = 3 ∨ n = 4 ∨ n = 5 ∨ n = 6 := by omega
  rcases this with rfl | rfl | rfl | rfl | rfl | rfl
  · exact rmn_1
  · exact rmn_2
  · exact rmn_3
  · exact rmn_4
  · exact rmn_5
  · exact rmn_6
theorem idp : ∀ j, j < 6 → inB (ar [0, 1, 2, 3, 4, 5] j) 5 := by
  intro j hj
  have : j = 0 ∨ j = 1 ∨ j = 2 ∨ j = 3 ∨ j = 4 ∨ j = 5 := by omega
  rcases this with rfl | rfl | rfl | rfl | rfl | rfl <;> exact inB_nI (by decide) (by decide)
def orM (mz : Bool) (fu : Nat) : Nat := if mz = true then fu + 1 else 0
def F_X6_order_L86 : Nat → (Int32) → (List Nat) → (Int32) → (Nat) → (Nat → Int32) → (Nat) × (Nat → Int32)
  | 0, _, _, _, e2, f2 => (e2, f2)
  | n_86 + 1, ms, LL, r_78, e2, f2 => if 6 ≤ e2 then (e2, f2) else (if (nI (tN r_78)) ≤ ms then (e2, f2) else F_X6_order_L86 n_86 ms LL r_78 (e2 + 1) (upd f2 e2 ((ar LL) e2)))
def F_X6_order_L71 : Nat → (Int32) → (Nat → Int32) → (Bool) → (Int32) → (Nat → Int32) → (List Nat) → (Nat → Int32) → (Nat) → (Bool) × (Int32) × (Nat → Int32) × (List Nat) × (Nat → Int32) × (Nat)
  | 0, _, _, mz, ms, w1, LL, f1, fu => (mz, ms, w1, LL, f1, fu)
  | n_71 + 1, n, w, mz, ms, w1, LL, f1, fu => if mz = true then let2 (F_X6_scoreInLine w1 (ar LL) (tN n)) (fun r_78 w_78 => let2 (F_X6_order_L86 7 ms LL r_78 0 f1) (fun e2 f2 => if (nI (tN r_78)) ≤ ms then let2 (F_X6_nextLine (ar LL) (tN (w 0))) (fun z_139 li_139 => F_X6_order_L71 n_71 n w z_139 ms w_78 ((nrm li_139)) f2 ((fu - 1))) else let2 (F_X6_nextLine (ar LL) (tN (w 0))) (fun z_139 li_139 => F_X6_order_L71 n_71 n w z_139 (nI (tN r_78)) w_78 ((nrm li_139)) f2 ((fu - 1))))) else (mz, ms, w1, LL, f1, fu)
def F_X6_order_L47 : Nat →  (Nat) → (Nat → Int32) → (Nat) × (Nat → Int32)
  | 0, ev, l1 => (ev, l1)
  | n_47 + 1, ev, l1 => if 6 ≤ ev then (ev, l1) else F_X6_order_L47 n_47  (ev + 1) (upd l1 ev (nI ev))
def F_X6_order (w : Nat → Int32) (su : Nat → Int32) (li : Nat → Int32) (fi : Nat → Int32) (n : Int32) (k : Int32) : Int32 × (Nat → Int32) × (Nat → Int32) × (Nat → Int32) × (Nat → Int32) := if (F_X6_in n.toInt64 1 8) = true then (if ((-1)) ≤ k then (if tN (w 0) = 0 then (if k = ((-1)) then (nI 0, w, li, fi, su) else ((-5), w, li, fi, su)) else let2 (F_X6_order_L47 7  0 li) (fun ev l1 => let6 (F_X6_order_L71 722 n w true ((-1)) w ([0, 1, 2, 3, 4, 5]) fi 720) (fun mz ms w1 LL f1 fu => if k = ((-1)) then (ms, w1, (ar LL), f1, su) else (if tN (w 0) ≤ tN k then ((-5), w1, (ar LL), f1, su) else (f1 (tN k), w1, (ar LL), f1, su))))) else let2 (F_X6_bad su ((-10))) (fun r_20 su_20 => (r_20, w, li, fi, su_20))) else let2 (F_X6_bad su ((-10))) (fun r_20 su_20 => (r_20, w, li, fi, su_20))
set_option maxHeartbeats 4000000 in
set_option maxRecDepth 100000 in
theorem c_X6_order (l : Launch) (dC : Nat → ClassId) (dI : Nat → Nat → Nat) (q : Nat → Nat) (cI cZ : ClassId) (sz : Nat) (w : Nat → Int32) (kp : Nat → Int32) (tx : Nat → Int32) (td : Int32) (ab : Int64) (be : Int64) (su : Nat → Int32) (po : Int32) (st : Int32) (nu : Int32) (li : Nat → Int32) (fi : Nat → Int32) (ga : Nat → Int32) (hh : Int64) (n : Int32) (k : Int32) (pB : inB (w 0) 6) : Met l yX6_order wsX6_order { frames := 8, cells := 0, slots := 0, locals := 182 } (mPc (dC, dI) vwCl (mT cI cZ) (mW q cI cZ w kp tx td ab be su po st nu li fi ga hh) sz [.ref (q 0), .int n, .int k]) (va_Qi (fun (r : Int32) (u : (Nat → Int32) × (Nat → Int32) × (Nat → Int32) × (Nat → Int32)) => F_X6_order w su li fi n k = (r, u)) (mB (dC, dI) vwCl (mT cI cZ) (va_A (mW q cI cZ w kp tx td ab be su po st nu li fi ga hh) sz) (fun u => mW q cI cZ u.1 kp tx td ab be u.2.2.2 po st nu u.2.1 u.2.2.1 ga hh)) (va_A (mW q cI cZ w kp tx td ab be su po st nu li fi ga hh) sz)) 0 0 (va_A (mW q cI cZ w kp tx td ab be su po st nu li fi ga hh) sz) := by
  refine Met.ofW (cc := cX6_order) (maxL := 7) (ret := (some .int)) (by decide) rfl ?_
  intro p e s m args below meth c s₁ B hml hv
  obtain ⟨rfl, hsz, hP, hK, hD0⟩ := hv
  have hx := B.exec
  have hb := B.bytes
  have hr := B.returns
  have hts := atoms_spec (ws := wsX6_order) B.pre
  have hown : s.vm.findClass RX6 = some m.cls := findClass_of_methodNamed B.named
  have hlocks := B.notSynchronized
  subst hsz
  have hD := hD0.self (sz := s.heap.size)
  generalize hAe : va_A (mW q cI cZ w kp tx td ab be su po st nu li fi ga hh) s.heap.size = A at hD ⊢
  have hA : ∀ q : Nat, s.heap.size ≤ q → A q := fun q h => by rw [← hAe]; exact Or.inr h
  have hS : va_S A s.heap s.heap [] := va_S.rf
  have hin : ∀ w ∈ wsX60, w ∈ wsX6_order := by decide +kernel
  have lk7 := hts (.fieldLink RX6 7 "PostRoundersModel" "w" "[I") (by decide +kernel)
  have lk30 := hts (.fieldLink RX6 30 "PostRoundersModel" "line" "[I") (by decide +kernel)
  have lk33 := hts (.fieldLink RX6 33 "PostRoundersModel" "first" "[I") (by decide +kernel)
  have hl := lv_entry ([.ref (q 0), .int n, .int k]) (n := 7) (Nat.le_of_ble_eq_true rfl)
  rw [lg_entry_eq]
  generalize (lg_sl ([.ref (q 0), .int n, .int k]) ++ List.replicate (7 - (lg_sl ([.ref (q 0), .int n, .int k])).length) Slot.unset).toArray = ls at hl ⊢
  have hl : lv_has ls 7 [(0, .ref (q 0)), (1, .int n), (2, .int k)] := hl
  obtain ⟨OUT, hO⟩ : ∃ z, z = F_X6_order w su li fi n k := ⟨_, rfl⟩
  have hF := hO
  unfold F_X6_order at hF
  have e_pB := tN_eq pB.1
  have b_pB := pB.2
  refine lv_iload_n hx hb dX6_order_0 rfl (lv_at hl 1 rfl) ?_
  refine lv_i2l hx hb dX6_order_1 rfl ?_
  refine lv_lconst (v := 1) hx hb dX6_order_2 (by decide) ?_
  refine lv_ldc2 (v := 8) hx hb hown (hts (.constantLong RX6 191 8) (by decide +kernel)) dX6_order_3 ?_
  refine qc_Si (As := [.long n.toInt64, .long 1, .long 8]) (rest := []) ⟨hx, hb, hml, hown, hts⟩ (c_X6_in l n.toInt64 1 8) (va_cwS 3 hts gX6_order_X6_in rfl rfl rfl (by decide +kernel) ⟨Nat.le_of_ble_eq_true rfl, Nat.le_of_ble_eq_true rfl⟩) rfl hl.1 rfl (Nat.le_of_ble_eq_true rfl) dX6_order_6 ⟨Nat.zero_le _, Nat.zero_le _⟩ (fun r_6 hw_6 => ?_)
  subst hw_6
  refine qv_zif_eq (tgt := 17) hx hb dX6_order_9 (by decide) (fun c_9 => ?_) (fun c_9 => ?_)
  · rw [if_neg c_9] at hF
    refine lv_aload_n hx hb dX6_order_17 rfl (lv_at hl 0 rfl) ?_
    refine lv_bipush (v := (-10)) hx hb dX6_order_18 (by decide) ?_
    refine qc_Vi (C := RX6) (As := [.int ((-10))]) (rest := []) (ci := 6) (k0 := 0) ⟨hx, hb, hml, hown, hts⟩ (c_X6_bad l dC dI q cI cZ s.heap.size w kp tx td ab be su po st nu li fi ga hh ((-10)) ) (cwV 1 hts gX6_order_X6_bad rfl rfl rfl (by decide +kernel) ⟨Nat.le_of_ble_eq_true rfl, Nat.le_of_ble_eq_true rfl⟩) hK hP hD hS hA rfl rfl rfl rfl hl.1 rfl (Nat.le_of_ble_eq_true rfl) dX6_order_20 ⟨Nat.zero_le _, Nat.zero_le _⟩ (fun r_20 u_20 H locs hw_20 hP hD hS => ?_)
    obtain ⟨su_20, rfl⟩ : ∃ z, z = u_20 := ⟨_, rfl⟩
    have hP : va_P (dC, dI) vwCl (mW q cI cZ w kp tx td ab be su_20 po st nu li fi ga hh) H := hP
    have hD : va_D A (mW q cI cZ w kp tx td ab be su_20 po st nu li fi ga hh) := hD
    rw [hw_20, let2_mk r_20 su_20] at hF
    have hP9 : va_P (dC, dI) vwCl (mW q cI cZ w kp tx td ab be su_20 po st nu li fi ga hh) H := hP
    exact W.iret (v := r_20) hx hb hr (fun t ht hW => ⟨⟨_, ((w, li, fi, su_20)), rfl, hO.symm.trans hF, by rw [ht]; exact hP9, va_K.moved hW.alike hK, hD⟩, hS.F ht⟩) hS.2.2 dX6_order_23
  · rw [if_pos c_9] at hF
    obtain ⟨f_n, fa_n, fb_n⟩ := in_nat (lo := 1) (hi := 8) rfl rfl (by decide) (by decide) c_9
    have e_n := tN_eq f_n
    refine lv_iload_n hx hb dX6_order_12 rfl (lv_at hl 2 rfl) ?_
    refine lv_iconst (v := (-1)) hx hb dX6_order_13 (by decide) ?_
    refine lv_icmp_ge (tgt := 24) hx hb dX6_order_14 (by decide) (fun c_14 => ?_) (fun c_14 => ?_)
    · rw [if_pos c_14] at hF
      refine lv_aload_n hx hb dX6_order_24 rfl (lv_at hl 0 rfl) ?_
      refine va_get (D := (dC, dI)) (ci := 6) (v := .ref (q 1)) (C := RX6) (T := TX6) (N := 14) hx hb hts hin hown hK hP 0 rfl rfl 0 (by decide) lk7 (fun _ h9 => h9) rfl dX6_order_25 ?_
      refine lv_iconst (v := nI 0) hx hb dX6_order_28 (by decide) ?_
      refine qv_ald (v := w 0) hx hb hK hP 1 0 rfl rfl (by omega) (by decide) (rfl) dX6_order_29 ?_
      refine qv_top (e_pB) ?_
      refine qv_if_ne (tgt := 45) hx hb dX6_order_30 (by decide) (by omega) (fun c_30 => ?_) (fun c_30 => ?_)
      · rw [if_neg c_30] at hF
        refine lv_iconst (v := nI 0) hx hb dX6_order_45 (by decide) ?_
        refine lv_istore_n (lv' := [(3, .int (nI 0)), (0, .ref (q 0)), (1, .int n), (2, .int k)]) hx hb dX6_order_46 rfl hl (by decide) rfl (fun ls hl => ?_)
        have L_47 : ∀ (n_47 : Nat) (ev : Nat) (l1 : Nat → Int32) (H : Heap) (locs : List Loc), ev ≤ 6 → (∀ j, j < ev → l1 j = nI j) → 6 - ev < n_47 → va_P (dC, dI) vwCl (mW q cI cZ w kp tx td ab be su po st nu l1 fi ga hh) H → va_D A (mW q cI cZ w kp tx td ab be su po st nu l1 fi ga hh) → va_S A s.heap H locs → ∀ (ls : Array Slot), lv_has ls 7 [(3, .int (nI ev)), (0, .ref (q 0)), (1, .int n), (2, .int k)] → OUT = let2 (F_X6_order_L47 n_47  ev l1) (fun ev l1 => let6 (F_X6_order_L71 722 n w true ((-1)) w ([0, 1, 2, 3, 4, 5]) fi 720) (fun mz ms w1 LL f1 fu => if k = ((-1)) then (ms, w1, (ar LL), f1, su) else (if tN (w 0) ≤ tN k then ((-5), w1, (ar LL), f1, su) else (f1 (tN k), w1, (ar LL), f1, su)))) → W p l e (headSpec wsX6_order { frames := 8, cells := 0, slots := 0, locals := 182 }).room s m ([.ref (q 0), .int n, .int k] : List Value).toArray below meth c H locs 0 0 (MQ below (va_Qi (fun (r : Int32) (u : (Nat → Int32) × (Nat → Int32) × (Nat → Int32) × (Nat → Int32)) => F_X6_order w su li fi n k = (r, u)) (mB (dC, dI) vwCl (mT cI cZ) A (fun u => mW q cI cZ u.1 kp tx td ab be u.2.2.2 po st nu u.2.1 u.2.2.1 ga hh)) A) ([.ref (q 0), .int n, .int k] : List Value).toArray s 0 0 A) (F0 m 47 ls []) := by
          intro n_47
          induction n_47 with
          | zero => intro ev l1 H locs o0 o1 hmu; exact absurd hmu (Nat.not_lt_zero _)
          | succ n_47 ih_47 =>
            intro ev l1 H locs o0 o1 hmu_47 hP hD hS ls hl hF
            rw [F_X6_order_L47] at hF
            refine lv_iload_n hx hb dX6_order_47 rfl (lv_at hl 0 rfl) ?_
            refine lv_bipush (v := nI 6) hx hb dX6_order_48 (by decide) ?_
            refine qv_icmp_ge (tgt := 66) hx hb dX6_order_50 (by decide) (by omega) (by omega) (fun c_50 => ?_) (fun c_50 => ?_)
            · rw [if_pos c_50] at hF
              rw [let2_mk (ev : Nat) (l1 : Nat → Int32)] at hF
              have x_66 := mW_li hP hD (idl_ar (by omega) o1)
              have hP := x_66.1
              have hD := x_66.2
              refine lv_iconst (v := (-1)) hx hb dX6_order_66 (by decide) ?_
              refine lv_istore_n (lv' := [(3, .int ((-1))), (0, .ref (q 0)), (1, .int n), (2, .int k)]) hx hb dX6_order_67 rfl hl (by decide) rfl (fun ls hl => ?_)
              refine lv_iconst (v := nI 1) hx hb dX6_order_68 (by decide) ?_
              refine lv_istore (lv' := [(4, .int (nI 1)), (3, .int ((-1))), (0, .ref (q 0)), (1, .int n), (2, .int k)]) hx hb dX6_order_69 hl (by decide) rfl (fun ls hl => ?_)
              have L_71 : ∀ (n_71 : Nat) (mz : Bool) (ms : Int32) (w1 : Nat → Int32) (LL : List Nat) (f1 : Nat → Int32) (fu : Nat) (H : Heap) (locs : List Loc), (∀ j, j < 6 → inB (ar LL j) 5) → (mz = true → rmn (tN (w 0)) fu LL = true) → w1 0 = w 0 → orM mz fu < n_71 → va_P (dC, dI) vwCl (mW q cI cZ w1 kp tx td ab be su po st nu (ar LL) f1 ga hh) H → va_D A (mW q cI cZ w1 kp tx td ab be su po st nu (ar LL) f1 ga hh) → va_S A s.heap H locs → ∀ (ls : Array Slot), lv_has ls 7 [(4, .int (if mz = true then 1 else 0)), (3, .int ms), (0, .ref (q 0)), (1, .int n), (2, .int k)] → OUT = let6 (F_X6_order_L71 n_71 n w mz ms w1 LL f1 fu) (fun mz ms w1 LL f1 fu => if k = ((-1)) then (ms, w1, (ar LL), f1, su) else (if tN (w 0) ≤ tN k then ((-5), w1, (ar LL), f1, su) else (f1 (tN k), w1, (ar LL), f1, su))) → W p l e (headSpec wsX6_order { frames := 8, cells := 0, slots := 0, locals := 182 }).room s m ([.ref (q 0), .int n, .int k] : List Value).toArray below meth c H locs 0 0 (MQ below (va_Qi (fun (r : Int32) (u : (Nat → Int32) × (Nat → Int32) × (Nat → Int32) × (Nat → Int32)) => F_X6_order w su li fi n k = (r, u)) (mB (dC, dI) vwCl (mT cI cZ) A (fun u => mW q cI cZ u.1 kp tx td ab be u.2.2.2 po st nu u.2.1 u.2.2.1 ga hh)) A) ([.ref (q 0), .int n, .int k] : List Value).toArray s 0 0 A) (F0 m 71 ls []) := by
                intro n_71
                induction n_71 with
                | zero => intro mz ms w1 LL f1 fu H locs p0 p1 p2 hmu; exact absurd hmu (Nat.not_lt_zero _)
                | succ n_71 ih_71 =>
                  intro mz ms w1 LL f1 fu H locs p0 p1 p2 hmu_71 hP hD hS ls hl hF
                  rw [F_X6_order_L71] at hF
                  refine lv_iload hx hb dX6_order_71 (lv_at hl 0 rfl) ?_
                  refine qv_zif_eq (tgt := 147) hx hb dX6_order_73 (by decide) (fun c_73 => ?_) (fun c_73 => ?_)
                  · rw [if_neg c_73] at hF
                    rw [let6_mk (mz : Bool) (ms : Int32) (w1 : Nat → Int32) (LL : List Nat) (f1 : Nat → Int32) (fu : Nat)] at hF
                    refine lv_iload_n hx hb dX6_order_147 rfl (lv_at hl 4 rfl) ?_
                    refine lv_iconst (v := (-1)) hx hb dX6_order_148 (by decide) ?_
                    refine lv_icmp_ne (tgt := 156) hx hb dX6_order_149 (by decide) (fun c_149 => ?_) (fun c_149 => ?_)
                    · rw [if_neg c_149] at hF
                      have f_k := ge_m1 c_14 c_149
                      have e_k := tN_eq f_k
                      have l_k := tN_lt k
                      refine lv_iload_n hx hb dX6_order_156 rfl (lv_at hl 4 rfl) ?_
                      refine qv_top (e_k) ?_
                      refine lv_aload_n hx hb dX6_order_157 rfl (lv_at hl 2 rfl) ?_
                      refine va_get (D := (dC, dI)) (ci := 6) (v := .ref (q 1)) (C := RX6) (T := TX6) (N := 14) hx hb hts hin hown hK hP 0 rfl rfl 0 (by decide) lk7 (fun _ h9 => h9) rfl dX6_order_158 ?_
                      refine lv_iconst (v := nI 0) hx hb dX6_order_161 (by decide) ?_
                      refine qv_ald (v := w1 0) hx hb hK hP 1 0 rfl rfl (by omega) (by decide) (rfl) dX6_order_162 ?_
                      refine qv_top (p2.trans (e_pB)) ?_
                      refine qv_icmp_ge (tgt := 175) hx hb dX6_order_163 (by decide) (by omega) (by omega) (fun c_163 => ?_) (fun c_163 => ?_)
                      · rw [if_pos c_163] at hF
                        refine lv_bipush (v := (-5)) hx hb dX6_order_175 (by decide) ?_
                        have hP9 : va_P (dC, dI) vwCl (mW q cI cZ w1 kp tx td ab be su po st nu (ar LL) f1 ga hh) H := hP
                        exact W.iret (v := (-5)) hx hb hr (fun t ht hW => ⟨⟨_, ((w1, ar LL, f1, su)), rfl, hO.symm.trans hF, by rw [ht]; exact hP9, va_K.moved hW.alike hK, hD⟩, hS.F ht⟩) hS.2.2 dX6_order_177
                      · rw [if_neg c_163] at hF
                        refine lv_aload_n hx hb dX6_order_166 rfl (lv_at hl 2 rfl) ?_
                        refine va_get (D := (dC, dI)) (ci := 6) (v := .ref (q 6)) (C := RX6) (T := TX6) (N := 14) hx hb hts hin hown hK hP 0 rfl rfl 11 (by decide) lk33 (fun _ h9 => h9) rfl dX6_order_167 ?_
                        refine lv_iload_n hx hb dX6_order_170 rfl (lv_at hl 4 rfl) ?_
                        refine qv_top (e_k) ?_
                        refine qv_ald (v := f1 (tN k)) hx hb hK hP 6 0 rfl rfl (by omega) (by decide) (rfl) dX6_order_171 ?_
                        refine lv_goto (tgt := 177) hx hb dX6_order_172 (by decide) ?_
                        have hP9 : va_P (dC, dI) vwCl (mW q cI cZ w1 kp tx td ab be su po st nu (ar LL) f1 ga hh) H := hP
                        exact W.iret (v := f1 (tN k)) hx hb hr (fun t ht hW => ⟨⟨_, ((w1, ar LL, f1, su)), rfl, hO.symm.trans hF, by rw [ht]; exact hP9, va_K.moved hW.alike hK, hD⟩, hS.F ht⟩) hS.2.2 dX6_order_177
                    · rw [if_pos c_149] at hF
                      refine lv_iload_n hx hb dX6_order_152 rfl (lv_at hl 1 rfl) ?_
                      refine lv_goto (tgt := 177) hx hb dX6_order_153 (by decide) ?_
                      have hP9 : va_P (dC, dI) vwCl (mW q cI cZ w1 kp tx td ab be su po st nu (ar LL) f1 ga hh) H := hP
                      exact W.iret (v := ms) hx hb hr (fun t ht hW => ⟨⟨_, ((w1, ar LL, f1, su)), rfl, hO.symm.trans hF, by rw [ht]; exact hP9, va_K.moved hW.alike hK, hD⟩, hS.F ht⟩) hS.2.2 dX6_order_177
                  · rw [if_pos c_73] at hF
                    refine lv_aload_n hx hb dX6_order_76 rfl (lv_at hl 2 rfl) ?_
                    refine lv_iload_n hx hb dX6_order_77 rfl (lv_at hl 3 rfl) ?_
                    refine qv_top (e_n) ?_
                    refine qc_Vi (C := RX6) (As := [.int (nI (tN n))]) (rest := []) (ci := 6) (k0 := 0) ⟨hx, hb, hml, hown, hts⟩ (c_X6_scoreInLine l dC dI q cI cZ H.size w1 kp tx td ab be su po st nu (ar LL) f1 ga hh (tN n) (by omega) (by rw [p2]; exact pB : inB (w1 0) 6) p0) (cwV 1 hts gX6_order_X6_scoreInLine rfl rfl rfl (by decide +kernel) ⟨Nat.le_of_ble_eq_true rfl, Nat.le_of_ble_eq_true rfl⟩) hK hP hD hS hA rfl rfl rfl rfl hl.1 rfl (Nat.le_of_ble_eq_true rfl) dX6_order_78 ⟨Nat.zero_le _, Nat.zero_le _⟩ (fun r_78 u_78 H locs hw_78 hP hD hS => ?_)
                    obtain ⟨w_78, rfl⟩ : ∃ z, z = u_78 := ⟨_, rfl⟩
                    have hP : va_P (dC, dI) vwCl (mW q cI cZ w_78 kp tx td ab be su po st nu (ar LL) f1 ga hh) H := hP
                    have hD : va_D A (mW q cI cZ w_78 kp tx td ab be su po st nu (ar LL) f1 ga hh) := hD
                    have a_78 := scoreInLine_at hw_78 (by rw [p2]; exact pB : inB (w1 0) 6)
                    have v_78 : w_78 0 = w1 0 := a_78.1 0 (by decide)
                    have e_78 := tN_eq a_78.2.1
                    have b_78 := a_78.2.2
                    refine qv_top (e_78) ?_
                    rw [hw_78, let2_mk r_78 w_78] at hF
                    refine lv_istore (lv' := [(5, .int (nI (tN r_78))), (4, .int (if mz = true then 1 else 0)), (3, .int ms), (0, .ref (q 0)), (1, .int n), (2, .int k)]) hx hb dX6_order_81 hl (by decide) rfl (fun ls hl => ?_)
                    refine lv_iconst (v := nI 0) hx hb dX6_order_83 (by decide) ?_
                    refine lv_istore (lv' := [(6, .int (nI 0)), (5, .int (nI (tN r_78))), (4, .int (if mz = true then 1 else 0)), (3, .int ms), (0, .ref (q 0)), (1, .int n), (2, .int k)]) hx hb dX6_order_84 hl (by decide) rfl (fun ls hl => ?_)
                    have L_86 : ∀ (n_86 : Nat) (e2 : Nat) (f2 : Nat → Int32) (H : Heap) (locs : List Loc), e2 ≤ 6 → 6 - e2 < n_86 → va_P (dC, dI) vwCl (mW q cI cZ w_78 kp tx td ab be su po st nu (ar LL) f2 ga hh) H → va_D A (mW q cI cZ w_78 kp tx td ab be su po st nu (ar LL) f2 ga hh) → va_S A s.heap H locs → ∀ (ls : Array Slot), lv_has ls 7 [(6, .int (nI e2)), (5, .int (nI (tN r_78))), (4, .int (if mz = true then 1 else 0)), (3, .int ms), (0, .ref (q 0)), (1, .int n), (2, .int k)] → OUT = let6 (let2 (F_X6_order_L86 n_86 ms LL r_78 e2 f2) (fun e2 f2 => if (nI (tN r_78)) ≤ ms then let2 (F_X6_nextLine (ar LL) (tN (w 0))) (fun z_139 li_139 => F_X6_order_L71 n_71 n w z_139 ms w_78 ((nrm li_139)) f2 ((fu - 1))) else let2 (F_X6_nextLine (ar LL) (tN (w 0))) (fun z_139 li_139 => F_X6_order_L71 n_71 n w z_139 (nI (tN r_78)) w_78 ((nrm li_139)) f2 ((fu - 1))))) (fun mz ms w1 LL f1 fu => if k = ((-1)) then (ms, w1, (ar LL), f1, su) else (if tN (w 0) ≤ tN k then ((-5), w1, (ar LL), f1, su) else (f1 (tN k), w1, (ar LL), f1, su))) → W p l e (headSpec wsX6_order { frames := 8, cells := 0, slots := 0, locals := 182 }).room s m ([.ref (q 0), .int n, .int k] : List Value).toArray below meth c H locs 0 0 (MQ below (va_Qi (fun (r : Int32) (u : (Nat → Int32) × (Nat → Int32) × (Nat → Int32) × (Nat → Int32)) => F_X6_order w su li fi n k = (r, u)) (mB (dC, dI) vwCl (mT cI cZ) A (fun u => mW q cI cZ u.1 kp tx td ab be u.2.2.2 po st nu u.2.1 u.2.2.1 ga hh)) A) ([.ref (q 0), .int n, .int k] : List Value).toArray s 0 0 A) (F0 m 86 ls []) := by
                      intro n_86
                      induction n_86 with
                      | zero => intro e2 f2 H locs q0 hmu; exact absurd hmu (Nat.not_lt_zero _)
                      | succ n_86 ih_86 =>
                        intro e2 f2 H locs q0 hmu_86 hP hD hS ls hl hF
                        rw [F_X6_order_L86] at hF
                        refine lv_iload hx hb dX6_order_86 (lv_at hl 0 rfl) ?_
                        refine lv_bipush (v := nI 6) hx hb dX6_order_88 (by decide) ?_
                        refine qv_icmp_ge (tgt := 119) hx hb dX6_order_90 (by decide) (by omega) (by omega) (fun c_90 => ?_) (fun c_90 => ?_)
                        · rw [if_pos c_90] at hF
                          rw [let2_mk (e2 : Nat) (f2 : Nat → Int32)] at hF
                          refine lv_iload hx hb dX6_order_119 (lv_at hl 1 rfl) ?_
                          refine lv_iload_n hx hb dX6_order_121 rfl (lv_at hl 3 rfl) ?_
                          refine lv_icmp_le (tgt := 130) hx hb dX6_order_122 (by decide) (fun c_122 => ?_) (fun c_122 => ?_)
                          · rw [if_pos c_122] at hF
                            refine lv_iload_n hx hb dX6_order_130 rfl (lv_at hl 3 rfl) ?_
                            refine lv_istore_n (lv' := [(3, .int ms), (6, .int (nI e2)), (5, .int (nI (tN r_78))), (4, .int (if mz = true then 1 else 0)), (0, .ref (q 0)), (1, .int n), (2, .int k)]) hx hb dX6_order_131 rfl hl (by decide) rfl (fun ls hl => ?_)
                            refine lv_aload_n hx hb dX6_order_132 rfl (lv_at hl 4 rfl) ?_
                            refine lv_aload_n hx hb dX6_order_133 rfl (lv_at hl 4 rfl) ?_
                            refine va_get (D := (dC, dI)) (ci := 6) (v := .ref (q 1)) (C := RX6) (T := TX6) (N := 14) hx hb hts hin hown hK hP 0 rfl rfl 0 (by decide) lk7 (fun _ h9 => h9) rfl dX6_order_134 ?_
                            refine lv_iconst (v := nI 0) hx hb dX6_order_137 (by decide) ?_
                            refine qv_ald (v := w1 0) hx hb hK hP 1 0 rfl rfl (by omega) (by decide) (v_78) dX6_order_138 ?_
                            refine qv_top (p2.trans (e_pB)) ?_
                            refine qc_Vi (C := RX6) (As := [.int (nI (tN (w 0)))]) (rest := []) (ci := 6) (k0 := 0) ⟨hx, hb, hml, hown, hts⟩ (c_X6_nextLine l dC dI q cI cZ H.size w_78 kp tx td ab be su po st nu (ar LL) f2 ga hh (tN (w 0)) (by omega) (by omega)) (cwV 1 hts gX6_order_X6_nextLine rfl rfl rfl (by decide +kernel) ⟨Nat.le_of_ble_eq_true rfl, Nat.le_of_ble_eq_true rfl⟩) hK hP hD hS hA rfl rfl rfl rfl hl.1 rfl (Nat.le_of_ble_eq_true rfl) dX6_order_139 ⟨Nat.zero_le _, Nat.zero_le _⟩ (fun r_139 u_139 H locs hw_139 hP hD hS => ?_)
                            obtain ⟨li_139, rfl⟩ : ∃ z, z = u_139 := ⟨_, rfl⟩
                            have hP : va_P (dC, dI) vwCl (mW q cI cZ w_78 kp tx td ab be su po st nu li_139 f2 ga hh) H := hP
                            have hD : va_D A (mW q cI cZ w_78 kp tx td ab be su po st nu li_139 f2 ga hh) := hD
                            obtain ⟨z_139, hw_139, rfl⟩ := hw_139
                            have y_139 := nextLine_in (P := fun x => inB x 5) hw_139 (by omega) p0
                            have s_139 := rmn_step hw_139 (p1 c_73)
                            have x_139 := mW_li hP hD (ar_nrm y_139)
                            have hP := x_139.1
                            have hD := x_139.2
                            rw [hw_139, let2_mk z_139 li_139] at hF
                            refine lv_istore (lv' := [(4, .int (if z_139 = true then 1 else 0)), (3, .int ms), (6, .int (nI e2)), (5, .int (nI (tN r_78))), (0, .ref (q 0)), (1, .int n), (2, .int k)]) hx hb dX6_order_142 hl (by decide) rfl (fun ls hl => ?_)
                            refine lv_goto (tgt := 71) hx hb dX6_order_144 (by decide) ?_
                            exact ih_71 z_139 ms w_78 ((nrm li_139)) f2 ((fu - 1)) H locs (fun j hj => by rw [← ar_nrm y_139 j hj]; exact y_139 j hj) s_139.2 ((v_78).trans p2) (by unfold orM at hmu_71 ⊢; rw [if_pos c_73] at hmu_71; have := s_139.1; split <;> omega) hP hD hS ls (lv_sub hl [0, 1, 4, 5, 6] rfl) hF
                          · rw [if_neg c_122] at hF
                            refine lv_iload hx hb dX6_order_125 (lv_at hl 1 rfl) ?_
                            refine lv_goto (tgt := 131) hx hb dX6_order_127 (by decide) ?_
                            refine lv_istore_n (lv' := [(3, .int (nI (tN r_78))), (6, .int (nI e2)), (5, .int (nI (tN r_78))), (4, .int (if mz = true then 1 else 0)), (0, .ref (q 0)), (1, .int n), (2, .int k)]) hx hb dX6_order_131 rfl hl (by decide) rfl (fun ls hl => ?_)
                            refine lv_aload_n hx hb dX6_order_132 rfl (lv_at hl 4 rfl) ?_
                            refine lv_aload_n hx hb dX6_order_133 rfl (lv_at hl 4 rfl) ?_
                            refine va_get (D := (dC, dI)) (ci := 6) (v := .ref (q 1)) (C := RX6) (T := TX6) (N := 14) hx hb hts hin hown hK hP 0 rfl rfl 0 (by decide) lk7 (fun _ h9 => h9) rfl dX6_order_134 ?_
                            refine lv_iconst (v := nI 0) hx hb dX6_order_137 (by decide) ?_
                            refine qv_ald (v := w1 0) hx hb hK hP 1 0 rfl rfl (by omega) (by decide) (v_78) dX6_order_138 ?_
                            refine qv_top (p2.trans (e_pB)) ?_
                            refine qc_Vi (C := RX6) (As := [.int (nI (tN (w 0)))]) (rest := []) (ci := 6) (k0 := 0) ⟨hx, hb, hml, hown, hts⟩ (c_X6_nextLine l dC dI q cI cZ H.size w_78 kp tx td ab be su po st nu (ar LL) f2 ga hh (tN (w 0)) (by omega) (by omega)) (cwV 1 hts gX6_order_X6_nextLine rfl rfl rfl (by decide +kernel) ⟨Nat.le_of_ble_eq_true rfl, Nat.le_of_ble_eq_true rfl⟩) hK hP hD hS hA rfl rfl rfl rfl hl.1 rfl (Nat.le_of_ble_eq_true rfl) dX6_order_139 ⟨Nat.zero_le _, Nat.zero_le _⟩ (fun r_139 u_139 H locs hw_139 hP hD hS => ?_)
                            obtain ⟨li_139, rfl⟩ : ∃ z, z = u_139 := ⟨_, rfl⟩
                            have hP : va_P (dC, dI) vwCl (mW q cI cZ w_78 kp tx td ab be su po st nu li_139 f2 ga hh) H := hP
                            have hD : va_D A (mW q cI cZ w_78 kp tx td ab be su po st nu li_139 f2 ga hh) := hD
                            obtain ⟨z_139, hw_139, rfl⟩ := hw_139
                            have y_139 := nextLine_in (P := fun x => inB x 5) hw_139 (by omega) p0
                            have s_139 := rmn_step hw_139 (p1 c_73)
                            have x_139 := mW_li hP hD (ar_nrm y_139)
                            have hP := x_139.1
                            have hD := x_139.2
                            rw [hw_139, let2_mk z_139 li_139] at hF
                            refine lv_istore (lv' := [(4, .int (if z_139 = true then 1 else 0)), (3, .int (nI (tN r_78))), (6, .int (nI e2)), (5, .int (nI (tN r_78))), (0, .ref (q 0)), (1, .int n), (2, .int k)]) hx hb dX6_order_142 hl (by decide) rfl (fun ls hl => ?_)
                            refine lv_goto (tgt := 71) hx hb dX6_order_144 (by decide) ?_
                            exact ih_71 z_139 (nI (tN r_78)) w_78 ((nrm li_139)) f2 ((fu - 1)) H locs (fun j hj => by rw [← ar_nrm y_139 j hj]; exact y_139 j hj) s_139.2 ((v_78).trans p2) (by unfold orM at hmu_71 ⊢; rw [if_pos c_73] at hmu_71; have := s_139.1; split <;> omega) hP hD hS ls (lv_sub hl [0, 1, 4, 5, 6] rfl) hF
                        · rw [if_neg c_90] at hF
                          refine lv_iload hx hb dX6_order_93 (lv_at hl 1 rfl) ?_
                          refine lv_iload_n hx hb dX6_order_95 rfl (lv_at hl 3 rfl) ?_
                          refine lv_icmp_le (tgt := 119) hx hb dX6_order_96 (by decide) (fun c_96 => ?_) (fun c_96 => ?_)
                          · rw [if_pos c_96] at hF
                            rw [let2_mk (e2 : Nat) (f2 : Nat → Int32)] at hF
                            refine lv_iload hx hb dX6_order_119 (lv_at hl 1 rfl) ?_
                            refine lv_iload_n hx hb dX6_order_121 rfl (lv_at hl 3 rfl) ?_
                            refine lv_icmp_le (tgt := 130) hx hb dX6_order_122 (by decide) (fun c_122 => ?_) (fun c_122 => ?_)
                            · rw [if_pos c_122] at hF
                              refine lv_iload_n hx hb dX6_order_130 rfl (lv_at hl 3 rfl) ?_
                              refine lv_istore_n (lv' := [(3, .int ms), (6, .int (nI e2)), (5, .int (nI (tN r_78))), (4, .int (if mz = true then 1 else 0)), (0, .ref (q 0)), (1, .int n), (2, .int k)]) hx hb dX6_order_131 rfl hl (by decide) rfl (fun ls hl => ?_)
                              refine lv_aload_n hx hb dX6_order_132 rfl (lv_at hl 4 rfl) ?_
                              refine lv_aload_n hx hb dX6_order_133 rfl (lv_at hl 4 rfl) ?_
                              refine va_get (D := (dC, dI)) (ci := 6) (v := .ref (q 1)) (C := RX6) (T := TX6) (N := 14) hx hb hts hin hown hK hP 0 rfl rfl 0 (by decide) lk7 (fun _ h9 => h9) rfl dX6_order_134 ?_
                              refine lv_iconst (v := nI 0) hx hb dX6_order_137 (by decide) ?_
                              refine qv_ald (v := w1 0) hx hb hK hP 1 0 rfl rfl (by omega) (by decide) (v_78) dX6_order_138 ?_
                              refine qv_top (p2.trans (e_pB)) ?_
                              refine qc_Vi (C := RX6) (As := [.int (nI (tN (w 0)))]) (rest := []) (ci := 6) (k0 := 0) ⟨hx, hb, hml, hown, hts⟩ (c_X6_nextLine l dC dI q cI cZ H.size w_78 kp tx td ab be su po st nu (ar LL) f2 ga hh (tN (w 0)) (by omega) (by omega)) (cwV 1 hts gX6_order_X6_nextLine rfl rfl rfl (by decide +kernel) ⟨Nat.le_of_ble_eq_true rfl, Nat.le_of_ble_eq_true rfl⟩) hK hP hD hS hA rfl rfl rfl rfl hl.1 rfl (Nat.le_of_ble_eq_true rfl) dX6_order_139 ⟨Nat.zero_le _, Nat.zero_le _⟩ (fun r_139 u_139 H locs hw_139 hP hD hS => ?_)
                              obtain ⟨li_139, rfl⟩ : ∃ z, z = u_139 := ⟨_, rfl⟩
                              have hP : va_P (dC, dI) vwCl (mW q cI cZ w_78 kp tx td ab be su po st nu li_139 f2 ga hh) H := hP
                              have hD : va_D A (mW q cI cZ w_78 kp tx td ab be su po st nu li_139 f2 ga hh) := hD
                              obtain ⟨z_139, hw_139, rfl⟩ := hw_139
                              have y_139 := nextLine_in (P := fun x => inB x 5) hw_139 (by omega) p0
                              have s_139 := rmn_step hw_139 (p1 c_73)
                              have x_139 := mW_li hP hD (ar_nrm y_139)
                              have hP := x_139.1
                              have hD := x_139.2
                              rw [hw_139, let2_mk z_139 li_139] at hF
                              refine lv_istore (lv' := [(4, .int (if z_139 = true then 1 else 0)), (3, .int ms), (6, .int (nI e2)), (5, .int (nI (tN r_78))), (0, .ref (q 0)), (1, .int n), (2, .int k)]) hx hb dX6_order_142 hl (by decide) rfl (fun ls hl => ?_)
                              refine lv_goto (tgt := 71) hx hb dX6_order_144 (by decide) ?_
                              exact ih_71 z_139 ms w_78 ((nrm li_139)) f2 ((fu - 1)) H locs (fun j hj => by rw [← ar_nrm y_139 j hj]; exact y_139 j hj) s_139.2 ((v_78).trans p2) (by unfold orM at hmu_71 ⊢; rw [if_pos c_73] at hmu_71; have := s_139.1; split <;> omega) hP hD hS ls (lv_sub hl [0, 1, 4, 5, 6] rfl) hF
                            · rw [if_neg c_122] at hF
                              refine lv_iload hx hb dX6_order_125 (lv_at hl 1 rfl) ?_
                              refine lv_goto (tgt := 131) hx hb dX6_order_127 (by decide) ?_
                              refine lv_istore_n (lv' := [(3, .int (nI (tN r_78))), (6, .int (nI e2)), (5, .int (nI (tN r_78))), (4, .int (if mz = true then 1 else 0)), (0, .ref (q 0)), (1, .int n), (2, .int k)]) hx hb dX6_order_131 rfl hl (by decide) rfl (fun ls hl => ?_)
                              refine lv_aload_n hx hb dX6_order_132 rfl (lv_at hl 4 rfl) ?_
                              refine lv_aload_n hx hb dX6_order_133 rfl (lv_at hl 4 rfl) ?_
                              refine va_get (D := (dC, dI)) (ci := 6) (v := .ref (q 1)) (C := RX6) (T := TX6) (N := 14) hx hb hts hin hown hK hP 0 rfl rfl 0 (by decide) lk7 (fun _ h9 => h9) rfl dX6_order_134 ?_
                              refine lv_iconst (v := nI 0) hx hb dX6_order_137 (by decide) ?_
                              refine qv_ald (v := w1 0) hx hb hK hP 1 0 rfl rfl (by omega) (by decide) (v_78) dX6_order_138 ?_
                              refine qv_top (p2.trans (e_pB)) ?_
                              refine qc_Vi (C := RX6) (As := [.int (nI (tN (w 0)))]) (rest := []) (ci := 6) (k0 := 0) ⟨hx, hb, hml, hown, hts⟩ (c_X6_nextLine l dC dI q cI cZ H.size w_78 kp tx td ab be su po st nu (ar LL) f2 ga hh (tN (w 0)) (by omega) (by omega)) (cwV 1 hts gX6_order_X6_nextLine rfl rfl rfl (by decide +kernel) ⟨Nat.le_of_ble_eq_true rfl, Nat.le_of_ble_eq_true rfl⟩) hK hP hD hS hA rfl rfl rfl rfl hl.1 rfl (Nat.le_of_ble_eq_true rfl) dX6_order_139 ⟨Nat.zero_le _, Nat.zero_le _⟩ (fun r_139 u_139 H locs hw_139 hP hD hS => ?_)
                              obtain ⟨li_139, rfl⟩ : ∃ z, z = u_139 := ⟨_, rfl⟩
                              have hP : va_P (dC, dI) vwCl (mW q cI cZ w_78 kp tx td ab be su po st nu li_139 f2 ga hh) H := hP
                              have hD : va_D A (mW q cI cZ w_78 kp tx td ab be su po st nu li_139 f2 ga hh) := hD
                              obtain ⟨z_139, hw_139, rfl⟩ := hw_139
                              have y_139 := nextLine_in (P := fun x => inB x 5) hw_139 (by omega) p0
                              have s_139 := rmn_step hw_139 (p1 c_73)
                              have x_139 := mW_li hP hD (ar_nrm y_139)
                              have hP := x_139.1
                              have hD := x_139.2
                              rw [hw_139, let2_mk z_139 li_139] at hF
                              refine lv_istore (lv' := [(4, .int (if z_139 = true then 1 else 0)), (3, .int (nI (tN r_78))), (6, .int (nI e2)), (5, .int (nI (tN r_78))), (0, .ref (q 0)), (1, .int n), (2, .int k)]) hx hb dX6_order_142 hl (by decide) rfl (fun ls hl => ?_)
                              refine lv_goto (tgt := 71) hx hb dX6_order_144 (by decide) ?_
                              exact ih_71 z_139 (nI (tN r_78)) w_78 ((nrm li_139)) f2 ((fu - 1)) H locs (fun j hj => by rw [← ar_nrm y_139 j hj]; exact y_139 j hj) s_139.2 ((v_78).trans p2) (by unfold orM at hmu_71 ⊢; rw [if_pos c_73] at hmu_71; have := s_139.1; split <;> omega) hP hD hS ls (lv_sub hl [0, 1, 4, 5, 6] rfl) hF
                          · rw [if_neg c_96] at hF
                            refine lv_aload_n hx hb dX6_order_99 rfl (lv_at hl 4 rfl) ?_
                            refine va_get (D := (dC, dI)) (ci := 6) (v := .ref (q 6)) (C := RX6) (T := TX6) (N := 14) hx hb hts hin hown hK hP 0 rfl rfl 11 (by decide) lk33 (fun _ h9 => h9) rfl dX6_order_100 ?_
                            refine lv_iload hx hb dX6_order_103 (lv_at hl 0 rfl) ?_
                            refine lv_aload_n hx hb dX6_order_105 rfl (lv_at hl 4 rfl) ?_
                            refine va_get (D := (dC, dI)) (ci := 6) (v := .ref (q 5)) (C := RX6) (T := TX6) (N := 14) hx hb hts hin hown hK hP 0 rfl rfl 10 (by decide) lk30 (fun _ h9 => h9) rfl dX6_order_106 ?_
                            refine lv_iload hx hb dX6_order_109 (lv_at hl 0 rfl) ?_
                            refine qv_ald (v := (ar LL) e2) hx hb hK hP 5 0 rfl rfl (by omega) (by decide) (rfl) dX6_order_111 ?_
                            refine qv_ast (ws' := mW q cI cZ w_78 kp tx td ab be su po st nu (ar LL) (upd f2 e2 ((ar LL) e2)) ga hh) hx hb hK hP hD hS 6 0 rfl rfl (by omega) (by decide) dX6_order_112 rfl (fun H locs hP hD hS => ?_)
                            refine lv_iinc (v := nI (e2 + 1)) (lv' := [(6, .int (nI (e2 + 1))), (5, .int (nI (tN r_78))), (4, .int (if mz = true then 1 else 0)), (3, .int ms), (0, .ref (q 0)), (1, .int n), (2, .int k)]) hx hb dX6_order_113 hl (k := 0) rfl (qn_inc (c := 1) rfl (by omega)) (by decide) rfl (fun ls hl => ?_)
                            refine lv_goto (tgt := 86) hx hb dX6_order_116 (by decide) ?_
                            exact ih_86 (e2 + 1) (upd f2 e2 ((ar LL) e2)) H locs (by omega) (by omega) hP hD hS ls (lv_sub hl [0, 1, 2, 3, 4, 5, 6] rfl) hF
                    exact L_86 7 0 f1 H locs (by omega) (by omega) hP hD hS ls (lv_sub hl [0, 1, 2, 3, 4, 5, 6] rfl) hF
              exact L_71 722 true ((-1)) w ([0, 1, 2, 3, 4, 5]) fi 720 H locs idp (fun _ => rmn_ok (by omega) (by omega)) rfl (by unfold orM; rw [if_pos rfl]; omega) hP hD hS ls (lv_sub hl [0, 1, 2, 3, 4] rfl) hF
            · rw [if_neg c_50] at hF
              refine lv_aload_n hx hb dX6_order_53 rfl (lv_at hl 1 rfl) ?_
              refine va_get (D := (dC, dI)) (ci := 6) (v := .ref (q 5)) (C := RX6) (T := TX6) (N := 14) hx hb hts hin hown hK hP 0 rfl rfl 10 (by decide) lk30 (fun _ h9 => h9) rfl dX6_order_54 ?_
              refine lv_iload_n hx hb dX6_order_57 rfl (lv_at hl 0 rfl) ?_
              refine lv_iload_n hx hb dX6_order_58 rfl (lv_at hl 0 rfl) ?_
              refine qv_ast (ws' := mW q cI cZ w kp tx td ab be su po st nu (upd l1 ev (nI ev)) fi ga hh) hx hb hK hP hD hS 5 0 rfl rfl (by omega) (by decide) dX6_order_59 rfl (fun H locs hP hD hS => ?_)
              refine lv_iinc (v := nI (ev + 1)) (lv' := [(3, .int (nI (ev + 1))), (0, .ref (q 0)), (1, .int n), (2, .int k)]) hx hb dX6_order_60 hl (k := 0) rfl (qn_inc (c := 1) rfl (by omega)) (by decide) rfl (fun ls hl => ?_)
              refine lv_goto (tgt := 47) hx hb dX6_order_63 (by decide) ?_
              exact ih_47 (ev + 1) (upd l1 ev (nI ev)) H locs (by omega) (idl_step o1) (by omega) hP hD hS ls (lv_sub hl [0, 1, 2, 3] rfl) hF
        exact L_47 7 0 li s.heap [] (by omega) (fun j hj => absurd hj (Nat.not_lt_zero _)) (by omega) hP hD hS ls (lv_sub hl [0, 1, 2, 3] rfl) hF
      · rw [if_pos c_30] at hF
        refine lv_iload_n hx hb dX6_order_33 rfl (lv_at hl 2 rfl) ?_
        refine lv_iconst (v := (-1)) hx hb dX6_order_34 (by decide) ?_
        refine lv_icmp_ne (tgt := 42) hx hb dX6_order_35 (by decide) (fun c_35 => ?_) (fun c_35 => ?_)
        · rw [if_neg c_35] at hF
          refine lv_bipush (v := (-5)) hx hb dX6_order_42 (by decide) ?_
          have hP9 : va_P (dC, dI) vwCl (mW q cI cZ w kp tx td ab be su po st nu li fi ga hh) s.heap := hP
          exact W.iret (v := (-5)) hx hb hr (fun t ht hW => ⟨⟨_, ((w, li, fi, su)), rfl, hO.symm.trans hF, by rw [ht]; exact hP9, va_K.moved hW.alike hK, hD⟩, hS.F ht⟩) hS.2.2 dX6_order_44
        · rw [if_pos c_35] at hF
          refine lv_iconst (v := nI 0) hx hb dX6_order_38 (by decide) ?_
          refine lv_goto (tgt := 44) hx hb dX6_order_39 (by decide) ?_
          have hP9 : va_P (dC, dI) vwCl (mW q cI cZ w kp tx td ab be su po st nu li fi ga hh) s.heap := hP
          exact W.iret (v := nI 0) hx hb hr (fun t ht hW => ⟨⟨_, ((w, li, fi, su)), rfl, hO.symm.trans hF, by rw [ht]; exact hP9, va_K.moved hW.alike hK, hD⟩, hS.F ht⟩) hS.2.2 dX6_order_44
    · rw [if_neg c_14] at hF
      refine lv_aload_n hx hb dX6_order_17 rfl (lv_at hl 0 rfl) ?_
      refine lv_bipush (v := (-10)) hx hb dX6_order_18 (by decide) ?_
      refine qc_Vi (C := RX6) (As := [.int ((-10))]) (rest := []) (ci := 6) (k0 := 0) ⟨hx, hb, hml, hown, hts⟩ (c_X6_bad l dC dI q cI cZ s.heap.size w kp tx td ab be su po st nu li fi ga hh ((-10)) ) (cwV 1 hts gX6_order_X6_bad rfl rfl rfl (by decide +kernel) ⟨Nat.le_of_ble_eq_true rfl, Nat.le_of_ble_eq_true rfl⟩) hK hP hD hS hA rfl rfl rfl rfl hl.1 rfl (Nat.le_of_ble_eq_true rfl) dX6_order_20 ⟨Nat.zero_le _, Nat.zero_le _⟩ (fun r_20 u_20 H locs hw_20 hP hD hS => ?_)
      obtain ⟨su_20, rfl⟩ : ∃ z, z = u_20 := ⟨_, rfl⟩
      have hP : va_P (dC, dI) vwCl (mW q cI cZ w kp tx td ab be su_20 po st nu li fi ga hh) H := hP
      have hD : va_D A (mW q cI cZ w kp tx td ab be su_20 po st nu li fi ga hh) := hD
      rw [hw_20, let2_mk r_20 su_20] at hF
      have hP9 : va_P (dC, dI) vwCl (mW q cI cZ w kp tx td ab be su_20 po st nu li fi ga hh) H := hP
      exact W.iret (v := r_20) hx hb hr (fun t ht hW => ⟨⟨_, ((w, li, fi, su_20)), rfl, hO.symm.trans hF, by rw [ht]; exact hP9, va_K.moved hW.alike hK, hD⟩, hS.F ht⟩) hS.2.2 dX6_order_23
