theorem okN_nI {n : Nat} (h : n ≤ 5) : okN (nI n) := Or.inr (inB_nI h (by decide))
theorem lg_lt {x y : Int64} : lg_cmp x y < 0 ↔ x < y := by
  unfold lg_cmp
  have h1 := Int64.lt_iff_toInt_lt (x := y) (y := x)
  have h2 := Int64.lt_iff_toInt_lt (x := x) (y := y)
  have h3 : x = y ↔ x.toInt = y.toInt := Int64.toInt_inj.symm
  by_cases a : y < x
  · rw [if_pos a]
    exact ⟨fun h => absurd h (by decide), fun h => by have := h1.mp a; have := h2.mp h; omega⟩
  · rw [if_neg a]
    by_cases b : x = y
    · rw [if_pos b]
      exact ⟨fun h => absurd h (by decide), fun h => by have := h3.mp b; have := h2.mp h; omega⟩
    · rw [if_neg b]
      exact ⟨fun _ => h2.mpr (by have := mt h1.mpr a; have := mt h3.mpr b; omega), fun _ => by decide⟩
theorem lg_gt {x y : Int64} : 0 < lg_cmp x y ↔ y < x := by
  unfold lg_cmp
  by_cases a : y < x
  · rw [if_pos a]; exact ⟨fun _ => a, fun _ => by decide⟩
  · rw [if_neg a]
    by_cases b : x = y
    · rw [if_pos b]; exact ⟨fun h => absurd h (by decide), fun h => absurd h a⟩
    · rw [if_neg b]; exact ⟨fun h => absurd h (by decide), fun h => absurd h a⟩
theorem in_iff {v lo hi : Int64} : F_X6_in v lo hi = true ↔ lo ≤ v ∧ v ≤ hi := by
  unfold F_X6_in
  have h1 := @lg_lt v lo
  have h2 := @lg_gt v hi
  have a1 : ¬ v < lo ↔ lo ≤ v := Int64.not_lt
  have a2 : ¬ hi < v ↔ v ≤ hi := Int64.not_lt
  by_cases a : lg_cmp v lo < 0
  · rw [if_pos a]
    exact ⟨fun h => absurd h (by decide), fun h => absurd (h1.mp a) (a1.mpr h.1)⟩
  · rw [if_neg a]
    by_cases b : 0 < lg_cmp v hi
    · rw [if_pos b]
      exact ⟨fun h => absurd h (by decide), fun h => absurd (h2.mp b) (a2.mpr h.2)⟩
    · rw [if_neg b]
      exact ⟨fun _ => ⟨a1.mp (fun q => a (h1.mpr q)), a2.mp (fun q => b (h2.mpr q))⟩, fun _ => rfl⟩
theorem wide_le (a b : Int32) : a.toInt64 ≤ b.toInt64 ↔ a ≤ b := by
  rw [Int64.le_iff_toInt_le, Int32.le_iff_toInt_le, Int32.toInt_toInt64, Int32.toInt_toInt64]
theorem in_32 {x a b : Int32} : F_X6_in x.toInt64 a.toInt64 b.toInt64 = true ↔ a ≤ x ∧ x ≤ b := by
  rw [in_iff, wide_le, wide_le]
theorem in_nat {x : Int32} {a b : Int64} {lo hi : Nat} (ha : a = lN lo) (hb : b = lN hi) (hlo : lo < 2 ^ 31) (hhi : hi < 2 ^ 31) (h : F_X6_in x.toInt64 a b = true) : 0 ≤ x ∧ lo ≤ tN x ∧ tN x ≤ hi := by
  rw [ha, hb, ← nI_l hlo, ← nI_l hhi, in_32] at h
  have h1 := Int32.le_iff_toInt_le.mp h.1
  have h2 := Int32.le_iff_toInt_le.mp h.2
  rw [nI_toInt hlo] at h1
  rw [nI_toInt hhi] at h2
  refine ⟨Int32.le_iff_toInt_le.mpr (by show (0 : Int32).toInt ≤ x.toInt; rw [show (0 : Int32).toInt = 0 from rfl]; omega), ?_, ?_⟩
  · show lo ≤ x.toNatClampNeg
    unfold Int32.toNatClampNeg
    omega
  · show x.toNatClampNeg ≤ hi
    unfold Int32.toNatClampNeg
    omega
theorem L_nextOf (w : Nat → Int32) (R : Nat) (hB : tN (w R) ≤ 6) : ∀ (n k : Nat) (fd : Int32), k ≤ tN (w R) → okN fd → okN (F_X6_nextOf_L24 n R w k fd).2
  | 0, _, _, _, h => h
  | n + 1, k, fd, hk, h => by
    rw [F_X6_nextOf_L24]
    by_cases c : k < 1
    · rw [if_pos c]; exact h
    · rw [if_neg c]
      split
      · refine L_nextOf w R hB n _ _ (by omega) (okN_nI ?_)
        have := Nat.mod_lt (tN (w (R + 2)) + k) (show tN (w R) > 0 by omega)
        omega
      · exact L_nextOf w R hB n _ _ (by omega) h
theorem nextOf_at (w : Nat → Int32) (R : Nat) (hB : tN (w R) ≤ 6) : okN (F_X6_nextOf w R (R + 2)) ∧ ∀ j, j ≠ R + 2 → F_X6_nextOf w R j = w j := by
  show okN (upd w (R + 2) (F_X6_nextOf_L24 7 R w (tN (w R)) (-1)).2 (R + 2)) ∧ ∀ j, j ≠ R + 2 → upd w (R + 2) (F_X6_nextOf_L24 7 R w (tN (w R)) (-1)).2 j = w j
  exact ⟨by rw [pk_us]; exact L_nextOf w R hB 7 _ _ (Nat.le_refl _) (Or.inl rfl), fun j hj => pk_un hj⟩
theorem L_bats (R : Nat) (w w0 : Nat → Int32) (r : Int32) (hB : tN (w R) ≤ 6) : ∀ (n k mo : Nat) (w1 : Nat → Int32), (∀ j, (j < R + 17 ∨ R + 23 ≤ j) → w1 j = w0 j) → ∀ j, (j < R + 17 ∨ R + 23 ≤ j) → (F_X6_bats_L63 n R w r k mo w1).2.2 j = w0 j
  | 0, _, _, _, h => h
  | n + 1, k, mo, w1, h => by
    rw [F_X6_bats_L63]
    by_cases c : tN (w R) ≤ k
    · rw [if_pos c]; exact h
    · rw [if_neg c]
      have hu : ∀ x, ∀ j, (j < R + 17 ∨ R + 23 ≤ j) → upd w1 (R + k + 17) x j = w0 j := fun x j hj => by rw [pk_un (by omega)]; exact h j hj
      split
      · split
        · exact L_bats R w w0 r hB n _ _ _ (hu _)
        · exact L_bats R w w0 r hB n _ _ _ (hu _)
      · split
        · split
          · exact L_bats R w w0 r hB n _ _ _ (hu _)
          · exact L_bats R w w0 r hB n _ _ _ (hu _)
        · exact L_bats R w w0 r hB n _ _ _ h
theorem L_batsN (R : Nat) (w : Nat → Int32) (r : Int32) : ∀ (n k mo : Nat) (w1 : Nat → Int32), (F_X6_bats_L63 n R w r k mo w1).2.1 ≤ mo + 2 * n
  | 0, _, _, _ => Nat.le_add_right _ _
  | n + 1, k, mo, w1 => by
    rw [F_X6_bats_L63]
    have ih := fun k mo w1 => L_batsN R w r n k mo w1
    split
    · exact Nat.le_add_right _ _
    · split
      · split
        · exact Nat.le_trans (ih _ _ _) (by omega)
        · exact Nat.le_trans (ih _ _ _) (by omega)
      · split
        · split
          · exact Nat.le_trans (ih _ _ _) (by omega)
          · exact Nat.le_trans (ih _ _ _) (by omega)
        · exact Nat.le_trans (ih _ _ _) (by omega)
theorem bats_num {w w' : Nat → Int32} {R : Nat} {h r : Int32} (e : F_X6_bats w R h = (r, w')) : inB r 14 := by
  have e2 : (F_X6_bats w R h).1 = r := by rw [e]
  rw [← e2]
  unfold F_X6_bats
  simp only [let1, let3]
  split
  · exact inB_nI (by decide) (by decide)
  · exact inB_nI (L_batsN R w _ 7 0 0 _) (by decide)
theorem bats_at {w w' : Nat → Int32} {R : Nat} {h r : Int32} (e : F_X6_bats w R h = (r, w')) (pB : inB (w R) 6) (pN : inB (w (R + 2)) 5) : okN (w' (R + 2)) ∧ ∀ j, j ≠ R + 2 → j ≠ R + 4 → (j < R + 17 ∨ R + 23 ≤ j) → w' j = w j := by
  have e2 : (F_X6_bats w R h).2 = w' := by rw [e]
  rw [← e2]
  unfold F_X6_bats
  simp only [let1, let3]
  have hb := pB.2
  have hn := pN.2
  split
  · have hb2 : tN (upd (upd w (R + 4) (w (R + 4) + nI 1)) (R + tN (w (R + 2)) + 17) (nI 4) R) ≤ 6 := by rw [pk_un (by omega), pk_un (by omega)]; exact hb
    obtain ⟨h1, h2⟩ := nextOf_at _ R hb2
    exact ⟨h1, fun j a b c => (h2 j a).trans ((pk_un (by omega)).trans (pk_un b))⟩
  · have hL := L_bats R w (upd w (R + 4) (w (R + 4) + nI 1)) (F_X6_runsNow (upd w (R + 4) (w (R + 4) + nI 1)) R (F_X6_comesNow w R h)) hb 7 0 0 _ (fun _ _ => rfl)
    have hb2 : tN ((F_X6_bats_L63 7 R w (F_X6_runsNow (upd w (R + 4) (w (R + 4) + nI 1)) R (F_X6_comesNow w R h)) 0 0 (upd w (R + 4) (w (R + 4) + nI 1))).2.2 R) ≤ 6 := by rw [hL R (by omega), pk_un (by omega)]; exact hb
    obtain ⟨h1, h2⟩ := nextOf_at _ R hb2
    exact ⟨h1, fun j a b c => (h2 j a).trans ((hL j c).trans (pk_un b))⟩
theorem isDone_no {w : Nat → Int32} {R : Nat} {z : Bool} (e : F_X6_isDone w R = z) (c : ¬ z = true) : ¬ w (R + 2) = -1 := fun q => c (by rw [← e]; unfold F_X6_isDone; rw [if_pos q])
theorem isDone_yes {w : Nat → Int32} {R : Nat} {z : Bool} (e : F_X6_isDone w R = z) (c : z = true) : w (R + 2) = -1 := by
  unfold F_X6_isDone at e
  by_cases q : w (R + 2) = -1
  · exact q
  · rw [if_neg q] at e; rw [← e] at c; exact absurd c (by decide)
def F_X6_tries_L2 : Nat →  (Nat) → (Nat → Int32) → (Nat) × (Nat → Int32)
  | 0, k, w1 => (k, w1)
  | n_2 + 1, k, w1 => if 31 ≤ k then (k, w1) else F_X6_tries_L2 n_2  (k + 1) (upd w1 (k + 592) (w1 k))
def F_X6_tries (w : Nat → Int32) : (Nat → Int32) := let2 (F_X6_tries_L2 32  0 w) (fun k w1 => w1)
set_option maxHeartbeats 4000000 in
set_option maxRecDepth 100000 in
theorem c_X6_tries (l : Launch) (dC : Nat → ClassId) (dI : Nat → Nat → Nat) (q : Nat → Nat) (cI cZ : ClassId) (sz : Nat) (w : Nat → Int32) (kp : Nat → Int32) (tx : Nat → Int32) (td : Int32) (ab : Int64) (be : Int64) (su : Nat → Int32) (po : Int32) (st : Int32) (nu : Int32) (li : Nat → Int32) (fi : Nat → Int32) (ga : Nat → Int32) (hh : Int64) : Met l yX6_tries wsX6_tries { frames := 0, cells := 0, slots := 0, locals := 0 } (mPc (dC, dI) vwCl (mT cI cZ) (mW q cI cZ w kp tx td ab be su po st nu li fi ga hh) sz [.ref (q 0)]) (va_Qv (fun (u : (Nat → Int32)) => F_X6_tries w = u) (mB (dC, dI) vwCl (mT cI cZ) (va_A (mW q cI cZ w kp tx td ab be su po st nu li fi ga hh) sz) (fun u => mW q cI cZ u kp tx td ab be su po st nu li fi ga hh)) (va_A (mW q cI cZ w kp tx td ab be su po st nu li fi ga hh) sz)) 0 0 (va_A (mW q cI cZ w kp tx td ab be su po st nu li fi ga hh) sz) := by
  refine Met.ofW (cc := cX6_tries) (maxL := 2) (ret := none) (by decide) rfl ?_
  intro p e s m args below meth c s₁ B hml hv
  obtain ⟨rfl, hsz, hP, hK, hD0⟩ := hv
  have hx := B.exec
  have hb := B.bytes
  have hr := B.returns
  have hts := atoms_spec (ws := wsX6_tries) B.pre
  have hown : s.vm.findClass RX6 = some m.cls := findClass_of_methodNamed B.named
  have hlocks := B.notSynchronized
  subst hsz
  have hD := hD0.self (sz := s.heap.size)
  generalize hAe : va_A (mW q cI cZ w kp tx td ab be su po st nu li fi ga hh) s.heap.size = A at hD ⊢
  have hA : ∀ q : Nat, s.heap.size ≤ q → A q := fun q h => by rw [← hAe]; exact Or.inr h
  have hS : va_S A s.heap s.heap [] := va_S.rf
  have hin : ∀ w ∈ wsX60, w ∈ wsX6_tries := by decide +kernel
  have lk7 := hts (.fieldLink RX6 7 "PostRoundersModel" "w" "[I") (by decide +kernel)
  have hl := lv_entry ([.ref (q 0)]) (n := 2) (Nat.le_of_ble_eq_true rfl)
  rw [lg_entry_eq]
  generalize (lg_sl ([.ref (q 0)]) ++ List.replicate (2 - (lg_sl ([.ref (q 0)])).length) Slot.unset).toArray = ls at hl ⊢
  have hl : lv_has ls 2 [(0, .ref (q 0))] := hl
  obtain ⟨OUT, hO⟩ : ∃ z, z = F_X6_tries w := ⟨_, rfl⟩
  have hF := hO
  unfold F_X6_tries at hF
  refine lv_iconst (v := nI 0) hx hb dX6_tries_0 (by decide) ?_
  refine lv_istore_n (lv' := [(1, .int (nI 0)), (0, .ref (q 0))]) hx hb dX6_tries_1 rfl hl (by decide) rfl (fun ls hl => ?_)
  have L_2 : ∀ (n_2 : Nat) (k : Nat) (w1 : Nat → Int32) (H : Heap) (locs : List Loc), k ≤ 31 → 31 - k < n_2 → va_P (dC, dI) vwCl (mW q cI cZ w1 kp tx td ab be su po st nu li fi ga hh) H → va_D A (mW q cI cZ w1 kp tx td ab be su po st nu li fi ga hh) → va_S A s.heap H locs → ∀ (ls : Array Slot), lv_has ls 2 [(1, .int (nI k)), (0, .ref (q 0))] → OUT = let2 (F_X6_tries_L2 n_2  k w1) (fun k w1 => w1) → W p l e (headSpec wsX6_tries { frames := 0, cells := 0, slots := 0, locals := 0 }).room s m ([.ref (q 0)] : List Value).toArray below meth c H locs 0 0 (MQ below (va_Qv (fun (u : (Nat → Int32)) => F_X6_tries w = u) (mB (dC, dI) vwCl (mT cI cZ) A (fun u => mW q cI cZ u kp tx td ab be su po st nu li fi ga hh)) A) ([.ref (q 0)] : List Value).toArray s 0 0 A) (F0 m 2 ls []) := by
    intro n_2
    induction n_2 with
    | zero => intro k w1 H locs i0 hmu; exact absurd hmu (Nat.not_lt_zero _)
    | succ n_2 ih_2 =>
      intro k w1 H locs i0 hmu_2 hP hD hS ls hl hF
      rw [F_X6_tries_L2] at hF
      refine lv_iload_n hx hb dX6_tries_2 rfl (lv_at hl 0 rfl) ?_
      refine lv_bipush (v := nI 31) hx hb dX6_tries_3 (by decide) ?_
      refine qv_icmp_ge (tgt := 30) hx hb dX6_tries_5 (by decide) (by omega) (by omega) (fun c_5 => ?_) (fun c_5 => ?_)
      · rw [if_pos c_5] at hF
        rw [let2_mk (k : Nat) (w1 : Nat → Int32)] at hF
        have hP9 : va_P (dC, dI) vwCl (mW q cI cZ w1 kp tx td ab be su po st nu li fi ga hh) H := hP
        exact W.vret hx hb hr (fun t ht hW => ⟨⟨(w1), rfl, hO.symm.trans hF, by rw [ht]; exact hP9, va_K.moved hW.alike hK, hD⟩, hS.F ht⟩) hS.2.2 dX6_tries_30
      · rw [if_neg c_5] at hF
        refine lv_aload_n hx hb dX6_tries_8 rfl (lv_at hl 1 rfl) ?_
        refine va_get (D := (dC, dI)) (ci := 6) (v := .ref (q 1)) (C := RX6) (T := TX6) (N := 14) hx hb hts hin hown hK hP 0 rfl rfl 0 (by decide) lk7 (fun _ h9 => h9) rfl dX6_tries_9 ?_
        refine lv_sipush (v := nI 592) hx hb dX6_tries_12 (by decide) ?_
        refine lv_iload_n hx hb dX6_tries_15 rfl (lv_at hl 0 rfl) ?_
        refine qv_iadd hx hb (k + 592) dX6_tries_16 (by omega) ?_
        refine lv_aload_n hx hb dX6_tries_17 rfl (lv_at hl 1 rfl) ?_
        refine va_get (D := (dC, dI)) (ci := 6) (v := .ref (q 1)) (C := RX6) (T := TX6) (N := 14) hx hb hts hin hown hK hP 0 rfl rfl 0 (by decide) lk7 (fun _ h9 => h9) rfl dX6_tries_18 ?_
        refine lv_iload_n hx hb dX6_tries_21 rfl (lv_at hl 0 rfl) ?_
        refine qv_ald (v := w1 k) hx hb hK hP 1 0 rfl rfl (by omega) (by decide) (rfl) dX6_tries_22 ?_
        refine qv_ast (ws' := mW q cI cZ (upd w1 (k + 592) (w1 k)) kp tx td ab be su po st nu li fi ga hh) hx hb hK hP hD hS 1 0 rfl rfl (by omega) (by decide) dX6_tries_23 rfl (fun H locs hP hD hS => ?_)
        refine lv_iinc (v := nI (k + 1)) (lv' := [(1, .int (nI (k + 1))), (0, .ref (q 0))]) hx hb dX6_tries_24 hl (k := 0) rfl (qn_inc (c := 1) rfl (by omega)) (by decide) rfl (fun ls hl => ?_)
        refine lv_goto (tgt := 2) hx hb dX6_tries_27 (by decide) ?_
        exact ih_2 (k + 1) (upd w1 (k + 592) (w1 k)) H locs (by omega) (by omega) hP hD hS ls (lv_sub hl [0, 1] rfl) hF
  exact L_2 32 0 w s.heap [] (by omega) (by omega) hP hD hS ls (lv_sub hl [0, 1] rfl) hF
theorem L_tries : ∀ (n k : Nat) (w1 : Nat → Int32), 31 - k < n → ∀ j, (F_X6_tries_L2 n k w1).2 j = if 592 + k ≤ j ∧ j < 623 then w1 (j - 592) else w1 j
  | 0, _, _, h, _ => absurd h (Nat.not_lt_zero _)
  | n + 1, k, w1, h, j => by
    rw [F_X6_tries_L2]
    by_cases c : 31 ≤ k
    · rw [if_pos c, if_neg (by omega)]
    · rw [if_neg c, L_tries n (k + 1) _ (by omega) j]
      by_cases d : 592 + (k + 1) ≤ j ∧ j < 623
      · rw [if_pos d, if_pos (by omega), pk_un (by omega)]
      · rw [if_neg d]
        by_cases f : j = k + 592
        · subst f
          rw [pk_us, if_pos (by omega), show k + 592 - 592 = k by omega]
        · rw [pk_un f, if_neg (by omega)]
theorem tries_at (w : Nat → Int32) (j : Nat) : F_X6_tries w j = if 592 ≤ j ∧ j < 623 then w (j - 592) else w j := L_tries 32 0 w (by decide) j
theorem tries_to {w w' : Nat → Int32} (e : F_X6_tries w = w') {k : Nat} (h : k < 31) : w' (592 + k) = w k := by
  rw [← e, tries_at, if_pos (by omega), show 592 + k - 592 = k by omega]
theorem tries_keep {w w' : Nat → Int32} (e : F_X6_tries w = w') (j : Nat) (h : j < 592) : w' j = w j := by
  rw [← e, tries_at, if_neg (by omega)]
def F_X6_batsTried (w : Nat → Int32) (h : Int32) : Int32 × (Nat → Int32) := let1 (F_X6_isDone w 592) (fun z_4 => if z_4 = true then (nI 0, w) else let2 (F_X6_bats w 592 h) (fun r_19 w_19 => (r_19, w_19)))
set_option maxHeartbeats 4000000 in
set_option maxRecDepth 100000 in
theorem c_X6_batsTried (l : Launch) (dC : Nat → ClassId) (dI : Nat → Nat → Nat) (q : Nat → Nat) (cI cZ : ClassId) (sz : Nat) (w : Nat → Int32) (kp : Nat → Int32) (tx : Nat → Int32) (td : Int32) (ab : Int64) (be : Int64) (su : Nat → Int32) (po : Int32) (st : Int32) (nu : Int32) (li : Nat → Int32) (fi : Nat → Int32) (ga : Nat → Int32) (hh : Int64) (h : Int32) (pB : inB (w 592) 6) (pN : okN (w 594)) : Met l yX6_batsTried wsX6_batsTried { frames := 5, cells := 0, slots := 0, locals := 116 } (mPc (dC, dI) vwCl (mT cI cZ) (mW q cI cZ w kp tx td ab be su po st nu li fi ga hh) sz [.ref (q 0), .int h]) (va_Qi (fun (r : Int32) (u : (Nat → Int32)) => F_X6_batsTried w h = (r, u)) (mB (dC, dI) vwCl (mT cI cZ) (va_A (mW q cI cZ w kp tx td ab be su po st nu li fi ga hh) sz) (fun u => mW q cI cZ u kp tx td ab be su po st nu li fi ga hh)) (va_A (mW q cI cZ w kp tx td ab be su po st nu li fi ga hh) sz)) 0 0 (va_A (mW q cI cZ w kp tx td ab be su po st nu li fi ga hh) sz) := by
  refine Met.ofW (cc := cX6_batsTried) (maxL := 2) (ret := (some .int)) (by decide) rfl ?_
  intro p e s m args below meth c s₁ B hml hv
  obtain ⟨rfl, hsz, hP, hK, hD0⟩ := hv
  have hx := B.exec
  have hb := B.bytes
  have hr := B.returns
  have hts := atoms_spec (ws := wsX6_batsTried) B.pre
  have hown : s.vm.findClass RX6 = some m.cls := findClass_of_methodNamed B.named
  have hlocks := B.notSynchronized
  subst hsz
  have hD := hD0.self (sz := s.heap.size)
  generalize hAe : va_A (mW q cI cZ w kp tx td ab be su po st nu li fi ga hh) s.heap.size = A at hD ⊢
  have hA : ∀ q : Nat, s.heap.size ≤ q → A q := fun q h => by rw [← hAe]; exact Or.inr h
  have hS : va_S A s.heap s.heap [] := va_S.rf
  have hl := lv_entry ([.ref (q 0), .int h]) (n := 2) (Nat.le_of_ble_eq_true rfl)
  rw [lg_entry_eq]
  generalize (lg_sl ([.ref (q 0), .int h]) ++ List.replicate (2 - (lg_sl ([.ref (q 0), .int h])).length) Slot.unset).toArray = ls at hl ⊢
  have hl : lv_has ls 2 [(0, .ref (q 0)), (1, .int h)] := hl
  obtain ⟨OUT, hO⟩ : ∃ z, z = F_X6_batsTried w h := ⟨_, rfl⟩
  have hF := hO
  unfold F_X6_batsTried at hF
  have e_pB := tN_eq pB.1
  have b_pB := pB.2
  refine lv_aload_n hx hb dX6_batsTried_0 rfl (lv_at hl 0 rfl) ?_
  refine lv_sipush (v := nI 592) hx hb dX6_batsTried_1 (by decide) ?_
  refine qc_Vi (C := RX6) (As := [.int (nI 592)]) (rest := []) (ci := 6) (k0 := 0) ⟨hx, hb, hml, hown, hts⟩ (c_X6_isDone l dC dI q cI cZ s.heap.size w kp tx td ab be su po st nu li fi ga hh 592 (by omega)) (cwV 1 hts gX6_batsTried_X6_isDone rfl rfl rfl (by decide +kernel) ⟨Nat.le_of_ble_eq_true rfl, Nat.le_of_ble_eq_true rfl⟩) hK hP hD hS hA rfl rfl rfl rfl hl.1 rfl (Nat.le_of_ble_eq_true rfl) dX6_batsTried_4 ⟨Nat.zero_le _, Nat.zero_le _⟩ (fun r_4 u_4 H locs hw_4 hP hD hS => ?_)
  obtain ⟨z_4, hw_4, rfl⟩ := hw_4
  rw [hw_4, let1_mk z_4] at hF
  refine qv_zif_eq (tgt := 14) hx hb dX6_batsTried_7 (by decide) (fun c_7 => ?_) (fun c_7 => ?_)
  · rw [if_neg c_7] at hF
    have pI : inB (w 594) 5 := pN.resolve_left (isDone_no hw_4 c_7)
    refine lv_aload_n hx hb dX6_batsTried_14 rfl (lv_at hl 0 rfl) ?_
    refine lv_sipush (v := nI 592) hx hb dX6_batsTried_15 (by decide) ?_
    refine lv_iload_n hx hb dX6_batsTried_18 rfl (lv_at hl 1 rfl) ?_
    refine qc_Vi (C := RX6) (As := [.int (nI 592), .int h]) (rest := []) (ci := 6) (k0 := 0) ⟨hx, hb, hml, hown, hts⟩ (c_X6_bats l dC dI q cI cZ H.size w kp tx td ab be su po st nu li fi ga hh 592 h (by omega) (pB : inB (w 592) 6) (pI : inB (w 594) 5)) (cwV 2 hts gX6_batsTried_X6_bats rfl rfl rfl (by decide +kernel) ⟨Nat.le_of_ble_eq_true rfl, Nat.le_of_ble_eq_true rfl⟩) hK hP hD hS hA rfl rfl rfl rfl hl.1 rfl (Nat.le_of_ble_eq_true rfl) dX6_batsTried_19 ⟨Nat.zero_le _, Nat.zero_le _⟩ (fun r_19 u_19 H locs hw_19 hP hD hS => ?_)
    obtain ⟨w_19, rfl⟩ : ∃ z, z = u_19 := ⟨_, rfl⟩
    have hP : va_P (dC, dI) vwCl (mW q cI cZ w_19 kp tx td ab be su po st nu li fi ga hh) H := hP
    have hD : va_D A (mW q cI cZ w_19 kp tx td ab be su po st nu li fi ga hh) := hD
    rw [hw_19, let2_mk r_19 w_19] at hF
    have hP9 : va_P (dC, dI) vwCl (mW q cI cZ w_19 kp tx td ab be su po st nu li fi ga hh) H := hP
    exact W.iret (v := r_19) hx hb hr (fun t ht hW => ⟨⟨_, (w_19), rfl, hO.symm.trans hF, by rw [ht]; exact hP9, va_K.moved hW.alike hK, hD⟩, hS.F ht⟩) hS.2.2 dX6_batsTried_22
  · rw [if_pos c_7] at hF
    refine lv_iconst (v := nI 0) hx hb dX6_batsTried_10 (by decide) ?_
    refine lv_goto (tgt := 22) hx hb dX6_batsTried_11 (by decide) ?_
    have hP9 : va_P (dC, dI) vwCl (mW q cI cZ w kp tx td ab be su po st nu li fi ga hh) H := hP
    exact W.iret (v := nI 0) hx hb hr (fun t ht hW => ⟨⟨_, (w), rfl, hO.symm.trans hF, by rw [ht]; exact hP9, va_K.moved hW.alike hK, hD⟩, hS.F ht⟩) hS.2.2 dX6_batsTried_22
theorem batsTried_at {w w' : Nat → Int32} {h r : Int32} (e : F_X6_batsTried w h = (r, w')) (pB : inB (w 592) 6) (pN : okN (w 594)) : okN (w' 594) ∧ w' 592 = w 592 ∧ inB r 14 ∧ ∀ j, j < 592 → w' j = w j := by
  unfold F_X6_batsTried at e
  simp only [let1, let2] at e
  split at e
  · rw [← (Prod.mk.inj e).2, ← (Prod.mk.inj e).1]; exact ⟨pN, rfl, inB_nI (by decide) (by decide), fun _ _ => rfl⟩
  · next c =>
    have pI : inB (w 594) 5 := pN.resolve_left (isDone_no (w := w) (R := 592) rfl c)
    have h1 := bats_at (w := w) (R := 592) (h := h) (r := (F_X6_bats w 592 h).1) (w' := (F_X6_bats w 592 h).2) rfl pB pI
    rw [← (Prod.mk.inj e).2, ← (Prod.mk.inj e).1]
    exact ⟨h1.1, h1.2 592 (by decide) (by decide) (by decide), bats_num (w := w) (R := 592) (h := h) (w' := (F_X6_bats w 592 h).2) rfl, fun j hj => h1.2 j (by omega) (by omega) (by omega)⟩
def F_X6_scoreTried_L4 : Nat → (Nat) → (Nat) → (Nat) → (Nat → Int32) → (Nat) × (Nat) × (Nat → Int32)
  | 0, _, k, sm, w1 => (k, sm, w1)
  | n_4 + 1, n, k, sm, w1 => if n ≤ k then (k, sm, w1) else let2 (F_X6_batsTried w1 (w1 (k + 23))) (fun r_20 w_20 => F_X6_scoreTried_L4 n_4 n (k + 1) (sm + tN r_20) w_20)
def F_X6_scoreTried (w : Nat → Int32) (n : Nat) : Int32 × (Nat → Int32) := let3 (F_X6_scoreTried_L4 9 n 0 0 w) (fun k sm w1 => (nI sm, w1))
set_option maxHeartbeats 4000000 in
set_option maxRecDepth 100000 in
theorem c_X6_scoreTried (l : Launch) (dC : Nat → ClassId) (dI : Nat → Nat → Nat) (q : Nat → Nat) (cI cZ : ClassId) (sz : Nat) (w : Nat → Int32) (kp : Nat → Int32) (tx : Nat → Int32) (td : Int32) (ab : Int64) (be : Int64) (su : Nat → Int32) (po : Int32) (st : Int32) (nu : Int32) (li : Nat → Int32) (fi : Nat → Int32) (ga : Nat → Int32) (hh : Int64) (n : Nat) (hn : n ≤ 8) (pB : inB (w 592) 6) (pN : okN (w 594)) : Met l yX6_scoreTried wsX6_scoreTried { frames := 6, cells := 0, slots := 0, locals := 137 } (mPc (dC, dI) vwCl (mT cI cZ) (mW q cI cZ w kp tx td ab be su po st nu li fi ga hh) sz [.ref (q 0), .int (nI n)]) (va_Qi (fun (r : Int32) (u : (Nat → Int32)) => F_X6_scoreTried w n = (r, u)) (mB (dC, dI) vwCl (mT cI cZ) (va_A (mW q cI cZ w kp tx td ab be su po st nu li fi ga hh) sz) (fun u => mW q cI cZ u kp tx td ab be su po st nu li fi ga hh)) (va_A (mW q cI cZ w kp tx td ab be su po st nu li fi ga hh) sz)) 0 0 (va_A (mW q cI cZ w kp tx td ab be su po st nu li fi ga hh) sz) := by
  refine Met.ofW (cc := cX6_scoreTried) (maxL := 4) (ret := (some .int)) (by decide) rfl ?_
  intro p e s m args below meth c s₁ B hml hv
  obtain ⟨rfl, hsz, hP, hK, hD0⟩ := hv
  have hx := B.exec
  have hb := B.bytes
  have hr := B.returns
  have hts := atoms_spec (ws := wsX6_scoreTried) B.pre
  have hown : s.vm.findClass RX6 = some m.cls := findClass_of_methodNamed B.named
  have hlocks := B.notSynchronized
  subst hsz
  have hD := hD0.self (sz := s.heap.size)
  generalize hAe : va_A (mW q cI cZ w kp tx td ab be su po st nu li fi ga hh) s.heap.size = A at hD ⊢
  have hA : ∀ q : Nat, s.heap.size ≤ q → A q := fun q h => by rw [← hAe]; exact Or.inr h
  have hS : va_S A s.heap s.heap [] := va_S.rf
  have hin : ∀ w ∈ wsX60, w ∈ wsX6_scoreTried := by decide +kernel
  have lk7 := hts (.fieldLink RX6 7 "PostRoundersModel" "w" "[I") (by decide +kernel)
  have hl := lv_entry ([.ref (q 0), .int (nI n)]) (n := 4) (Nat.le_of_ble_eq_true rfl)
  rw [lg_entry_eq]
  generalize (lg_sl ([.ref (q 0), .int (nI n)]) ++ List.replicate (4 - (lg_sl ([.ref (q 0), .int (nI n)])).length) Slot.unset).toArray = ls at hl ⊢
  have hl : lv_has ls 4 [(0, .ref (q 0)), (1, .int (nI n))] := hl
  obtain ⟨OUT, hO⟩ : ∃ z, z = F_X6_scoreTried w n := ⟨_, rfl⟩
  have hF := hO
  unfold F_X6_scoreTried at hF
  have e_pB := tN_eq pB.1
  have b_pB := pB.2
  refine lv_iconst (v := nI 0) hx hb dX6_scoreTried_0 (by decide) ?_
  refine lv_istore_n (lv' := [(2, .int (nI 0)), (0, .ref (q 0)), (1, .int (nI n))]) hx hb dX6_scoreTried_1 rfl hl (by decide) rfl (fun ls hl => ?_)
  refine lv_iconst (v := nI 0) hx hb dX6_scoreTried_2 (by decide) ?_
  refine lv_istore_n (lv' := [(3, .int (nI 0)), (2, .int (nI 0)), (0, .ref (q 0)), (1, .int (nI n))]) hx hb dX6_scoreTried_3 rfl hl (by decide) rfl (fun ls hl => ?_)
  have L_4 : ∀ (n_4 : Nat) (k : Nat) (sm : Nat) (w1 : Nat → Int32) (H : Heap) (locs : List Loc), k ≤ n → sm ≤ 14 * k → w1 592 = w 592 → okN (w1 594) → n - k < n_4 → va_P (dC, dI) vwCl (mW q cI cZ w1 kp tx td ab be su po st nu li fi ga hh) H → va_D A (mW q cI cZ w1 kp tx td ab be su po st nu li fi ga hh) → va_S A s.heap H locs → ∀ (ls : Array Slot), lv_has ls 4 [(3, .int (nI k)), (2, .int (nI sm)), (0, .ref (q 0)), (1, .int (nI n))] → OUT = let3 (F_X6_scoreTried_L4 n_4 n k sm w1) (fun k sm w1 => (nI sm, w1)) → W p l e (headSpec wsX6_scoreTried { frames := 6, cells := 0, slots := 0, locals := 137 }).room s m ([.ref (q 0), .int (nI n)] : List Value).toArray below meth c H locs 0 0 (MQ below (va_Qi (fun (r : Int32) (u : (Nat → Int32)) => F_X6_scoreTried w n = (r, u)) (mB (dC, dI) vwCl (mT cI cZ) A (fun u => mW q cI cZ u kp tx td ab be su po st nu li fi ga hh)) A) ([.ref (q 0), .int (nI n)] : List Value).toArray s 0 0 A) (F0 m 4 ls []) := by
    intro n_4
    induction n_4 with
    | zero => intro k sm w1 H locs i0 i3 i1 i2 hmu; exact absurd hmu (Nat.not_lt_zero _)
    | succ n_4 ih_4 =>
      intro k sm w1 H locs i0 i3 i1 i2 hmu_4 hP hD hS ls hl hF
      rw [F_X6_scoreTried_L4] at hF
      refine lv_iload_n hx hb dX6_scoreTried_4 rfl (lv_at hl 0 rfl) ?_
      refine lv_iload_n hx hb dX6_scoreTried_5 rfl (lv_at hl 3 rfl) ?_
      refine qv_icmp_ge (tgt := 31) hx hb dX6_scoreTried_6 (by decide) (by omega) (by omega) (fun c_6 => ?_) (fun c_6 => ?_)
      · rw [if_pos c_6] at hF
        rw [let3_mk (k : Nat) (sm : Nat) (w1 : Nat → Int32)] at hF
        refine lv_iload_n hx hb dX6_scoreTried_31 rfl (lv_at hl 1 rfl) ?_
        have hP9 : va_P (dC, dI) vwCl (mW q cI cZ w1 kp tx td ab be su po st nu li fi ga hh) H := hP
        exact W.iret (v := nI sm) hx hb hr (fun t ht hW => ⟨⟨_, (w1), rfl, hO.symm.trans hF, by rw [ht]; exact hP9, va_K.moved hW.alike hK, hD⟩, hS.F ht⟩) hS.2.2 dX6_scoreTried_32
      · rw [if_neg c_6] at hF
        refine lv_iload_n hx hb dX6_scoreTried_9 rfl (lv_at hl 1 rfl) ?_
        refine lv_aload_n hx hb dX6_scoreTried_10 rfl (lv_at hl 2 rfl) ?_
        refine lv_aload_n hx hb dX6_scoreTried_11 rfl (lv_at hl 2 rfl) ?_
        refine va_get (D := (dC, dI)) (ci := 6) (v := .ref (q 1)) (C := RX6) (T := TX6) (N := 14) hx hb hts hin hown hK hP 0 rfl rfl 0 (by decide) lk7 (fun _ h9 => h9) rfl dX6_scoreTried_12 ?_
        refine lv_bipush (v := nI 23) hx hb dX6_scoreTried_15 (by decide) ?_
        refine lv_iload_n hx hb dX6_scoreTried_17 rfl (lv_at hl 0 rfl) ?_
        refine qv_iadd hx hb (k + 23) dX6_scoreTried_18 (by omega) ?_
        refine qv_ald (v := w1 (k + 23)) hx hb hK hP 1 0 rfl rfl (by omega) (by decide) (rfl) dX6_scoreTried_19 ?_
        refine qc_Vi (C := RX6) (As := [.int (w1 (k + 23))]) (rest := [.int (nI sm)]) (ci := 6) (k0 := 0) ⟨hx, hb, hml, hown, hts⟩ (c_X6_batsTried l dC dI q cI cZ H.size w1 kp tx td ab be su po st nu li fi ga hh (w1 (k + 23)) (by rw [i1]; exact pB : inB (w1 592) 6) (i2 : okN (w1 594))) (cwV 1 hts gX6_scoreTried_X6_batsTried rfl rfl rfl (by decide +kernel) ⟨Nat.le_of_ble_eq_true rfl, Nat.le_of_ble_eq_true rfl⟩) hK hP hD hS hA rfl rfl rfl rfl hl.1 rfl (Nat.le_of_ble_eq_true rfl) dX6_scoreTried_20 ⟨Nat.zero_le _, Nat.zero_le _⟩ (fun r_20 u_20 H locs hw_20 hP hD hS => ?_)
        obtain ⟨w_20, rfl⟩ : ∃ z, z = u_20 := ⟨_, rfl⟩
        have hP : va_P (dC, dI) vwCl (mW q cI cZ w_20 kp tx td ab be su po st nu li fi ga hh) H := hP
        have hD : va_D A (mW q cI cZ w_20 kp tx td ab be su po st nu li fi ga hh) := hD
        have a_20 := batsTried_at hw_20 (by rw [i1]; exact pB : inB (w1 592) 6) (i2 : okN (w1 594))
        have e_20 := tN_eq a_20.2.2.1.1
        have b_20 := a_20.2.2.1.2
        refine qv_top (e_20) ?_
        rw [hw_20, let2_mk r_20 w_20] at hF
        refine qv_iadd hx hb (sm + tN r_20) dX6_scoreTried_23 (by omega) ?_
        refine lv_istore_n (lv' := [(2, .int (nI (sm + tN r_20))), (3, .int (nI k)), (0, .ref (q 0)), (1, .int (nI n))]) hx hb dX6_scoreTried_24 rfl hl (by decide) rfl (fun ls hl => ?_)
        refine lv_iinc (v := nI (k + 1)) (lv' := [(3, .int (nI (k + 1))), (2, .int (nI (sm + tN r_20))), (0, .ref (q 0)), (1, .int (nI n))]) hx hb dX6_scoreTried_25 hl (k := 1) rfl (qn_inc (c := 1) rfl (by omega)) (by decide) rfl (fun ls hl => ?_)
        refine lv_goto (tgt := 4) hx hb dX6_scoreTried_28 (by decide) ?_
        exact ih_4 (k + 1) (sm + tN r_20) w_20 H locs (by omega) (by omega) ((a_20.2.1).trans i1) (a_20.1 : okN (w_20 594)) (by omega) hP hD hS ls (lv_sub hl [0, 1, 2, 3] rfl) hF
  exact L_4 9 0 0 w s.heap [] (by omega) (by omega) rfl (pN : okN (w 594)) (by omega) hP hD hS ls (lv_sub hl [0, 1, 2, 3] rfl) hF
theorem L_scoreTried (n : Nat) : ∀ (f k sm : Nat) (w1 : Nat → Int32), inB (w1 592) 6 → okN (w1 594) → (∀ j, j < 592 → (F_X6_scoreTried_L4 f n k sm w1).2.2 j = w1 j) ∧ (F_X6_scoreTried_L4 f n k sm w1).2.1 ≤ sm + 14 * f
  | 0, _, _, _, _, _ => ⟨fun _ _ => rfl, Nat.le_add_right _ _⟩
  | f + 1, k, sm, w1, pB, pN => by
    rw [F_X6_scoreTried_L4]
    split
    · exact ⟨fun _ _ => rfl, Nat.le_add_right _ _⟩
    · simp only [let2]
      have h := batsTried_at (w := w1) (h := w1 (k + 23)) (r := (F_X6_batsTried w1 (w1 (k + 23))).1) (w' := (F_X6_batsTried w1 (w1 (k + 23))).2) rfl pB pN
      have ih := L_scoreTried n f (k + 1) (sm + tN (F_X6_batsTried w1 (w1 (k + 23))).1) (F_X6_batsTried w1 (w1 (k + 23))).2 (by rw [h.2.1]; exact pB) h.1
      have hb := h.2.2.1.2
      exact ⟨fun j hj => (ih.1 j hj).trans (h.2.2.2 j hj), Nat.le_trans ih.2 (by omega)⟩
theorem scoreTried_at {w w' : Nat → Int32} {n : Nat} {r : Int32} (e : F_X6_scoreTried w n = (r, w')) (pB : inB (w 592) 6) (pN : okN (w 594)) : (∀ j, j < 592 → w' j = w j) ∧ inB r 126 := by
  unfold F_X6_scoreTried at e
  simp only [let3] at e
  have h := L_scoreTried n 9 0 0 w pB pN
  rw [← (Prod.mk.inj e).2, ← (Prod.mk.inj e).1]
  exact ⟨h.1, inB_nI (by omega) (by decide)⟩
