theorem L_empties (R : Nat) : ∀ (n k : Nat) (w1 : Nat → Int32), 148 - k < n → ∀ j, (F_X6_empties_L2 n R k w1).2 j = if R + k ≤ j ∧ j < R + 148 then nI 0 else w1 j
  | 0, _, _, h, _ => absurd h (Nat.not_lt_zero _)
  | n + 1, k, w1, h, j => by
    rw [F_X6_empties_L2]
    by_cases c : 148 ≤ k
    · rw [if_pos c, if_neg (by omega)]
    · rw [if_neg c, L_empties R n (k + 1) _ (by omega) j]
      by_cases d : R + (k + 1) ≤ j ∧ j < R + 148
      · rw [if_pos d, if_pos (by omega)]
      · rw [if_neg d]
        by_cases f : j = R + k
        · subst f
          rw [pk_us, if_pos (by omega)]
        · rw [pk_un f, if_neg (by omega)]
theorem empties_at (w : Nat → Int32) (R j : Nat) : F_X6_empties w R j = if R ≤ j ∧ j < R + 148 then nI 0 else w j := L_empties R 149 0 w (by decide) j
theorem L_begins (R : Nat) : ∀ (n k : Nat) (w1 : Nat → Int32), 8 - k < n → ∀ j, (F_X6_begins_L25 n R k w1).2 j = if R + 23 + k ≤ j ∧ j < R + 31 then nI 5 else w1 j
  | 0, _, _, h, _ => absurd h (Nat.not_lt_zero _)
  | n + 1, k, w1, h, j => by
    rw [F_X6_begins_L25]
    by_cases c : 8 ≤ k
    · rw [if_pos c, if_neg (by omega)]
    · rw [if_neg c, L_begins R n (k + 1) _ (by omega) j]
      by_cases d : R + 23 + (k + 1) ≤ j ∧ j < R + 31
      · rw [if_pos d, if_pos (by omega)]
      · rw [if_neg d]
        by_cases f : j = R + k + 23
        · subst f
          rw [pk_us, if_pos (by omega)]
        · rw [pk_un f, if_neg (by omega)]
theorem begins_at (w : Nat → Int32) (R : Nat) (kd : Int32) (j : Nat) : F_X6_begins w R kd j = if R + 23 ≤ j ∧ j < R + 31 then nI 5 else if j = R + 2 then -1 else if j = R + 1 then kd else if R ≤ j ∧ j < R + 148 then nI 0 else w j := by
  have h : F_X6_begins w R kd j = (F_X6_begins_L25 9 R 0 (upd (upd (F_X6_empties w R) (R + 1) kd) (R + 2) (-1))).2 j := rfl
  rw [h, L_begins R 9 0 _ (by decide) j]
  by_cases a : R + 23 ≤ j ∧ j < R + 31
  · rw [if_pos (by omega), if_pos a]
  · rw [if_neg (by omega), if_neg a]
    by_cases b : j = R + 2
    · rw [if_pos b, b, pk_us]
    · rw [if_neg b, pk_un b]
      by_cases d : j = R + 1
      · rw [if_pos d, d, pk_us]
      · rw [if_neg d, pk_un d, empties_at]
theorem addsBatter_at (w : Nat → Int32) (R : Nat) (kd lg : Int32) (pN : okN (w (R + 2))) (pB : inB (w R) 5) : inB (F_X6_addsBatter w R kd lg R) 6 ∧ okN (F_X6_addsBatter w R kd lg (R + 2)) ∧ ∀ j, (j < R ∨ R + 23 ≤ j) → F_X6_addsBatter w R kd lg j = w j := by
  have hb := pB.2
  unfold F_X6_addsBatter
  simp only [let1]
  split
  · refine ⟨?_, ?_, fun j hj => ?_⟩
    · rw [pk_un (by omega), pk_us]; exact inB_nI (by omega) (by decide)
    · rw [pk_us]; exact okN_nI (by omega)
    · rw [pk_un (by omega), pk_un (by omega), pk_un (by omega), pk_un (by omega), pk_un (by omega)]
  · refine ⟨?_, ?_, fun j hj => ?_⟩
    · rw [pk_un (by omega), pk_us]; exact inB_nI (by omega) (by decide)
    · rw [pk_us]; exact pN
    · rw [pk_un (by omega), pk_un (by omega), pk_un (by omega), pk_un (by omega), pk_un (by omega)]
/-- what holds of the field that is read -/
def okW (td : Int32) (po : Nat) (w : Nat → Int32) : Prop := po ≤ tN td ∧ inB (w 444) 6 ∧ okN (w 446)
theorem readsField_at {w w' tx : Nat → Int32} {td : Int32} {po po' st' nu' : Nat} {z : Bool} (e : F_X6_readsField w tx td po = (z, po', st', nu', w')) (h : okW td po w) : okW td po' w' ∧ po ≤ po' ∧ ∀ j, j < 444 → w' j = w j := by
  obtain ⟨hp, hB, hN⟩ := h
  unfold F_X6_readsField at e
  cases hb : F_X6_takesNumber tx td po 0 5 with
  | mk z1 r1 =>
  obtain ⟨p1, s1, n1⟩ := r1
  rw [hb] at e
  simp only [let4, let1] at e
  obtain ⟨h1, h2, h3, -⟩ := takesNumber_at hb hp
  split at e
  · have e1 := (Prod.mk.inj (Prod.mk.inj e).2).1
    have e2 := (Prod.mk.inj (Prod.mk.inj (Prod.mk.inj (Prod.mk.inj e).2).2).2).2
    rw [← e1, ← e2]
    refine ⟨⟨h3, ?_, ?_⟩, by omega, fun j hj => ?_⟩
    · rw [begins_at, if_neg (by omega), if_neg (by omega), if_neg (by omega), if_pos (by omega)]; exact inB_nI (by decide) (by decide)
    · rw [begins_at, if_neg (by omega), if_pos (by omega)]; exact Or.inl rfl
    · rw [begins_at, if_neg (by omega), if_neg (by omega), if_neg (by omega), if_neg (by omega)]
  · have e1 := (Prod.mk.inj (Prod.mk.inj e).2).1
    have e2 := (Prod.mk.inj (Prod.mk.inj (Prod.mk.inj (Prod.mk.inj e).2).2).2).2
    rw [← e1, ← e2]
    exact ⟨⟨h3, hB, hN⟩, by omega, fun _ _ => rfl⟩
theorem readsBatter_at {w w' tx : Nat → Int32} {td st nu st' nu' : Int32} {po po' : Nat} {z : Bool} (e : F_X6_readsBatter w tx td po st nu = (z, po', st', nu', w')) (h : okW td po w) : okW td po' w' ∧ po ≤ po' ∧ ∀ j, j < 444 → w' j = w j := by
  obtain ⟨hp, hB, hN⟩ := h
  unfold F_X6_readsBatter at e
  split at e
  · have e1 := (Prod.mk.inj (Prod.mk.inj e).2).1
    have e2 := (Prod.mk.inj (Prod.mk.inj (Prod.mk.inj (Prod.mk.inj e).2).2).2).2
    rw [← e1, ← e2]
    exact ⟨⟨hp, hB, hN⟩, by omega, fun _ _ => rfl⟩
  · next c =>
    cases hb : F_X6_takesNumber tx td po 0 5 with
    | mk z1 r1 =>
    obtain ⟨p1, s1, n1⟩ := r1
    rw [hb] at e
    simp only [let4] at e
    obtain ⟨h1, h2, h3, -⟩ := takesNumber_at hb hp
    split at e
    · cases hb2 : F_X6_takesNumber tx td p1 1 5 with
      | mk z2 r2 =>
      obtain ⟨p2, s2, n2⟩ := r2
      rw [hb2] at e
      simp only [let1] at e
      obtain ⟨h4, h5, h6, -⟩ := takesNumber_at hb2 h3
      split at e
      · have e1 := (Prod.mk.inj (Prod.mk.inj e).2).1
        have e2 := (Prod.mk.inj (Prod.mk.inj (Prod.mk.inj (Prod.mk.inj e).2).2).2).2
        rw [← e1, ← e2]
        have hB5 : inB (w 444) 5 := ⟨hB.1, by have := hB.2; omega⟩
        obtain ⟨g1, g2, g3⟩ := addsBatter_at w 444 (nI n1) (nI n2) hN hB5
        exact ⟨⟨h6, g1, g2⟩, by omega, fun j hj => g3 j (by omega)⟩
      · have e1 := (Prod.mk.inj (Prod.mk.inj e).2).1
        have e2 := (Prod.mk.inj (Prod.mk.inj (Prod.mk.inj (Prod.mk.inj e).2).2).2).2
        rw [← e1, ← e2]
        exact ⟨⟨h6, hB, hN⟩, by omega, fun _ _ => rfl⟩
    · have e1 := (Prod.mk.inj (Prod.mk.inj e).2).1
      have e2 := (Prod.mk.inj (Prod.mk.inj (Prod.mk.inj (Prod.mk.inj e).2).2).2).2
      rw [← e1, ← e2]
      exact ⟨⟨h3, hB, hN⟩, by omega, fun _ _ => rfl⟩
theorem batsScores_at {w : Nat → Int32} {h : Int32} (hB : inB (w 444) 6) (hI : inB (w 446) 5) : inB ((F_X6_scores (F_X6_bats w 444 h).2 444 (F_X6_bats w 444 h).1).2 444) 6 ∧ okN ((F_X6_scores (F_X6_bats w 444 h).2 444 (F_X6_bats w 444 h).1).2 446) ∧ ∀ j, j < 444 → (F_X6_scores (F_X6_bats w 444 h).2 444 (F_X6_bats w 444 h).1).2 j = w j := by
  have h1 := bats_at (w := w) (R := 444) (h := h) (r := (F_X6_bats w 444 h).1) (w' := (F_X6_bats w 444 h).2) rfl hB hI
  have h2 := scores_keep (w := (F_X6_bats w 444 h).2) (R := 444) (mo := (F_X6_bats w 444 h).1) (r := (F_X6_scores (F_X6_bats w 444 h).2 444 (F_X6_bats w 444 h).1).1) (w' := (F_X6_scores (F_X6_bats w 444 h).2 444 (F_X6_bats w 444 h).1).2) rfl
  refine ⟨?_, ?_, fun j hj => ?_⟩
  · rw [h2 444 (by decide), h1.2 444 (by decide) (by decide) (by decide)]; exact hB
  · rw [h2 446 (by decide)]; exact h1.1
  · rw [h2 j (by omega), h1.2 j (by omega) (by omega) (by omega)]
/-- what a loop over a ball's hits leaves -/
def ballQ (td : Int32) (pp : Nat) (w : Nat → Int32) (x : ((Nat) × (Bool) × (Nat) × (Int32) × (Int32) × (Nat → Int32)) ⊕ (Bool × (Nat) × (Int32) × (Int32) × (Nat → Int32))) : Prop := match x with
  | .inl (_, _, p1, _, _, w1) => okW td p1 w1 ∧ pp ≤ p1 ∧ ∀ j, j < 444 → w1 j = w j
  | .inr (z, _, _, _, w1) => z = false ∧ ∀ j, j < 444 → w1 j = w j
theorem ballQ_le {td : Int32} {a b : Nat} {w w2 : Nat → Int32} {x : ((Nat) × (Bool) × (Nat) × (Int32) × (Int32) × (Nat → Int32)) ⊕ (Bool × (Nat) × (Int32) × (Int32) × (Nat → Int32))} (h : a ≤ b) (hw : ∀ j, j < 444 → w2 j = w j) (hx : ballQ td b w2 x) : ballQ td a w x := by
  rcases x with ⟨a1, a2, a3, a4, a5, a6⟩ | ⟨b1, b2, b3, b4, b5⟩
  · exact ⟨hx.1, Nat.le_trans h hx.2.1, fun j hj => (hx.2.2 j hj).trans (hw j hj)⟩
  · exact ⟨hx.1, fun j hj => (hx.2 j hj).trans (hw j hj)⟩
theorem L_readsBall (tx : Nat → Int32) (td : Int32) : ∀ (n n1 : Nat) (mz : Bool) (pp : Nat) (s1 m1 : Int32) (w1 : Nat → Int32), okW td pp w1 → ballQ td pp w1 (F_X6_readsBall_L4 n tx td n1 mz pp s1 m1 w1)
  | 0, _, _, _, _, _, _, h => ⟨h, Nat.le_refl _, fun _ _ => rfl⟩
  | n + 1, n1, mz, pp, s1, m1, w1, h => by
    obtain ⟨hp, hB, hN⟩ := h
    rw [F_X6_readsBall_L4]
    split
    · split
      · exact ⟨rfl, fun _ _ => rfl⟩
      · cases hb : F_X6_takesNumber tx td pp 0 9 with
        | mk z1 r1 =>
        obtain ⟨p1, st1, nu1⟩ := r1
        simp only [let4, let1, let2]
        obtain ⟨h1, h2, h3, -⟩ := takesNumber_at hb hp
        split
        · split
          · exact ⟨rfl, fun _ _ => rfl⟩
          · next cd =>
            have hI : inB (w1 446) 5 := hN.resolve_left (isDone_no (w := w1) (R := 444) rfl cd)
            obtain ⟨g1, g2, g3⟩ := batsScores_at (h := nI nu1) hB hI
            cases hb2 : F_X6_blanks tx td p1 with
            | mk p2 st2 =>
            obtain ⟨k1, k2, -⟩ := blanks_at hb2 h3
            have key : ∀ (m : Nat) (mz2 : Bool) (s2 m2 : Int32), ballQ td pp w1 (F_X6_readsBall_L4 n tx td m mz2 p2 s2 m2 (F_X6_scores (F_X6_bats w1 444 (nI nu1)).2 444 (F_X6_bats w1 444 (nI nu1)).1).2) := fun m mz2 s2 m2 => ballQ_le (by omega) g3 (L_readsBall tx td n m mz2 p2 s2 m2 _ ⟨k2, g1, g2⟩)
            split
            · split
              · exact key _ _ _ _
              · exact key _ _ _ _
            · split
              · exact key _ _ _ _
              · exact key _ _ _ _
        · exact ⟨rfl, fun _ _ => rfl⟩
    · exact ⟨⟨hp, hB, hN⟩, Nat.le_refl _, fun _ _ => rfl⟩
theorem readsBall_at {w w' tx : Nat → Int32} {td st nu st' nu' : Int32} {po po' : Nat} {z : Bool} (e : F_X6_readsBall w tx td po st nu = (z, po', st', nu', w')) (h : okW td po w) : (z = true → okW td po' w' ∧ po ≤ po') ∧ ∀ j, j < 444 → w' j = w j := by
  have hq := L_readsBall tx td 151 0 true po st nu w h
  unfold F_X6_readsBall at e
  rcases hx : F_X6_readsBall_L4 151 tx td 0 true po st nu w with ⟨a1, a2, a3, a4, a5, a6⟩ | ⟨b1, b2, b3, b4, b5⟩
  · rw [hx] at e hq
    rw [sel6_inl a1 a2 a3 a4 a5 a6] at e
    have e1 := (Prod.mk.inj (Prod.mk.inj e).2).1
    have e2 := (Prod.mk.inj (Prod.mk.inj (Prod.mk.inj (Prod.mk.inj e).2).2).2).2
    rw [← e1, ← e2]
    exact ⟨fun _ => ⟨hq.1, hq.2.1⟩, hq.2.2⟩
  · rw [hx] at e hq
    rw [sel6_inr] at e
    have e0 := (Prod.mk.inj e).1
    have e2 := (Prod.mk.inj (Prod.mk.inj (Prod.mk.inj (Prod.mk.inj e).2).2).2).2
    rw [← e0, ← e2]
    exact ⟨fun q => absurd (hq.1.symm.trans q) (by decide), hq.2⟩
def F_X6_readsItem (w : Nat → Int32) (tx : Nat → Int32) (td : Int32) (po : Nat) (nu : Int32) (fst : Bool) : Bool × (Nat) × (Int32) × (Int32) × (Nat → Int32) := let2 (F_X6_takesWord tx td po) (fun po_1 st_1 => let1 (F_X6_wordOf tx po_1 st_1) (fun r_5 => if r_5 = (nI 1) then (if fst = true then let5 (F_X6_readsField w tx td po_1) (fun z_31 po_31 st_31 nu_31 w_31 => if z_31 = true then let3 (F_X6_takesEnd tx td po_31) (fun z_72 po_72 st_72 => if z_72 = true then (true, po_72, (nI st_72), (nI nu_31), w_31) else (false, po_72, (nI st_72), (nI nu_31), w_31)) else (false, po_31, (nI st_31), (nI nu_31), w_31)) else (false, po_1, (nI st_1), nu, w)) else (if fst = true then (false, po_1, (nI st_1), nu, w) else (if r_5 = (nI 2) then let5 (F_X6_readsBatter w tx td po_1 (nI st_1) nu) (fun z_43 po_43 st_43 nu_43 w_43 => if z_43 = true then let3 (F_X6_takesEnd tx td po_43) (fun z_72 po_72 st_72 => if z_72 = true then (true, po_72, (nI st_72), nu_43, w_43) else (false, po_72, (nI st_72), nu_43, w_43)) else (false, po_43, st_43, nu_43, w_43)) else (if r_5 = (nI 3) then let5 (F_X6_readsBall w tx td po_1 (nI st_1) nu) (fun z_55 po_55 st_55 nu_55 w_55 => if z_55 = true then let3 (F_X6_takesEnd tx td po_55) (fun z_72 po_72 st_72 => if z_72 = true then (true, po_72, (nI st_72), nu_55, w_55) else (false, po_72, (nI st_72), nu_55, w_55)) else (false, po_55, st_55, nu_55, w_55)) else (false, po_1, (nI st_1), nu, w))))))
set_option maxHeartbeats 4000000 in
set_option maxRecDepth 100000 in
theorem c_X6_readsItem (l : Launch) (dC : Nat → ClassId) (dI : Nat → Nat → Nat) (q : Nat → Nat) (cI cZ : ClassId) (sz : Nat) (w : Nat → Int32) (kp : Nat → Int32) (tx : Nat → Int32) (td : Int32) (ab : Int64) (be : Int64) (su : Nat → Int32) (po : Nat) (st : Int32) (nu : Int32) (li : Nat → Int32) (fi : Nat → Int32) (ga : Nat → Int32) (hh : Int64) (fst : Bool) (pTd : inB td 150) (hp : po ≤ tN td) (pB : inB (w 444) 6) (pN : okN (w 446)) : Met l yX6_readsItem wsX6_readsItem { frames := 6, cells := 0, slots := 0, locals := 139 } (mPc (dC, dI) vwCl (mT cI cZ) (mW q cI cZ w kp tx td ab be su (nI po) st nu li fi ga hh) sz [.ref (q 0), .int (if fst = true then 1 else 0)]) (va_Qi (fun (r : Int32) (u : (Nat) × (Int32) × (Int32) × (Nat → Int32)) => ∃ z : Bool, F_X6_readsItem w tx td po nu fst = (z, u) ∧ r = if z = true then 1 else 0) (mB (dC, dI) vwCl (mT cI cZ) (va_A (mW q cI cZ w kp tx td ab be su (nI po) st nu li fi ga hh) sz) (fun u => mW q cI cZ u.2.2.2 kp tx td ab be su (nI u.1) u.2.1 u.2.2.1 li fi ga hh)) (va_A (mW q cI cZ w kp tx td ab be su (nI po) st nu li fi ga hh) sz)) 0 0 (va_A (mW q cI cZ w kp tx td ab be su (nI po) st nu li fi ga hh) sz) := by
  refine Met.ofW (cc := cX6_readsItem) (maxL := 4) (ret := (some .boolean)) (by decide) rfl ?_
  intro p e s m args below meth c s₁ B hml hv
  obtain ⟨rfl, hsz, hP, hK, hD0⟩ := hv
  have hx := B.exec
  have hb := B.bytes
  have hr := B.returns
  have hts := atoms_spec (ws := wsX6_readsItem) B.pre
  have hown : s.vm.findClass RX6 = some m.cls := findClass_of_methodNamed B.named
  have hlocks := B.notSynchronized
  subst hsz
  have hD := hD0.self (sz := s.heap.size)
  generalize hAe : va_A (mW q cI cZ w kp tx td ab be su (nI po) st nu li fi ga hh) s.heap.size = A at hD ⊢
  have hA : ∀ q : Nat, s.heap.size ≤ q → A q := fun q h => by rw [← hAe]; exact Or.inr h
  have hS : va_S A s.heap s.heap [] := va_S.rf
  have hl := lv_entry ([.ref (q 0), .int (if fst = true then 1 else 0)]) (n := 4) (Nat.le_of_ble_eq_true rfl)
  rw [lg_entry_eq]
  generalize (lg_sl ([.ref (q 0), .int (if fst = true then 1 else 0)]) ++ List.replicate (4 - (lg_sl ([.ref (q 0), .int (if fst = true then 1 else 0)])).length) Slot.unset).toArray = ls at hl ⊢
  have hl : lv_has ls 4 [(0, .ref (q 0)), (1, .int (if fst = true then 1 else 0))] := hl
  obtain ⟨OUT, hO⟩ : ∃ z, z = F_X6_readsItem w tx td po nu fst := ⟨_, rfl⟩
  have hF := hO
  unfold F_X6_readsItem at hF
  have e_pTd := tN_eq pTd.1
  have b_pTd := pTd.2
  have e_pB := tN_eq pB.1
  have b_pB := pB.2
  refine lv_aload_n hx hb dX6_readsItem_0 rfl (lv_at hl 0 rfl) ?_
  refine qc_Vv (C := RX6) (As := []) (rest := []) (ci := 6) (k0 := 0) ⟨hx, hb, hml, hown, hts⟩ (c_X6_takesWord l dC dI q cI cZ s.heap.size w kp tx td ab be su po st nu li fi ga hh  (pTd : inB td 150) (by omega)) (cwV 0 hts gX6_readsItem_X6_takesWord rfl rfl rfl (by decide +kernel) ⟨Nat.le_of_ble_eq_true rfl, Nat.le_of_ble_eq_true rfl⟩) hK hP hD hS hA rfl rfl rfl rfl hl.1 rfl (Nat.le_of_ble_eq_true rfl) dX6_readsItem_1 ⟨Nat.zero_le _, Nat.zero_le _⟩ (fun u_1 H locs hw_1 hP hD hS => ?_)
  obtain ⟨po_1, st_1⟩ := u_1
  have hP : va_P (dC, dI) vwCl (mW q cI cZ w kp tx td ab be su (nI po_1) (nI st_1) nu li fi ga hh) H := hP
  have hD : va_D A (mW q cI cZ w kp tx td ab be su (nI po_1) (nI st_1) nu li fi ga hh) := hD
  have a_1 := takesWord_at hw_1 (by omega)
  rw [hw_1, let2_mk po_1 st_1] at hF
  refine lv_aload_n hx hb dX6_readsItem_4 rfl (lv_at hl 0 rfl) ?_
  refine qc_Vi (C := RX6) (As := []) (rest := []) (ci := 6) (k0 := 0) ⟨hx, hb, hml, hown, hts⟩ (c_X6_wordOf l dC dI q cI cZ H.size w kp tx td ab be su po_1 st_1 nu li fi ga hh  (pTd : inB td 150) (by omega) (by omega)) (cwV 0 hts gX6_readsItem_X6_wordOf rfl rfl rfl (by decide +kernel) ⟨Nat.le_of_ble_eq_true rfl, Nat.le_of_ble_eq_true rfl⟩) hK hP hD hS hA rfl rfl rfl rfl hl.1 rfl (Nat.le_of_ble_eq_true rfl) dX6_readsItem_5 ⟨Nat.zero_le _, Nat.zero_le _⟩ (fun r_5 u_5 H locs hw_5 hP hD hS => ?_)
  rw [hw_5, let1_mk r_5] at hF
  refine lv_istore_n (lv' := [(2, .int r_5), (0, .ref (q 0)), (1, .int (if fst = true then 1 else 0))]) hx hb dX6_readsItem_8 rfl hl (by decide) rfl (fun ls hl => ?_)
  refine lv_iload_n hx hb dX6_readsItem_9 rfl (lv_at hl 2 rfl) ?_
  refine lv_iload_n hx hb dX6_readsItem_10 rfl (lv_at hl 0 rfl) ?_
  refine lv_iconst (v := nI 1) hx hb dX6_readsItem_11 (by decide) ?_
  refine lv_icmp_ne (tgt := 19) hx hb dX6_readsItem_12 (by decide) (fun c_12 => ?_) (fun c_12 => ?_)
  · rw [if_neg c_12] at hF
    refine lv_iconst (v := nI 0) hx hb dX6_readsItem_19 (by decide) ?_
    refine qv_zcmp0_eq (tgt := 25) hx hb dX6_readsItem_20 (by decide) (fun c_20 => ?_) (fun c_20 => ?_)
    · rw [if_neg c_20] at hF
      refine lv_iload_n hx hb dX6_readsItem_25 rfl (lv_at hl 0 rfl) ?_
      refine lv_iconst (v := nI 1) hx hb dX6_readsItem_26 (by decide) ?_
      refine lv_icmp_ne (tgt := 37) hx hb dX6_readsItem_27 (by decide) (fun _ => ?_) (fun c_27 => absurd c_27 c_12)
      refine lv_iload_n hx hb dX6_readsItem_37 rfl (lv_at hl 0 rfl) ?_
      refine lv_iconst (v := nI 2) hx hb dX6_readsItem_38 (by decide) ?_
      refine lv_icmp_ne (tgt := 49) hx hb dX6_readsItem_39 (by decide) (fun c_39 => ?_) (fun c_39 => ?_)
      · rw [if_neg c_39] at hF
        refine lv_iload_n hx hb dX6_readsItem_49 rfl (lv_at hl 0 rfl) ?_
        refine lv_iconst (v := nI 3) hx hb dX6_readsItem_50 (by decide) ?_
        refine lv_icmp_ne (tgt := 65) hx hb dX6_readsItem_51 (by decide) (fun c_51 => ?_) (fun c_51 => ?_)
        · rw [if_neg c_51] at hF
          refine lv_iconst (v := nI 0) hx hb dX6_readsItem_65 (by decide) ?_
          refine lv_istore_n (lv' := [(3, .int (nI 0)), (2, .int r_5), (0, .ref (q 0)), (1, .int (if fst = true then 1 else 0))]) hx hb dX6_readsItem_66 rfl hl (by decide) rfl (fun ls hl => ?_)
          refine lv_iload_n hx hb dX6_readsItem_67 rfl (lv_at hl 0 rfl) ?_
          refine qv_if_eq (tgt := 82) hx hb dX6_readsItem_68 (by decide) (by omega) (fun _ => ?_) (fun c_68 => absurd c_68 (by decide))
          refine lv_iconst (v := nI 0) hx hb dX6_readsItem_82 (by decide) ?_
          have hP9 : va_P (dC, dI) vwCl (mW q cI cZ w kp tx td ab be su (nI po_1) (nI st_1) nu li fi ga hh) H := hP
          exact W.zret (v := nI 0) hx hb hr (by rfl) (fun t ht hW => ⟨⟨_, ((po_1, nI st_1, nu, w)), rfl, ⟨false, hO.symm.trans hF, rfl⟩, by rw [ht]; exact hP9, va_K.moved hW.alike hK, hD⟩, hS.F ht⟩) hS.2.2 dX6_readsItem_83
        · rw [if_pos c_51] at hF
          refine lv_aload_n hx hb dX6_readsItem_54 rfl (lv_at hl 1 rfl) ?_
          refine qc_Vi (C := RX6) (As := []) (rest := []) (ci := 6) (k0 := 0) ⟨hx, hb, hml, hown, hts⟩ (c_X6_readsBall l dC dI q cI cZ H.size w kp tx td ab be su po_1 (nI st_1) nu li fi ga hh  (pTd : inB td 150) (by omega) (pB : inB (w 444) 6) (pN : okN (w 446))) (cwV 0 hts gX6_readsItem_X6_readsBall rfl rfl rfl (by decide +kernel) ⟨Nat.le_of_ble_eq_true rfl, Nat.le_of_ble_eq_true rfl⟩) hK hP hD hS hA rfl rfl rfl rfl hl.1 rfl (Nat.le_of_ble_eq_true rfl) dX6_readsItem_55 ⟨Nat.zero_le _, Nat.zero_le _⟩ (fun r_55 u_55 H locs hw_55 hP hD hS => ?_)
          obtain ⟨po_55, st_55, nu_55, w_55⟩ := u_55
          have hP : va_P (dC, dI) vwCl (mW q cI cZ w_55 kp tx td ab be su (nI po_55) st_55 nu_55 li fi ga hh) H := hP
          have hD : va_D A (mW q cI cZ w_55 kp tx td ab be su (nI po_55) st_55 nu_55 li fi ga hh) := hD
          obtain ⟨z_55, hw_55, rfl⟩ := hw_55
          have a_55 := readsBall_at hw_55 ⟨by omega, pB, pN⟩
          rw [hw_55, let5_mk z_55 po_55 st_55 nu_55 w_55] at hF
          refine qv_zif_eq (tgt := 65) hx hb dX6_readsItem_58 (by decide) (fun c_58 => ?_) (fun c_58 => ?_)
          · rw [if_neg c_58] at hF
            refine lv_iconst (v := nI 0) hx hb dX6_readsItem_65 (by decide) ?_
            refine lv_istore_n (lv' := [(3, .int (nI 0)), (2, .int r_5), (0, .ref (q 0)), (1, .int (if fst = true then 1 else 0))]) hx hb dX6_readsItem_66 rfl hl (by decide) rfl (fun ls hl => ?_)
            refine lv_iload_n hx hb dX6_readsItem_67 rfl (lv_at hl 0 rfl) ?_
            refine qv_if_eq (tgt := 82) hx hb dX6_readsItem_68 (by decide) (by omega) (fun _ => ?_) (fun c_68 => absurd c_68 (by decide))
            refine lv_iconst (v := nI 0) hx hb dX6_readsItem_82 (by decide) ?_
            have hP9 : va_P (dC, dI) vwCl (mW q cI cZ w_55 kp tx td ab be su (nI po_55) st_55 nu_55 li fi ga hh) H := hP
            exact W.zret (v := nI 0) hx hb hr (by rfl) (fun t ht hW => ⟨⟨_, ((po_55, st_55, nu_55, w_55)), rfl, ⟨false, hO.symm.trans hF, rfl⟩, by rw [ht]; exact hP9, va_K.moved hW.alike hK, hD⟩, hS.F ht⟩) hS.2.2 dX6_readsItem_83
          · rw [if_pos c_58] at hF
            have p_61 := (a_55.1 c_58).1.1
            refine lv_iconst (v := nI 1) hx hb dX6_readsItem_61 (by decide) ?_
            refine lv_goto (tgt := 66) hx hb dX6_readsItem_62 (by decide) ?_
            refine lv_istore_n (lv' := [(3, .int (nI 1)), (2, .int r_5), (0, .ref (q 0)), (1, .int (if fst = true then 1 else 0))]) hx hb dX6_readsItem_66 rfl hl (by decide) rfl (fun ls hl => ?_)
            refine lv_iload_n hx hb dX6_readsItem_67 rfl (lv_at hl 0 rfl) ?_
            refine qv_if_eq (tgt := 82) hx hb dX6_readsItem_68 (by decide) (by omega) (fun c_68 => absurd c_68 (by decide)) (fun _ => ?_)
            refine lv_aload_n hx hb dX6_readsItem_71 rfl (lv_at hl 2 rfl) ?_
            refine qc_Vi (C := RX6) (As := []) (rest := []) (ci := 6) (k0 := 0) ⟨hx, hb, hml, hown, hts⟩ (c_X6_takesEnd l dC dI q cI cZ H.size w_55 kp tx td ab be su po_55 st_55 nu_55 li fi ga hh  (pTd : inB td 150) (by omega)) (cwV 0 hts gX6_readsItem_X6_takesEnd rfl rfl rfl (by decide +kernel) ⟨Nat.le_of_ble_eq_true rfl, Nat.le_of_ble_eq_true rfl⟩) hK hP hD hS hA rfl rfl rfl rfl hl.1 rfl (Nat.le_of_ble_eq_true rfl) dX6_readsItem_72 ⟨Nat.zero_le _, Nat.zero_le _⟩ (fun r_72 u_72 H locs hw_72 hP hD hS => ?_)
            obtain ⟨po_72, st_72⟩ := u_72
            have hP : va_P (dC, dI) vwCl (mW q cI cZ w_55 kp tx td ab be su (nI po_72) (nI st_72) nu_55 li fi ga hh) H := hP
            have hD : va_D A (mW q cI cZ w_55 kp tx td ab be su (nI po_72) (nI st_72) nu_55 li fi ga hh) := hD
            obtain ⟨z_72, hw_72, rfl⟩ := hw_72
            rw [hw_72, let3_mk z_72 po_72 st_72] at hF
            refine qv_zif_eq (tgt := 82) hx hb dX6_readsItem_75 (by decide) (fun c_75 => ?_) (fun c_75 => ?_)
            · rw [if_neg c_75] at hF
              refine lv_iconst (v := nI 0) hx hb dX6_readsItem_82 (by decide) ?_
              have hP9 : va_P (dC, dI) vwCl (mW q cI cZ w_55 kp tx td ab be su (nI po_72) (nI st_72) nu_55 li fi ga hh) H := hP
              exact W.zret (v := nI 0) hx hb hr (by rfl) (fun t ht hW => ⟨⟨_, ((po_72, nI st_72, nu_55, w_55)), rfl, ⟨false, hO.symm.trans hF, rfl⟩, by rw [ht]; exact hP9, va_K.moved hW.alike hK, hD⟩, hS.F ht⟩) hS.2.2 dX6_readsItem_83
            · rw [if_pos c_75] at hF
              refine lv_iconst (v := nI 1) hx hb dX6_readsItem_78 (by decide) ?_
              refine lv_goto (tgt := 83) hx hb dX6_readsItem_79 (by decide) ?_
              have hP9 : va_P (dC, dI) vwCl (mW q cI cZ w_55 kp tx td ab be su (nI po_72) (nI st_72) nu_55 li fi ga hh) H := hP
              exact W.zret (v := nI 1) hx hb hr (by rfl) (fun t ht hW => ⟨⟨_, ((po_72, nI st_72, nu_55, w_55)), rfl, ⟨true, hO.symm.trans hF, rfl⟩, by rw [ht]; exact hP9, va_K.moved hW.alike hK, hD⟩, hS.F ht⟩) hS.2.2 dX6_readsItem_83
      · rw [if_pos c_39] at hF
        refine lv_aload_n hx hb dX6_readsItem_42 rfl (lv_at hl 1 rfl) ?_
        refine qc_Vi (C := RX6) (As := []) (rest := []) (ci := 6) (k0 := 0) ⟨hx, hb, hml, hown, hts⟩ (c_X6_readsBatter l dC dI q cI cZ H.size w kp tx td ab be su po_1 (nI st_1) nu li fi ga hh  (pTd : inB td 150) (by omega) (pB : inB (w 444) 6)) (cwV 0 hts gX6_readsItem_X6_readsBatter rfl rfl rfl (by decide +kernel) ⟨Nat.le_of_ble_eq_true rfl, Nat.le_of_ble_eq_true rfl⟩) hK hP hD hS hA rfl rfl rfl rfl hl.1 rfl (Nat.le_of_ble_eq_true rfl) dX6_readsItem_43 ⟨Nat.zero_le _, Nat.zero_le _⟩ (fun r_43 u_43 H locs hw_43 hP hD hS => ?_)
        obtain ⟨po_43, st_43, nu_43, w_43⟩ := u_43
        have hP : va_P (dC, dI) vwCl (mW q cI cZ w_43 kp tx td ab be su (nI po_43) st_43 nu_43 li fi ga hh) H := hP
        have hD : va_D A (mW q cI cZ w_43 kp tx td ab be su (nI po_43) st_43 nu_43 li fi ga hh) := hD
        obtain ⟨z_43, hw_43, rfl⟩ := hw_43
        have a_43 := readsBatter_at hw_43 ⟨by omega, pB, pN⟩
        have p_43 := a_43.1.1
        rw [hw_43, let5_mk z_43 po_43 st_43 nu_43 w_43] at hF
        refine lv_goto (tgt := 66) hx hb dX6_readsItem_46 (by decide) ?_
        refine lv_istore_n (lv' := [(3, .int (if z_43 = true then 1 else 0)), (2, .int r_5), (0, .ref (q 0)), (1, .int (if fst = true then 1 else 0))]) hx hb dX6_readsItem_66 rfl hl (by decide) rfl (fun ls hl => ?_)
        refine lv_iload_n hx hb dX6_readsItem_67 rfl (lv_at hl 0 rfl) ?_
        refine qv_zif_eq (tgt := 82) hx hb dX6_readsItem_68 (by decide) (fun c_68 => ?_) (fun c_68 => ?_)
        · rw [if_neg c_68] at hF
          refine lv_iconst (v := nI 0) hx hb dX6_readsItem_82 (by decide) ?_
          have hP9 : va_P (dC, dI) vwCl (mW q cI cZ w_43 kp tx td ab be su (nI po_43) st_43 nu_43 li fi ga hh) H := hP
          exact W.zret (v := nI 0) hx hb hr (by rfl) (fun t ht hW => ⟨⟨_, ((po_43, st_43, nu_43, w_43)), rfl, ⟨false, hO.symm.trans hF, rfl⟩, by rw [ht]; exact hP9, va_K.moved hW.alike hK, hD⟩, hS.F ht⟩) hS.2.2 dX6_readsItem_83
        · rw [if_pos c_68] at hF
          refine lv_aload_n hx hb dX6_readsItem_71 rfl (lv_at hl 2 rfl) ?_
          refine qc_Vi (C := RX6) (As := []) (rest := []) (ci := 6) (k0 := 0) ⟨hx, hb, hml, hown, hts⟩ (c_X6_takesEnd l dC dI q cI cZ H.size w_43 kp tx td ab be su po_43 st_43 nu_43 li fi ga hh  (pTd : inB td 150) (by omega)) (cwV 0 hts gX6_readsItem_X6_takesEnd rfl rfl rfl (by decide +kernel) ⟨Nat.le_of_ble_eq_true rfl, Nat.le_of_ble_eq_true rfl⟩) hK hP hD hS hA rfl rfl rfl rfl hl.1 rfl (Nat.le_of_ble_eq_true rfl) dX6_readsItem_72 ⟨Nat.zero_le _, Nat.zero_le _⟩ (fun r_72 u_72 H locs hw_72 hP hD hS => ?_)
          obtain ⟨po_72, st_72⟩ := u_72
          have hP : va_P (dC, dI) vwCl (mW q cI cZ w_43 kp tx td ab be su (nI po_72) (nI st_72) nu_43 li fi ga hh) H := hP
          have hD : va_D A (mW q cI cZ w_43 kp tx td ab be su (nI po_72) (nI st_72) nu_43 li fi ga hh) := hD
          obtain ⟨z_72, hw_72, rfl⟩ := hw_72
          rw [hw_72, let3_mk z_72 po_72 st_72] at hF
          refine qv_zif_eq (tgt := 82) hx hb dX6_readsItem_75 (by decide) (fun c_75 => ?_) (fun c_75 => ?_)
          · rw [if_neg c_75] at hF
            refine lv_iconst (v := nI 0) hx hb dX6_readsItem_82 (by decide) ?_
            have hP9 : va_P (dC, dI) vwCl (mW q cI cZ w_43 kp tx td ab be su (nI po_72) (nI st_72) nu_43 li fi ga hh) H := hP
            exact W.zret (v := nI 0) hx hb hr (by rfl) (fun t ht hW => ⟨⟨_, ((po_72, nI st_72, nu_43, w_43)), rfl, ⟨false, hO.symm.trans hF, rfl⟩, by rw [ht]; exact hP9, va_K.moved hW.alike hK, hD⟩, hS.F ht⟩) hS.2.2 dX6_readsItem_83
          · rw [if_pos c_75] at hF
            refine lv_iconst (v := nI 1) hx hb dX6_readsItem_78 (by decide) ?_
            refine lv_goto (tgt := 83) hx hb dX6_readsItem_79 (by decide) ?_
            have hP9 : va_P (dC, dI) vwCl (mW q cI cZ w_43 kp tx td ab be su (nI po_72) (nI st_72) nu_43 li fi ga hh) H := hP
            exact W.zret (v := nI 1) hx hb hr (by rfl) (fun t ht hW => ⟨⟨_, ((po_72, nI st_72, nu_43, w_43)), rfl, ⟨true, hO.symm.trans hF, rfl⟩, by rw [ht]; exact hP9, va_K.moved hW.alike hK, hD⟩, hS.F ht⟩) hS.2.2 dX6_readsItem_83
    · rw [if_pos c_20] at hF
      refine lv_iconst (v := nI 0) hx hb dX6_readsItem_23 (by decide) ?_
      have hP9 : va_P (dC, dI) vwCl (mW q cI cZ w kp tx td ab be su (nI po_1) (nI st_1) nu li fi ga hh) H := hP
      exact W.zret (v := nI 0) hx hb hr (by rfl) (fun t ht hW => ⟨⟨_, ((po_1, nI st_1, nu, w)), rfl, ⟨false, hO.symm.trans hF, rfl⟩, by rw [ht]; exact hP9, va_K.moved hW.alike hK, hD⟩, hS.F ht⟩) hS.2.2 dX6_readsItem_24
  · rw [if_pos c_12] at hF
    refine lv_iconst (v := nI 1) hx hb dX6_readsItem_15 (by decide) ?_
    refine lv_goto (tgt := 20) hx hb dX6_readsItem_16 (by decide) ?_
    refine qv_zcmp1_eq (tgt := 25) hx hb dX6_readsItem_20 (by decide) (fun c_20 => ?_) (fun c_20 => ?_)
    · rw [if_pos c_20] at hF
      refine lv_iload_n hx hb dX6_readsItem_25 rfl (lv_at hl 0 rfl) ?_
      refine lv_iconst (v := nI 1) hx hb dX6_readsItem_26 (by decide) ?_
      refine lv_icmp_ne (tgt := 37) hx hb dX6_readsItem_27 (by decide) (fun c_27 => absurd c_12 c_27) (fun _ => ?_)
      refine lv_aload_n hx hb dX6_readsItem_30 rfl (lv_at hl 1 rfl) ?_
      refine qc_Vi (C := RX6) (As := []) (rest := []) (ci := 6) (k0 := 0) ⟨hx, hb, hml, hown, hts⟩ (c_X6_readsField l dC dI q cI cZ H.size w kp tx td ab be su po_1 (nI st_1) nu li fi ga hh  (pTd : inB td 150) (by omega)) (cwV 0 hts gX6_readsItem_X6_readsField rfl rfl rfl (by decide +kernel) ⟨Nat.le_of_ble_eq_true rfl, Nat.le_of_ble_eq_true rfl⟩) hK hP hD hS hA rfl rfl rfl rfl hl.1 rfl (Nat.le_of_ble_eq_true rfl) dX6_readsItem_31 ⟨Nat.zero_le _, Nat.zero_le _⟩ (fun r_31 u_31 H locs hw_31 hP hD hS => ?_)
      obtain ⟨po_31, st_31, nu_31, w_31⟩ := u_31
      have hP : va_P (dC, dI) vwCl (mW q cI cZ w_31 kp tx td ab be su (nI po_31) (nI st_31) (nI nu_31) li fi ga hh) H := hP
      have hD : va_D A (mW q cI cZ w_31 kp tx td ab be su (nI po_31) (nI st_31) (nI nu_31) li fi ga hh) := hD
      obtain ⟨z_31, hw_31, rfl⟩ := hw_31
      have a_31 := readsField_at hw_31 ⟨by omega, pB, pN⟩
      have p_31 := a_31.1.1
      rw [hw_31, let5_mk z_31 po_31 st_31 nu_31 w_31] at hF
      refine lv_goto (tgt := 66) hx hb dX6_readsItem_34 (by decide) ?_
      refine lv_istore_n (lv' := [(3, .int (if z_31 = true then 1 else 0)), (2, .int r_5), (0, .ref (q 0)), (1, .int (if fst = true then 1 else 0))]) hx hb dX6_readsItem_66 rfl hl (by decide) rfl (fun ls hl => ?_)
      refine lv_iload_n hx hb dX6_readsItem_67 rfl (lv_at hl 0 rfl) ?_
      refine qv_zif_eq (tgt := 82) hx hb dX6_readsItem_68 (by decide) (fun c_68 => ?_) (fun c_68 => ?_)
      · rw [if_neg c_68] at hF
        refine lv_iconst (v := nI 0) hx hb dX6_readsItem_82 (by decide) ?_
        have hP9 : va_P (dC, dI) vwCl (mW q cI cZ w_31 kp tx td ab be su (nI po_31) (nI st_31) (nI nu_31) li fi ga hh) H := hP
        exact W.zret (v := nI 0) hx hb hr (by rfl) (fun t ht hW => ⟨⟨_, ((po_31, nI st_31, nI nu_31, w_31)), rfl, ⟨false, hO.symm.trans hF, rfl⟩, by rw [ht]; exact hP9, va_K.moved hW.alike hK, hD⟩, hS.F ht⟩) hS.2.2 dX6_readsItem_83
      · rw [if_pos c_68] at hF
        refine lv_aload_n hx hb dX6_readsItem_71 rfl (lv_at hl 2 rfl) ?_
        refine qc_Vi (C := RX6) (As := []) (rest := []) (ci := 6) (k0 := 0) ⟨hx, hb, hml, hown, hts⟩ (c_X6_takesEnd l dC dI q cI cZ H.size w_31 kp tx td ab be su po_31 (nI st_31) (nI nu_31) li fi ga hh  (pTd : inB td 150) (by omega)) (cwV 0 hts gX6_readsItem_X6_takesEnd rfl rfl rfl (by decide +kernel) ⟨Nat.le_of_ble_eq_true rfl, Nat.le_of_ble_eq_true rfl⟩) hK hP hD hS hA rfl rfl rfl rfl hl.1 rfl (Nat.le_of_ble_eq_true rfl) dX6_readsItem_72 ⟨Nat.zero_le _, Nat.zero_le _⟩ (fun r_72 u_72 H locs hw_72 hP hD hS => ?_)
        obtain ⟨po_72, st_72⟩ := u_72
        have hP : va_P (dC, dI) vwCl (mW q cI cZ w_31 kp tx td ab be su (nI po_72) (nI st_72) (nI nu_31) li fi ga hh) H := hP
        have hD : va_D A (mW q cI cZ w_31 kp tx td ab be su (nI po_72) (nI st_72) (nI nu_31) li fi ga hh) := hD
        obtain ⟨z_72, hw_72, rfl⟩ := hw_72
        rw [hw_72, let3_mk z_72 po_72 st_72] at hF
        refine qv_zif_eq (tgt := 82) hx hb dX6_readsItem_75 (by decide) (fun c_75 => ?_) (fun c_75 => ?_)
        · rw [if_neg c_75] at hF
          refine lv_iconst (v := nI 0) hx hb dX6_readsItem_82 (by decide) ?_
          have hP9 : va_P (dC, dI) vwCl (mW q cI cZ w_31 kp tx td ab be su (nI po_72) (nI st_72) (nI nu_31) li fi ga hh) H := hP
          exact W.zret (v := nI 0) hx hb hr (by rfl) (fun t ht hW => ⟨⟨_, ((po_72, nI st_72, nI nu_31, w_31)), rfl, ⟨false, hO.symm.trans hF, rfl⟩, by rw [ht]; exact hP9, va_K.moved hW.alike hK, hD⟩, hS.F ht⟩) hS.2.2 dX6_readsItem_83
        · rw [if_pos c_75] at hF
          refine lv_iconst (v := nI 1) hx hb dX6_readsItem_78 (by decide) ?_
          refine lv_goto (tgt := 83) hx hb dX6_readsItem_79 (by decide) ?_
          have hP9 : va_P (dC, dI) vwCl (mW q cI cZ w_31 kp tx td ab be su (nI po_72) (nI st_72) (nI nu_31) li fi ga hh) H := hP
          exact W.zret (v := nI 1) hx hb hr (by rfl) (fun t ht hW => ⟨⟨_, ((po_72, nI st_72, nI nu_31, w_31)), rfl, ⟨true, hO.symm.trans hF, rfl⟩, by rw [ht]; exact hP9, va_K.moved hW.alike hK, hD⟩, hS.F ht⟩) hS.2.2 dX6_readsItem_83
    · rw [if_neg c_20] at hF
      refine lv_iconst (v := nI 0) hx hb dX6_readsItem_23 (by decide) ?_
      have hP9 : va_P (dC, dI) vwCl (mW q cI cZ w kp tx td ab be su (nI po_1) (nI st_1) nu li fi ga hh) H := hP
      exact W.zret (v := nI 0) hx hb hr (by rfl) (fun t ht hW => ⟨⟨_, ((po_1, nI st_1, nu, w)), rfl, ⟨false, hO.symm.trans hF, rfl⟩, by rw [ht]; exact hP9, va_K.moved hW.alike hK, hD⟩, hS.F ht⟩) hS.2.2 dX6_readsItem_24
