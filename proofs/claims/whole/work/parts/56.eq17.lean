/-! reading: a token -/
abbrev sk (tx : Nat → Int32) (td : Int32) (p : Nat) : Nat := F_X6_blanks_L0 151 tx td p
abbrev ltR (tx : Nat → Int32) (td : Int32) (p : Nat) : Nat := F_X6_takesWord_L4 151 tx td p
theorem by_eq {D : dS} {td : Int32} {tx : Nat → Int32} (h : Dln D = tN td) (k : Nat) : F_X3_byteAt D tx k = F_X6_byteAt tx td k := by
  unfold F_X3_byteAt F_X6_byteAt
  rw [h]
theorem by_out {td : Int32} {tx : Nat → Int32} {k : Nat} (h : tN td ≤ k) : F_X6_byteAt tx td k = -1 := if_pos h
theorem by_in {td : Int32} {tx : Nat → Int32} {k : Nat} (h : k < tN td) : F_X6_byteAt tx td k = tx k := if_neg (by omega)
theorem by_lt {td : Int32} {tx : Nat → Int32} {k : Nat} (h : ¬ F_X6_byteAt tx td k = -1) : k < tN td := by
  rcases Nat.lt_or_ge k (tN td) with q | q
  · exact q
  · exact absurd (by_out q) h
theorem let_in (c : Int32) : F_X6_in c.toInt64 97 122 = F_X3_isLetter c := iw c (a := 97) (b := 122) (lo := nI 97) (hi := nI 122) (by decide) (by decide)
theorem fig_in (c : Int32) : F_X6_in c.toInt64 48 57 = F_X3_isFigure c := iw c (a := 48) (b := 57) (lo := nI 48) (hi := nI 57) (by decide) (by decide)
theorem fig_nat {c : Int32} (h : F_X3_isFigure c = true) : 0 ≤ c ∧ 48 ≤ tN c ∧ tN c ≤ 57 := within_nat (lo := 48) (hi := 57) (by decide) (by decide) h
theorem let_nat {c : Int32} (h : F_X3_isLetter c = true) : 0 ≤ c ∧ 97 ≤ tN c ∧ tN c ≤ 122 := within_nat (lo := 97) (hi := 122) (by decide) (by decide) h
theorem sk_c {D : dS} {td : Int32} {tx : Nat → Int32} (h : Dln D = tN td) : ∀ (f b : Nat), F_X3_step_L0 f D tx b = F_X6_blanks_L0 f tx td b
  | 0, _ => rfl
  | f + 1, b => by
    rw [F_X3_step_L0, F_X6_blanks_L0]
    simp only [let1]
    rw [by_eq (D := (Dln D, b, Dsa D, Dtk D, Dvl D)) (td := td) h b, sk_c h f (b + 1)]
    by_cases c : Dln D ≤ b
    · rw [if_pos c, by_out (by omega), if_neg (by decide)]
    · rw [if_neg c]
theorem sk_ge (tx : Nat → Int32) (td : Int32) : ∀ (f b : Nat), b ≤ F_X6_blanks_L0 f tx td b
  | 0, _ => Nat.le_refl _
  | f + 1, b => by
    rw [F_X6_blanks_L0]
    simp only [let1]
    by_cases c : F_X6_byteAt tx td b = nI 32
    · rw [if_pos c]; have := sk_ge tx td f (b + 1); omega
    · rw [if_neg c]; exact Nat.le_refl _
theorem sk_le (tx : Nat → Int32) (td : Int32) : ∀ (f b : Nat), b ≤ tN td → F_X6_blanks_L0 f tx td b ≤ tN td
  | 0, _, h => h
  | f + 1, b, h => by
    rw [F_X6_blanks_L0]
    simp only [let1]
    by_cases c : F_X6_byteAt tx td b = nI 32
    · rw [if_pos c]
      have := by_lt (tx := tx) (td := td) (k := b) (by rw [c]; decide)
      exact sk_le tx td f (b + 1) (by omega)
    · rw [if_neg c]; exact h
theorem sk_nb (tx : Nat → Int32) (td : Int32) : ∀ (f b : Nat), tN td - b < f → ¬ F_X6_byteAt tx td (F_X6_blanks_L0 f tx td b) = nI 32
  | 0, _, h => by omega
  | f + 1, b, h => by
    rw [F_X6_blanks_L0]
    simp only [let1]
    by_cases c : F_X6_byteAt tx td b = nI 32
    · rw [if_pos c]
      have := by_lt (tx := tx) (td := td) (k := b) (by rw [c]; decide)
      exact sk_nb tx td f (b + 1) (by omega)
    · rw [if_neg c]; exact c
theorem sk_id {tx : Nat → Int32} {td : Int32} {q : Nat} (h : ¬ F_X6_byteAt tx td q = nI 32) : sk tx td q = q := by
  show F_X6_blanks_L0 (150 + 1) tx td q = q
  rw [F_X6_blanks_L0]
  simp only [let1]
  rw [if_neg h]
theorem sk_sk {tx : Nat → Int32} {td : Int32} (hN : tN td ≤ 150) (p : Nat) : sk tx td (sk tx td p) = sk tx td p := sk_id (sk_nb tx td 151 p (by omega))
theorem lt_c {D : dS} {td : Int32} {tx : Nat → Int32} (h : Dln D = tN td) : ∀ (f b : Nat), F_X3_passLetters_L0 f D tx b = F_X6_takesWord_L4 f tx td b
  | 0, _ => rfl
  | f + 1, b => by
    rw [F_X3_passLetters_L0, F_X6_takesWord_L4]
    simp only [let1]
    rw [by_eq (D := (Dln D, b, Dsa D, Dtk D, Dvl D)) (td := td) h b, lt_c h f (b + 1), let_in]
    by_cases c : Dln D ≤ b
    · rw [if_pos c, by_out (by omega), if_neg (by decide)]
    · rw [if_neg c]
theorem lt_ge (tx : Nat → Int32) (td : Int32) : ∀ (f b : Nat), b ≤ F_X6_takesWord_L4 f tx td b
  | 0, _ => Nat.le_refl _
  | f + 1, b => by
    rw [F_X6_takesWord_L4]
    simp only [let1]
    rw [let_in]
    by_cases c : F_X3_isLetter (F_X6_byteAt tx td b) = true
    · rw [if_pos c]; have := lt_ge tx td f (b + 1); omega
    · rw [if_neg c]; exact Nat.le_refl _
theorem lt_le (tx : Nat → Int32) (td : Int32) : ∀ (f b : Nat), b ≤ tN td → F_X6_takesWord_L4 f tx td b ≤ tN td
  | 0, _, h => h
  | f + 1, b, h => by
    rw [F_X6_takesWord_L4]
    simp only [let1]
    rw [let_in]
    by_cases c : F_X3_isLetter (F_X6_byteAt tx td b) = true
    · rw [if_pos c]
      have := by_lt (tx := tx) (td := td) (k := b) (fun z => by rw [z] at c; exact absurd c (by decide))
      exact lt_le tx td f (b + 1) (by omega)
    · rw [if_neg c]; exact h
theorem lt_no {tx : Nat → Int32} {td : Int32} {q : Nat} (h : ¬ F_X3_isLetter (F_X6_byteAt tx td q) = true) : ltR tx td q = q := by
  show F_X6_takesWord_L4 (150 + 1) tx td q = q
  rw [F_X6_takesWord_L4]
  simp only [let1]
  rw [let_in, if_neg h]
theorem fg_c {D : dS} {td : Int32} {tx : Nat → Int32} (h : Dln D = tN td) (st : Nat) : ∀ (f b nn : Nat) (v : Int32), st ≤ b → (b ≤ st + 2 → v = nI nn) → (F_X3_passFigures_L5 f D tx b v).1 = (F_X6_takesNumber_L9 f tx td st b nn).1 ∧ b ≤ (F_X6_takesNumber_L9 f tx td st b nn).1 ∧ ((F_X6_takesNumber_L9 f tx td st b nn).1 ≤ st + 2 → (F_X3_passFigures_L5 f D tx b v).2 = nI (F_X6_takesNumber_L9 f tx td st b nn).2) ∧ (b ≤ tN td → (F_X6_takesNumber_L9 f tx td st b nn).1 ≤ tN td)
  | 0, b, nn, v, _, hv => ⟨rfl, Nat.le_refl _, hv, fun z => z⟩
  | f + 1, b, nn, v, hs, hv => by
    rw [F_X3_passFigures_L5, F_X6_takesNumber_L9]
    simp only [let1]
    rw [by_eq (D := (Dln D, b, Dsa D, Dtk D, v)) (td := td) h b, fig_in]
    by_cases c : Dln D ≤ b
    · rw [if_pos c, by_out (by omega), if_neg (by decide)]
      exact ⟨rfl, Nat.le_refl _, hv, fun z => z⟩
    · rw [if_neg c]
      by_cases d : F_X3_isFigure (F_X6_byteAt tx td b) = true
      · rw [if_pos d, if_pos d]
        obtain ⟨d0, d1, d2⟩ := fig_nat d
        by_cases e : 2 ≤ b - st
        · rw [if_pos e]
          obtain ⟨i1, i2, i3, i4⟩ := fg_c h st f (b + 1) nn (nI 10 * v + F_X6_byteAt tx td b - nI 48) (by omega) (fun z => by omega)
          exact ⟨i1, by omega, i3, fun z => i4 (by omega)⟩
        · rw [if_neg e]
          obtain ⟨i1, i2, i3, i4⟩ := fg_c h st f (b + 1) (10 * nn + tN (F_X6_byteAt tx td b) - 48) (nI 10 * v + F_X6_byteAt tx td b - nI 48) (by omega) (fun z => by
            rw [hv (by omega), pk_mul]
            conv => lhs; rw [tN_eq d0]
            rw [nI_add, pk_sub (by omega)])
          exact ⟨i1, by omega, i3, fun z => i4 (by omega)⟩
      · rw [if_neg d, if_neg d]
        exact ⟨rfl, Nat.le_refl _, hv, fun z => z⟩
abbrev fgR (tx : Nat → Int32) (td : Int32) (q : Nat) : Nat × Nat := F_X6_takesNumber_L9 151 tx td q q 0
theorem fg_noF (f : Nat) {tx : Nat → Int32} {td : Int32} {q : Nat} (h : ¬ F_X3_isFigure (F_X6_byteAt tx td q) = true) : F_X6_takesNumber_L9 (f + 1) tx td q q 0 = (q, 0) := by
  rw [F_X6_takesNumber_L9, let1_mk, fig_in, if_neg h]
theorem fg_no {tx : Nat → Int32} {td : Int32} {q : Nat} (h : ¬ F_X3_isFigure (F_X6_byteAt tx td q) = true) : fgR tx td q = (q, 0) := fg_noF 150 h
theorem fg_ge (tx : Nat → Int32) (td : Int32) (st : Nat) : ∀ (f b nn : Nat), b ≤ (F_X6_takesNumber_L9 f tx td st b nn).1
  | 0, _, _ => Nat.le_refl _
  | f + 1, b, nn => by
    rw [F_X6_takesNumber_L9]
    simp only [let1]
    by_cases c : F_X6_in (F_X6_byteAt tx td b).toInt64 48 57 = true
    · rw [if_pos c]
      by_cases d : 2 ≤ b - st
      · rw [if_pos d]; have := fg_ge tx td st f (b + 1) nn; omega
      · rw [if_neg d]; have := fg_ge tx td st f (b + 1) (10 * nn + tN (F_X6_byteAt tx td b) - 48); omega
    · rw [if_neg c]; exact Nat.le_refl _
theorem fg_yesF (f : Nat) {tx : Nat → Int32} {td : Int32} {q : Nat} (h : F_X3_isFigure (F_X6_byteAt tx td q) = true) : q < (F_X6_takesNumber_L9 (f + 1) tx td q q 0).1 := by
  rw [F_X6_takesNumber_L9, let1_mk, fig_in, if_pos h, if_neg (by omega)]
  exact fg_ge tx td q f (q + 1) _
theorem fg_yes {tx : Nat → Int32} {td : Int32} {q : Nat} (h : F_X3_isFigure (F_X6_byteAt tx td q) = true) : q < (fgR tx td q).1 := fg_yesF 150 h
theorem skG (tx : Nat → Int32) (td : Int32) (p : Nat) : p ≤ sk tx td p := sk_ge tx td 151 p
theorem skL {tx : Nat → Int32} {td : Int32} {p : Nat} (h : p ≤ tN td) : sk tx td p ≤ tN td := sk_le tx td 151 p h
theorem ltG (tx : Nat → Int32) (td : Int32) (q : Nat) : q ≤ ltR tx td q := lt_ge tx td 151 q
theorem ltL {tx : Nat → Int32} {td : Int32} {q : Nat} (h : q ≤ tN td) : ltR tx td q ≤ tN td := lt_le tx td 151 q h
theorem tk_no {a b : Nat} (ha : a < 5) (hb : b < 5) (hne : a ≠ b) {Z : Prop} (z : nI a = nI b) : Z := absurd ((nI_eq (by omega) (by omega)).mp z) hne
/-- the token behind p -/
def StR (tx : Nat → Int32) (td : Int32) (p : Nat) (D : dS) : Prop := ∃ D0 : dS, Dln D0 = tN td ∧ Dbh D0 = p ∧ D = F_X3_step D0 tx
theorem stp_at {tx : Nat → Int32} {td : Int32} {D0 : dS} (h : Dln D0 = tN td) {b : Nat} (hb : sk tx td (Dbh D0) = b) : F_X3_step D0 tx = if F_X6_byteAt tx td b = -1 then (Dln D0, b, b, nI 0, Dvl D0) else (if F_X3_isLetter (F_X6_byteAt tx td b) = true then F_X3_passLetters (Dln D0, b, b, nI 1, Dvl D0) tx else (if F_X3_isFigure (F_X6_byteAt tx td b) = true then (if 2 < Dbh (F_X3_passFigures (Dln D0, b, b, Dtk D0, Dvl D0) tx) - Dsa (F_X3_passFigures (Dln D0, b, b, Dtk D0, Dvl D0) tx) then (Dln (F_X3_passFigures (Dln D0, b, b, Dtk D0, Dvl D0) tx), Dbh (F_X3_passFigures (Dln D0, b, b, Dtk D0, Dvl D0) tx), Dsa (F_X3_passFigures (Dln D0, b, b, Dtk D0, Dvl D0) tx), nI 4, Dvl (F_X3_passFigures (Dln D0, b, b, Dtk D0, Dvl D0) tx)) else (Dln (F_X3_passFigures (Dln D0, b, b, Dtk D0, Dvl D0) tx), Dbh (F_X3_passFigures (Dln D0, b, b, Dtk D0, Dvl D0) tx), Dsa (F_X3_passFigures (Dln D0, b, b, Dtk D0, Dvl D0) tx), nI 2, Dvl (F_X3_passFigures (Dln D0, b, b, Dtk D0, Dvl D0) tx))) else (if F_X6_byteAt tx td b = nI 59 then (Dln D0, b + 1, b, nI 3, Dvl D0) else (Dln D0, b + 1, b, nI 4, Dvl D0)))) := by
  unfold F_X3_step
  simp only [let1]
  rw [sk_c h, show F_X6_blanks_L0 151 tx td (Dbh D0) = b from hb, by_eq (D := (Dln D0, b, b, Dtk D0, Dvl D0)) (td := td) h b]
theorem StR_sk {tx : Nat → Int32} {td : Int32} (hN : tN td ≤ 150) {p : Nat} {D : dS} (h : StR tx td p D) : StR tx td (sk tx td p) D := by
  obtain ⟨D0, h1, h2, h3⟩ := h
  refine ⟨(Dln D0, sk tx td p, Dsa D0, Dtk D0, Dvl D0), h1, rfl, ?_⟩
  rw [h3, stp_at h1 (b := sk tx td p) (by rw [h2]), stp_at (D0 := (Dln D0, sk tx td p, Dsa D0, Dtk D0, Dvl D0)) h1 (b := sk tx td p) (sk_sk hN p)]
theorem StR_next {tx : Nat → Int32} {td : Int32} {q : Nat} {D : dS} (h1 : Dln D = tN td) (h2 : Dbh D = q) : StR tx td q (F_X3_step D tx) := ⟨D, h1, h2, rfl⟩
theorem tok {tx : Nat → Int32} {td : Int32} (hN : tN td ≤ 150) (ht : ∀ j, j < tN td → inB (tx j) 127) {p : Nat} {D : dS} (hS : StR tx td p D) : Dln D = tN td ∧ Dsa D = sk tx td p ∧ (Dtk D = nI 0 ↔ tN td ≤ sk tx td p) ∧ (Dtk D = nI 3 ↔ F_X6_byteAt tx td (sk tx td p) = nI 59) ∧ (Dtk D = nI 3 → Dbh D = sk tx td p + 1) ∧ (Dtk D = nI 1 ↔ F_X3_isLetter (F_X6_byteAt tx td (sk tx td p)) = true) ∧ (Dtk D = nI 1 → Dbh D = ltR tx td (sk tx td p)) ∧ (Dtk D = nI 2 ↔ F_X3_isFigure (F_X6_byteAt tx td (sk tx td p)) = true ∧ (fgR tx td (sk tx td p)).1 ≤ sk tx td p + 2) ∧ (Dtk D = nI 2 → Dbh D = (fgR tx td (sk tx td p)).1 ∧ Dvl D = nI (fgR tx td (sk tx td p)).2) := by
  obtain ⟨D0, h1, h2, h3⟩ := hS
  have e := stp_at (tx := tx) h1 (b := sk tx td p) (by rw [h2])
  rw [← h3] at e
  generalize sk tx td p = b at e ⊢
  by_cases c0 : F_X6_byteAt tx td b = -1
  · rw [if_pos c0] at e
    have hb : tN td ≤ b := by
      rcases Nat.lt_or_ge b (tN td) with q | q
      · rw [by_in q] at c0
        have := (ht b q).1
        rw [c0] at this
        exact absurd this (by decide)
      · exact q
    rw [e, c0]
    exact ⟨h1, rfl, ⟨fun _ => hb, fun _ => rfl⟩, ⟨fun z => tk_no (a := 0) (b := 3) (by decide) (by decide) (by decide) z, fun z => absurd z (by decide)⟩, fun z => tk_no (a := 0) (b := 3) (by decide) (by decide) (by decide) z, ⟨fun z => tk_no (a := 0) (b := 1) (by decide) (by decide) (by decide) z, fun z => absurd z (by decide)⟩, fun z => tk_no (a := 0) (b := 1) (by decide) (by decide) (by decide) z, ⟨fun z => tk_no (a := 0) (b := 2) (by decide) (by decide) (by decide) z, fun z => absurd z.1 (by decide)⟩, fun z => tk_no (a := 0) (b := 2) (by decide) (by decide) (by decide) z⟩
  · have hb := by_lt c0
    rw [if_neg c0] at e
    by_cases c1 : F_X3_isLetter (F_X6_byteAt tx td b) = true
    · rw [if_pos c1] at e
      have l := let_nat c1
      have n59 : ¬ F_X6_byteAt tx td b = nI 59 := fun z => by rw [z, tN_nI (by decide)] at l; omega
      have nf : ¬ F_X3_isFigure (F_X6_byteAt tx td b) = true := fun z => by have := fig_nat z; omega
      have e2 : D = (Dln D0, ltR tx td b, b, nI 1, Dvl D0) := by
        rw [e]
        unfold F_X3_passLetters
        simp only [let1]
        rw [lt_c (D := (Dln D0, b, b, nI 1, Dvl D0)) h1]
      rw [e2]
      exact ⟨h1, rfl, ⟨fun z => tk_no (a := 1) (b := 0) (by decide) (by decide) (by decide) z, fun z => absurd z (by omega)⟩, ⟨fun z => tk_no (a := 1) (b := 3) (by decide) (by decide) (by decide) z, fun z => absurd z n59⟩, fun z => tk_no (a := 1) (b := 3) (by decide) (by decide) (by decide) z, ⟨fun _ => c1, fun _ => rfl⟩, fun _ => rfl, ⟨fun z => tk_no (a := 1) (b := 2) (by decide) (by decide) (by decide) z, fun z => absurd z.1 nf⟩, fun z => tk_no (a := 1) (b := 2) (by decide) (by decide) (by decide) z⟩
    · rw [if_neg c1] at e
      by_cases c2 : F_X3_isFigure (F_X6_byteAt tx td b) = true
      · rw [if_pos c2] at e
        have l := fig_nat c2
        have n59 : ¬ F_X6_byteAt tx td b = nI 59 := fun z => by rw [z, tN_nI (by decide)] at l; omega
        obtain ⟨f1, f2, f3⟩ : (F_X3_passFigures_L5 151 (Dln D0, b, b, Dtk D0, Dvl D0) tx b (nI 0)).1 = (fgR tx td b).1 ∧ b ≤ (fgR tx td b).1 ∧ ((fgR tx td b).1 ≤ b + 2 → (F_X3_passFigures_L5 151 (Dln D0, b, b, Dtk D0, Dvl D0) tx b (nI 0)).2 = nI (fgR tx td b).2) := by
          obtain ⟨f1, f2, f3, -⟩ := fg_c (D := (Dln D0, b, b, Dtk D0, Dvl D0)) (td := td) (tx := tx) h1 b 151 b 0 (nI 0) (Nat.le_refl _) (fun _ => rfl)
          exact ⟨f1, f2, f3⟩
        have e1 : F_X3_passFigures (Dln D0, b, b, Dtk D0, Dvl D0) tx = (Dln D0, (fgR tx td b).1, b, Dtk D0, (F_X3_passFigures_L5 151 (Dln D0, b, b, Dtk D0, Dvl D0) tx b (nI 0)).2) := by
          unfold F_X3_passFigures
          simp only [let2]
          rw [← f1]
        rw [e1] at e
        by_cases c3 : 2 < (fgR tx td b).1 - b
        · rw [if_pos c3] at e
          rw [e]
          exact ⟨h1, rfl, ⟨fun z => tk_no (a := 4) (b := 0) (by decide) (by decide) (by decide) z, fun z => absurd z (by omega)⟩, ⟨fun z => tk_no (a := 4) (b := 3) (by decide) (by decide) (by decide) z, fun z => absurd z n59⟩, fun z => tk_no (a := 4) (b := 3) (by decide) (by decide) (by decide) z, ⟨fun z => tk_no (a := 4) (b := 1) (by decide) (by decide) (by decide) z, fun z => absurd z c1⟩, fun z => tk_no (a := 4) (b := 1) (by decide) (by decide) (by decide) z, ⟨fun z => tk_no (a := 4) (b := 2) (by decide) (by decide) (by decide) z, fun z => absurd z.2 (by omega)⟩, fun z => tk_no (a := 4) (b := 2) (by decide) (by decide) (by decide) z⟩
        · rw [if_neg c3] at e
          rw [e]
          exact ⟨h1, rfl, ⟨fun z => tk_no (a := 2) (b := 0) (by decide) (by decide) (by decide) z, fun z => absurd z (by omega)⟩, ⟨fun z => tk_no (a := 2) (b := 3) (by decide) (by decide) (by decide) z, fun z => absurd z n59⟩, fun z => tk_no (a := 2) (b := 3) (by decide) (by decide) (by decide) z, ⟨fun z => tk_no (a := 2) (b := 1) (by decide) (by decide) (by decide) z, fun z => absurd z c1⟩, fun z => tk_no (a := 2) (b := 1) (by decide) (by decide) (by decide) z, ⟨fun _ => ⟨c2, by omega⟩, fun _ => rfl⟩, fun _ => ⟨rfl, f3 (by omega)⟩⟩
      · rw [if_neg c2] at e
        by_cases c3 : F_X6_byteAt tx td b = nI 59
        · rw [if_pos c3] at e
          rw [e]
          exact ⟨h1, rfl, ⟨fun z => tk_no (a := 3) (b := 0) (by decide) (by decide) (by decide) z, fun z => absurd z (by omega)⟩, ⟨fun _ => c3, fun _ => rfl⟩, fun _ => rfl, ⟨fun z => tk_no (a := 3) (b := 1) (by decide) (by decide) (by decide) z, fun z => absurd z c1⟩, fun z => tk_no (a := 3) (b := 1) (by decide) (by decide) (by decide) z, ⟨fun z => tk_no (a := 3) (b := 2) (by decide) (by decide) (by decide) z, fun z => absurd z.1 c2⟩, fun z => tk_no (a := 3) (b := 2) (by decide) (by decide) (by decide) z⟩
        · rw [if_neg c3] at e
          rw [e]
          exact ⟨h1, rfl, ⟨fun z => tk_no (a := 4) (b := 0) (by decide) (by decide) (by decide) z, fun z => absurd z (by omega)⟩, ⟨fun z => tk_no (a := 4) (b := 3) (by decide) (by decide) (by decide) z, fun z => absurd z c3⟩, fun z => tk_no (a := 4) (b := 3) (by decide) (by decide) (by decide) z, ⟨fun z => tk_no (a := 4) (b := 1) (by decide) (by decide) (by decide) z, fun z => absurd z c1⟩, fun z => tk_no (a := 4) (b := 1) (by decide) (by decide) (by decide) z, ⟨fun z => tk_no (a := 4) (b := 2) (by decide) (by decide) (by decide) z, fun z => absurd z.1 c2⟩, fun z => tk_no (a := 4) (b := 2) (by decide) (by decide) (by decide) z⟩
theorem num_eq (tx : Nat → Int32) (td : Int32) (p lo hi : Nat) : F_X6_takesNumber tx td p lo hi = if F_X5_within (nI ((fgR tx td (sk tx td p)).1 - sk tx td p)) (nI 1) (nI 2) = true then (if F_X5_within (nI (fgR tx td (sk tx td p)).2) (nI lo) (nI hi) = true then (true, (fgR tx td (sk tx td p)).1, sk tx td p, (fgR tx td (sk tx td p)).2) else (false, (fgR tx td (sk tx td p)).1, sk tx td p, (fgR tx td (sk tx td p)).2)) else (false, (fgR tx td (sk tx td p)).1, sk tx td p, (fgR tx td (sk tx td p)).2) := by
  unfold F_X6_takesNumber F_X6_blanks
  rw [let1_mk, let2_mk, let2_eq]
  rw [iw _ (a := 1) (b := 2) (lo := nI 1) (hi := nI 2) (by decide) (by decide), iw (nI (fgR tx td (sk tx td p)).2) (lo := nI lo) (hi := nI hi) rfl rfl]
/-- a number: both see it, and it stands as told -/
theorem num_view {tx : Nat → Int32} {td : Int32} (hN : tN td ≤ 150) (ht : ∀ j, j < tN td → inB (tx j) 127) {p : Nat} (hp : p ≤ tN td) {D : dS} (hS : StR tx td p D) (lo hi : Nat) : ∃ (z : Bool) (po nn : Nat), F_X6_takesNumber tx td p lo hi = (z, po, sk tx td p, nn) ∧ F_X3_isNumber D (nI lo) (nI hi) = z ∧ (z = true → Dbh D = po ∧ Dvl D = nI nn ∧ F_X5_within (nI nn) (nI lo) (nI hi) = true ∧ sk tx td p < po ∧ po ≤ tN td ∧ ¬ Dtk D = nI 3) := by
  obtain ⟨t1, t2, -, -, -, -, -, t8, t9⟩ := tok hN ht hS
  have hq := skL (tx := tx) hp
  have hg : sk tx td p ≤ (fgR tx td (sk tx td p)).1 := fg_ge tx td (sk tx td p) 151 (sk tx td p) 0
  have hl : (fgR tx td (sk tx td p)).1 ≤ tN td := (fg_c (D := (tN td, 0, 0, 0, 0)) (td := td) (tx := tx) rfl (sk tx td p) 151 (sk tx td p) 0 (nI 0) (Nat.le_refl _) (fun _ => rfl)).2.2.2 hq
  rw [num_eq]
  unfold F_X3_isNumber
  have hw : F_X5_within (nI ((fgR tx td (sk tx td p)).1 - sk tx td p)) (nI 1) (nI 2) = true ↔ Dtk D = nI 2 := by
    rw [t8, within_iff, nI_leI (by decide) (by omega), nI_leI (by omega) (by decide)]
    constructor
    · rintro ⟨a, b⟩
      refine ⟨?_, by omega⟩
      by_cases c : F_X3_isFigure (F_X6_byteAt tx td (sk tx td p)) = true
      · exact c
      · rw [fg_no c] at a
        dsimp only at a
        omega
    · rintro ⟨a, b⟩
      have := fg_yes a
      omega
  by_cases c : Dtk D = nI 2
  · have c' := hw.mpr c
    rw [if_pos c, if_pos c', (t9 c).2]
    have d1 := (t8.mp c).1
    have d2 := fg_yes d1
    by_cases d : F_X5_within (nI (fgR tx td (sk tx td p)).2) (nI lo) (nI hi) = true
    · rw [if_pos d, if_pos d]
      exact ⟨true, _, _, rfl, rfl, fun _ => ⟨(t9 c).1, rfl, d, d2, hl, by rw [c]; decide⟩⟩
    · rw [if_neg d, if_neg d]
      exact ⟨false, _, _, rfl, rfl, fun z => absurd z (by decide)⟩
  · rw [if_neg c, if_neg (fun z => c (hw.mp z))]
    exact ⟨false, _, _, rfl, rfl, fun z => absurd z (by decide)⟩
theorem within_n {n lo hi : Nat} (hlo : lo < 2 ^ 31) (hhi : hi < 2 ^ 31) (h : F_X5_within (nI n) (nI lo) (nI hi) = true) : ∃ k, lo ≤ k ∧ k ≤ hi ∧ nI n = nI k := by
  obtain ⟨a, b, c⟩ := within_nat hlo hhi h
  exact ⟨tN (nI n), b, c, tN_eq a⟩
theorem end_eq (tx : Nat → Int32) (td : Int32) (p : Nat) : F_X6_takesEnd tx td p = if F_X6_byteAt tx td (sk tx td p) = nI 59 then (true, sk tx td p + 1, sk tx td p) else (false, sk tx td p + 1, sk tx td p) := rfl
