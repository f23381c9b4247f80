/-! reading: an item, the text -/
/-- what an item comes to: read, and the class stands behind its end; or refused, at one and the same place -/
def itQ (tx w0 : Nat → Int32) (td : Int32) (pp : Nat) (R : Bool × Nat × Int32 × Int32 × (Nat → Int32)) (C : Bool × dS × pS) : Prop :=
  (∃ (po : Nat) (s2 m2 : Int32) (w2 : Nat → Int32) (D1 D2 : dS) (P2 : pS), R = (true, po, s2, m2, w2) ∧ pp < po ∧ po ≤ tN td ∧ C = (true, D1, P2) ∧ F_X3_takeStop D1 tx = (true, D2) ∧ StR tx td po D2 ∧ rdR w2 w0 P2 po) ∨
  (∃ (po k : Nat) (m2 : Int32) (w2 : Nat → Int32) (z : Bool) (D1 : dS) (P2 : pS), R = (false, po, nI k, m2, w2) ∧ (∀ j, j < 444 → w2 j = w0 j) ∧ C = (z, D1, P2) ∧ k = Dsa D1 ∧ k ≤ 150 ∧ (z = false ∨ F_X3_takeStop D1 tx = (false, D1)))
theorem stop_no {D : dS} {tx : Nat → Int32} (h : ¬ Dtk D = nI 3) : F_X3_takeStop D tx = (false, D) := if_neg h
theorem stop_yes {D : dS} {tx : Nat → Int32} (h : Dtk D = nI 3) : F_X3_takeStop D tx = (true, F_X3_step D tx) := if_pos h
/-- behind an item's words: its end -/
theorem endQ {tx w0 : Nat → Int32} {td : Int32} (hN : tN td ≤ 150) (ht : ∀ j, j < tN td → inB (tx j) 127) {pp q : Nat} (hq : q ≤ tN td) (hpq : pp ≤ q) {D1 : dS} (hS : StR tx td q D1) {w2 : Nat → Int32} {P2 : pS} (hr : rdR w2 w0 P2 q) (m2 : Int32) : itQ tx w0 td pp (let3 (F_X6_takesEnd tx td q) (fun z_72 po_72 st_72 => if z_72 = true then (true, po_72, (nI st_72), m2, w2) else (false, po_72, (nI st_72), m2, w2))) (true, D1, P2) := by
  obtain ⟨t1, t2, -, t4, t5, -, -, -, -⟩ := tok hN ht hS
  have h1 := skG tx td q
  have h2 := skL (tx := tx) (p := q) hq
  rw [end_eq]
  by_cases c : F_X6_byteAt tx td (sk tx td q) = nI 59
  · rw [if_pos c, let3_mk, if_pos rfl]
    have l := by_lt (tx := tx) (td := td) (k := sk tx td q) (by rw [c]; decide)
    have tk := t4.mpr c
    exact Or.inl ⟨_, _, _, _, _, _, _, rfl, by omega, by omega, rfl, stop_yes tk, StR_next t1 (t5 tk), rd_mono hr (by omega)⟩
  · rw [if_neg c, let3_mk, if_neg (show ¬ false = true by decide)]
    exact Or.inr ⟨_, _, _, _, _, _, _, rfl, hr.2.2.2.2.2.1, rfl, t2.symm, by omega, Or.inr (stop_no (fun z => c (t4.mp z)))⟩
theorem batQ {tx w0 : Nat → Int32} {td : Int32} (hN : tN td ≤ 150) (ht : ∀ j, j < tN td → inB (tx j) 127) {pp q : Nat} (hq : q ≤ tN td) (hpq : pp ≤ q) {D1 : dS} (hS : StR tx td q D1) {w1 : Nat → Int32} {P1 : pS} (hr : rdR w1 w0 P1 q) (h6 : tN (Psz P1) < 6) (st nu : Int32) : itQ tx w0 td pp (let5 (F_X6_readsBatter w1 tx td q st nu) (fun z_43 po_43 st_43 nu_43 w_43 => if z_43 = true then let3 (F_X6_takesEnd tx td po_43) (fun z_72 po_72 st_72 => if z_72 = true then (true, po_72, (nI st_72), nu_43, w_43) else (false, po_72, (nI st_72), nu_43, w_43)) else (false, po_43, st_43, nu_43, w_43))) (F_X3_readBatter D1 P1 tx) := by
  obtain ⟨t1, t2, -, -, -, -, -, -, -⟩ := tok hN ht hS
  obtain ⟨z, po, nn, n1, n2, n3⟩ := num_view hN ht hq hS 0 5
  have hsk := skL (tx := tx) (p := q) hq
  have hsg := skG tx td q
  have keep := hr.2.2.2.2.2.1
  have n6 : ¬ tN (w1 444) = 6 := by rw [hr.1.1]; omega
  unfold F_X6_readsBatter F_X3_readBatter
  simp only [let1, let4]
  rw [if_neg n6, n1, n2]
  cases z with
  | false =>
    simp only [Bool.false_eq_true, if_false]
    exact Or.inr ⟨_, _, _, _, _, _, _, rfl, keep, rfl, t2.symm, by omega, Or.inl rfl⟩
  | true =>
    obtain ⟨a1, a2, a3, a4, a5, a6⟩ := n3 rfl
    have hS2 := StR_next (tx := tx) t1 a1
    obtain ⟨u1, u2, -, -, -, -, -, -, -⟩ := tok hN ht hS2
    obtain ⟨z2, po2, nn2, m1, m2, m3⟩ := num_view hN ht a5 hS2 1 5
    have hsk2 := skL (tx := tx) (p := po) a5
    have hsg2 := skG tx td po
    simp only [if_true]
    rw [m1, m2]
    cases z2 with
    | false =>
      simp only [Bool.false_eq_true, if_false]
      exact Or.inr ⟨_, _, _, _, _, _, _, rfl, keep, rfl, u2.symm, by omega, Or.inl rfl⟩
    | true =>
      obtain ⟨b1, b2, b3, b4, b5, b6⟩ := m3 rfl
      obtain ⟨k, k1, k2, k3⟩ := within_n (by decide) (by decide) a3
      obtain ⟨lg, l1, l2, l3⟩ := within_n (by decide) (by decide) b3
      have hr2 := rd_mono (m2 := po2) (rd_join hr h6 k2 l2 l1) (by omega)
      simp only [if_true, let2]
      rw [a2, b2, k3, l3]
      exact endQ hN ht b5 (by omega) (StR_next u1 b1) hr2 _
theorem balQ {tx w0 : Nat → Int32} {td : Int32} (hN : tN td ≤ 150) (ht : ∀ j, j < tN td → inB (tx j) 127) {pp q : Nat} (hq : q ≤ tN td) (hpq : pp ≤ q) {D1 : dS} (hS : StR tx td q D1) {w1 : Nat → Int32} {P1 : pS} (hr : rdR w1 w0 P1 q) (st nu : Int32) : itQ tx w0 td pp (let5 (F_X6_readsBall w1 tx td q st nu) (fun z_55 po_55 st_55 nu_55 w_55 => if z_55 = true then let3 (F_X6_takesEnd tx td po_55) (fun z_72 po_72 st_72 => if z_72 = true then (true, po_72, (nI st_72), nu_55, w_55) else (false, po_72, (nI st_72), nu_55, w_55)) else (false, po_55, st_55, nu_55, w_55))) (let3 (F_X3_readHits D1 P1 tx) (fun z_36 Rd_36 P_36 => if z_36 = true then (true, Rd_36, P_36) else (false, Rd_36, P_36))) := by
  have B := bhQ hN ht 151 0 q st nu w1 D1 P1 hS hr hq (by decide) (Or.inl rfl) (by omega)
  unfold F_X6_readsBall F_X3_readHits
  rcases B with ⟨n2, pp2, s2, m2, w2, fo2, D2, P2, y1, y2, y3, y4, y5, y6, y7, y8⟩ | ⟨pp2, k, m2, w2, fo2, D2, P2, y1, y2, y3, y4, y5, y6, y7⟩
  · have l := by_lt (tx := tx) (td := td) (k := pp2) (by rw [y2]; decide)
    rw [y1, show F_X3_readHits_L2 10 tx 0 D1 P1 = (fo2, D2, P2) from y4]
    simp only [sel6, let3, let5]
    rw [if_neg (nI_nle y5 (by omega))]
    simp only [if_true]
    exact endQ hN ht (by omega) (by omega) y7 y8 _
  · rw [y1, show F_X3_readHits_L2 10 tx 0 D1 P1 = (fo2, D2, P2) from y3]
    simp only [sel6, let3, let5, Bool.false_eq_true, if_false]
    by_cases c : fo2 = 0
    · rw [c, if_pos (show nI 0 ≤ (0 : Int32) from by decide)]
      simp only [Bool.false_eq_true, if_false]
      exact Or.inr ⟨_, _, _, _, _, _, _, rfl, y2, rfl, y5, y6, Or.inl rfl⟩
    · rw [if_neg (nI_nle (by omega) (by omega))]
      simp only [if_true]
      exact Or.inr ⟨_, _, _, _, _, _, _, rfl, y2, rfl, y5, y6, Or.inr (stop_no (y7.resolve_left c))⟩
theorem itemQ {tx w0 : Nat → Int32} {td : Int32} (hN : tN td ≤ 150) (ht : ∀ j, j < tN td → inB (tx j) 127) {pp : Nat} (hp : pp ≤ tN td) {D : dS} (hS : StR tx td pp D) {w1 : Nat → Int32} {P1 : pS} (hr : rdR w1 w0 P1 pp) (nu : Int32) : itQ tx w0 td pp (F_X6_readsItem w1 tx td pp nu false) (F_X3_readItem D P1 tx) := by
  obtain ⟨t1, t2, -, -, -, -, -, -, -⟩ := tok hN ht hS
  obtain ⟨v1, u1⟩ := wv1 hN ht hp hS
  obtain ⟨v2, u2⟩ := wv2 hN ht hp hS
  have hsk := skL (tx := tx) (p := pp) hp
  have hsg := skG tx td pp
  have hlt := ltL (tx := tx) (q := (sk tx td pp)) hsk
  have hlg := ltG tx td (sk tx td pp)
  have keep := hr.2.2.2.2.2.1
  have s6 := hr.2.1.1.2
  have e1 : F_X6_takesWord tx td pp = (ltR tx td (sk tx td pp), sk tx td pp) := rfl
  unfold F_X6_readsItem
  rw [e1, let2_eq, let1_mk]
  show itQ tx w0 td pp (if F_X6_wordOf tx (ltR tx td (sk tx td pp)) (sk tx td pp) = nI 1 then _ else _) _
  rw [wordOf_eq]
  by_cases c0 : zW0 tx td (sk tx td pp) = true
  · have c1 : ¬ zW1 tx td (sk tx td pp) = true := fun z => zW_01 z c0
    have c2 : ¬ zW2 tx td (sk tx td pp) = true := fun z => zW_02 z c0
    rw [if_neg c1] at v1
    rw [if_neg c2] at v2
    rw [if_pos c0, if_pos rfl, if_neg (by decide)]
    have C : F_X3_readItem D P1 tx = (false, D, P1) := by
      unfold F_X3_readItem
      rw [v1, v2, let2_mk, let2_mk, v2, let2_mk]
      simp only [Bool.false_eq_true, if_false, ite_self]
    rw [C]
    exact Or.inr ⟨_, _, _, _, _, _, _, rfl, keep, rfl, t2.symm, by omega, Or.inl rfl⟩
  · rw [if_neg c0]
    by_cases c1 : zW1 tx td (sk tx td pp) = true
    · have c2 : ¬ zW2 tx td (sk tx td pp) = true := fun z => zW_12 z c1
      rw [if_pos c1] at v1
      rw [if_neg c2] at v2
      rw [if_pos c1, if_neg (by decide), if_neg (by decide), if_pos rfl]
      by_cases d : 6 ≤ tN (Psz P1)
      · have C : F_X3_readItem D P1 tx = (false, D, P1) := by
          unfold F_X3_readItem
          rw [if_pos d, v2, let2_mk, if_neg (by decide)]
        have B : F_X6_readsBatter w1 tx td (ltR tx td (sk tx td pp)) (nI (sk tx td pp)) nu = (false, ltR tx td (sk tx td pp), nI (sk tx td pp), nu, w1) := by
          unfold F_X6_readsBatter
          rw [if_pos (by rw [hr.1.1]; omega)]
        rw [C, B]
        exact Or.inr ⟨_, _, _, _, _, _, _, rfl, keep, rfl, t2.symm, by omega, Or.inl rfl⟩
      · have C : F_X3_readItem D P1 tx = F_X3_readBatter (F_X3_step D tx) P1 tx := by
          unfold F_X3_readItem
          rw [if_neg d, v1, let2_mk, if_pos rfl]
          rfl
        rw [C]
        exact batQ hN ht hlt (by omega) (StR_next t1 (u1 c1).1) (rd_mono hr (by omega)) (by omega) _ _
    · rw [if_neg c1] at v1
      rw [if_neg c1]
      by_cases c2 : zW2 tx td (sk tx td pp) = true
      · rw [if_pos c2] at v2
        rw [if_pos c2, if_neg (by decide), if_neg (by decide), if_neg (by decide), if_pos rfl]
        have C : F_X3_readItem D P1 tx = let3 (F_X3_readHits (F_X3_step D tx) P1 tx) (fun z_36 Rd_36 P_36 => if z_36 = true then (true, Rd_36, P_36) else (false, Rd_36, P_36)) := by
          unfold F_X3_readItem
          by_cases d : 6 ≤ tN (Psz P1)
          · rw [if_pos d, v2, let2_mk, if_pos rfl]
          · rw [if_neg d, v1, let2_mk, if_neg (by decide), v2, let2_mk, if_pos rfl]
        rw [C]
        exact balQ hN ht hlt (by omega) (StR_next t1 (u2 c2).1) (rd_mono hr (by omega)) _ _
      · rw [if_neg c2] at v2
        rw [if_neg c2, if_neg (by decide), if_neg (by decide), if_neg (by decide), if_neg (by decide)]
        have C : F_X3_readItem D P1 tx = (false, D, P1) := by
          unfold F_X3_readItem
          by_cases d : 6 ≤ tN (Psz P1)
          · rw [if_pos d, v2, let2_mk, if_neg (by decide)]
          · rw [if_neg d, v1, let2_mk, if_neg (by decide), v2, let2_mk, if_neg (by decide)]
        rw [C]
        exact Or.inr ⟨_, _, _, _, _, _, _, rfl, keep, rfl, t2.symm, by omega, Or.inl rfl⟩
theorem firstQ {tx w0 : Nat → Int32} {td : Int32} (hN : tN td ≤ 150) (ht : ∀ j, j < tN td → inB (tx j) 127) {pp : Nat} (hp : pp ≤ tN td) {D : dS} (hS : StR tx td pp D) {w1 : Nat → Int32} (hw : ∀ j, j < 444 → w1 j = w0 j) (f1 f2 f3 : Nat → Int32) (nu : Int32) : itQ tx w0 td pp (F_X6_readsItem w1 tx td pp nu true) (F_X3_readBowler D (nI 0, nI 0, f1, f2, f3, -1, nI 0, nI 0) tx) := by
  obtain ⟨t1, t2, -, -, -, -, -, -, -⟩ := tok hN ht hS
  obtain ⟨v0, u0⟩ := wv0 hN ht hp hS
  have hsk := skL (tx := tx) (p := pp) hp
  have hsg := skG tx td pp
  have hlt := ltL (tx := tx) (q := (sk tx td pp)) hsk
  have hlg := ltG tx td (sk tx td pp)
  have e1 : F_X6_takesWord tx td pp = (ltR tx td (sk tx td pp), sk tx td pp) := rfl
  unfold F_X6_readsItem F_X3_readBowler
  rw [e1, let2_eq, let1_mk]
  show itQ tx w0 td pp (if F_X6_wordOf tx (ltR tx td (sk tx td pp)) (sk tx td pp) = nI 1 then _ else _) _
  rw [wordOf_eq]
  by_cases c0 : zW0 tx td (sk tx td pp) = true
  · rw [if_pos c0] at v0
    rw [if_pos c0, if_pos rfl, if_pos rfl, v0, let2_mk, if_pos rfl, let1_mk]
    have hS2 := StR_next (tx := tx) t1 (u0 c0).1
    obtain ⟨x1, x2, -, -, -, -, -, -, -⟩ := tok hN ht hS2
    obtain ⟨z, po, nn, n1, n2, n3⟩ := num_view hN ht hlt hS2 0 5
    have hsk2 := skL (tx := tx) (p := _) hlt
    have hsg2 := skG tx td (ltR tx td (sk tx td pp))
    unfold F_X6_readsField
    simp only [let1, let4]
    rw [n1, n2]
    cases z with
    | false =>
      simp only [Bool.false_eq_true, if_false]
      exact Or.inr ⟨_, _, _, _, _, _, _, rfl, hw, rfl, x2.symm, show sk tx td (ltR tx td (sk tx td pp)) ≤ 150 by omega, Or.inl rfl⟩
    | true =>
      obtain ⟨a1, a2, a3, a4, a5, a6⟩ := n3 rfl
      obtain ⟨k, k1, k2, k3⟩ := within_n (by decide) (by decide) a3
      simp only [if_true]
      rw [a2, k3]
      exact endQ hN ht a5 (by omega) (StR_next x1 a1) (rd_field k2 hw) _
  · rw [if_neg c0] at v0
    rw [if_neg c0, v0, let2_mk]
    have nz : ¬ (if zW1 tx td (sk tx td pp) = true then nI 2 else if zW2 tx td (sk tx td pp) = true then nI 3 else nI 0) = nI 1 := by
      split
      · decide
      · split
        · decide
        · decide
    rw [if_neg nz, if_pos rfl]
    simp only [Bool.false_eq_true, if_false]
    exact Or.inr ⟨_, _, _, _, _, _, _, rfl, hw, rfl, t2.symm, by omega, Or.inl rfl⟩
theorem blanks_eq (tx : Nat → Int32) (td : Int32) (p : Nat) : F_X6_blanks tx td p = (sk tx td p, sk tx td p) := rfl
theorem read_stop (f : Nat) (tx : Nat → Int32) (td : Int32) (fd pp : Nat) (s1 m1 : Int32) (w1 : Nat → Int32) : F_X6_read_L20 f tx td fd false pp s1 m1 w1 = (fd, false, pp, s1, m1, w1) := by
  cases f with
  | zero => rfl
  | succ e => rw [F_X6_read_L20, if_neg (show ¬ false = true by decide)]
theorem read_first (f : Nat) (tx : Nat → Int32) (td : Int32) (pp : Nat) (s1 m1 : Int32) (w1 : Nat → Int32) : F_X6_read_L20 (f + 1) tx td 0 true pp s1 m1 w1 = let5 (F_X6_readsItem w1 tx td pp m1 true) (fun z_49 po_49 st_49 nu_49 w_49 => if z_49 = true then let2 (F_X6_blanks tx td po_49) (fun po_61 st_61 => F_X6_read_L20 f tx td 1 z_49 po_61 (nI st_61) nu_49 w_49) else F_X6_read_L20 f tx td 1 z_49 po_49 st_49 nu_49 w_49) := by
  rw [F_X6_read_L20, if_pos (show true = true from rfl), if_pos (show 0 = 0 from rfl), if_pos (show 0 = 0 from rfl), ite_self]
/-- the text behind its first item -/
theorem textQ {tx w0 : Nat → Int32} {td : Int32} (hN : tN td ≤ 150) (ht : ∀ j, j < tN td → inB (tx j) 127) : ∀ (f g it pp : Nat) (m1 : Int32) (w1 : Nat → Int32) (D : dS) (P1 : pS), StR tx td pp D → sk tx td pp = pp → rdR w1 w0 P1 pp → pp ≤ tN td → 1 ≤ it → it ≤ pp → tN td - pp < f → tN td - pp < g →
    (∃ (it2 pp2 : Nat) (s2 m2 : Int32) (w2 : Nat → Int32) (D2 : dS) (P2 : pS), F_X6_read_L20 f tx td it true pp (nI pp) m1 w1 = (it2, true, pp2, s2, m2, w2) ∧ F_X3_readText_L56 g tx it D P1 = .inl (it2, D2, P2) ∧ it2 ≤ 150 ∧ rdR w2 w0 P2 150) ∨
    (∃ (it2 pp2 k : Nat) (m2 : Int32) (w2 : Nat → Int32) (D2 : dS) (P2 : pS), F_X6_read_L20 f tx td it true pp (nI pp) m1 w1 = (it2, false, pp2, nI k, m2, w2) ∧ k ≤ 150 ∧ (∀ j, j < 444 → w2 j = w0 j) ∧ F_X3_readText_L56 g tx it D P1 = .inr ((-10) - nI k, D2, P2))
  | 0, _, _, _, _, _, _, _, _, _, _, _, _, _, h, _ => by omega
  | _ + 1, 0, _, _, _, _, _, _, _, _, _, _, _, _, _, h => by omega
  | f + 1, g + 1, it, pp, m1, w1, D, P1, hS, hsk, hr, hp, h1, hi, hf, hg => by
    obtain ⟨t1, t2, t3, -, -, -, -, -, -⟩ := tok hN ht hS
    rw [hsk, show nI 0 = (0 : Int32) from by decide] at t3
    generalize eX : F_X6_read_L20 (f + 1) tx td it true pp (nI pp) m1 w1 = qx
    generalize eC : F_X3_readText_L56 (g + 1) tx it D P1 = qc
    rw [F_X6_read_L20, if_pos (show true = true from rfl)] at eX
    rw [F_X3_readText_L56] at eC
    by_cases c : tN td ≤ pp
    · rw [if_neg (show ¬ nI pp < nI (tN td) from fun z => by have := (nI_ltI (by omega) (by omega)).mp z; omega), if_neg (show ¬ it = 0 by omega)] at eX
      rw [if_pos (t3.mpr c)] at eC
      rw [← eX, ← eC]
      exact Or.inl ⟨_, _, _, _, _, _, _, rfl, rfl, by omega, rd_mono hr (by omega)⟩
    · rw [if_pos (show nI pp < nI (tN td) from (nI_ltI (by omega) (by omega)).mpr (by omega)), if_neg (show ¬ it = 0 by omega)] at eX
      rw [if_neg (fun z => c (t3.mp z)), if_neg (show ¬ Dln D < it by rw [t1]; omega)] at eC
      have I := itemQ hN ht hp hS hr m1
      rcases I with ⟨po, s2, m2, w2, D1, D2, P2, y1, y2, y3, y4, y5, y6, y7⟩ | ⟨po, k, m2, w2, z, D1, P2, y1, y2, y3, y4, y5, y6⟩
      · rw [y1, let5_mk, if_pos (show true = true from rfl), blanks_eq, let2_mk] at eX
        rw [y4, let3_mk, if_pos (show true = true from rfl), y5, let2_mk, if_pos (show true = true from rfl)] at eC
        have r1 := skG tx td po
        have r2 := skL (tx := tx) (p := po) y3
        have ih := textQ hN ht f g (it + 1) (sk tx td po) m2 w2 D2 P2 (StR_sk hN y6) (sk_sk hN po) (rd_mono y7 r1) r2 (by omega) (by omega) (by omega) (by omega)
        rw [eX, eC] at ih
        exact ih
      · rw [y1, let5_mk, if_neg (show ¬ false = true by decide), read_stop] at eX
        rw [y3, let3_mk] at eC
        rw [← eX]
        refine Or.inr ⟨_, _, _, _, _, D1, P2, rfl, y5, y2, ?_⟩
        rw [← eC]
        cases z with
        | false => rw [if_neg (show ¬ false = true by decide), y4]
        | true => rw [if_pos (show true = true from rfl), y6.resolve_left (by decide), let2_mk, if_neg (show ¬ false = true by decide), y4]
set_option maxRecDepth 20000 in
theorem neg10 : ∀ k, k < 151 → (-10 : Int32) - nI k < 0 := by decide
theorem emp_keep {w : Nat → Int32} : ∀ j, j < 444 → F_X6_empties w 444 j = w j := fun j hj => by rw [emp_at, if_neg (by omega)]
/-- the whole text: both read it alike -/
theorem allQ {w tx : Nat → Int32} {td : Int32} (hN : tN td ≤ 150) (ht : ∀ j, j < tN td → inB (tx j) 127) (nu : Int32) (Rd : dS) (P3 : pS) : ∃ (r : Int32) (w1 : Nat → Int32) (pp : Nat) (s2 m2 : Int32) (D2 : dS) (P2 : pS), F_X3_readText Rd P3 tx (tN td) = (r, D2, P2) ∧
    ((0 ≤ r ∧ rdR w1 w P2 150 ∧ F_X6_read w tx td nu = (r, F_X6_copy w1 444 0, pp, s2, m2)) ∨ (r < 0 ∧ (∀ j, j < 444 → w1 j = w j) ∧ F_X6_read w tx td nu = (r, w1, pp, s2, m2))) := by
  have hS : StR tx td 0 (F_X3_step (tN td, 0, Dsa Rd, Dtk Rd, Dvl Rd) tx) := ⟨_, rfl, rfl, rfl⟩
  have hS2 := StR_sk hN hS
  have r2 := skL (tx := tx) (td := td) (p := 0) (Nat.zero_le _)
  have F := firstQ (w0 := w) hN ht r2 hS2 (emp_keep (w := w)) (Pkd P3) (Plg P3) (Pwh P3) nu
  generalize eX : F_X6_read w tx td nu = qx
  generalize eC : F_X3_readText Rd P3 tx (tN td) = qc
  unfold F_X6_read at eX
  unfold F_X3_readText at eC
  rw [let1_mk, blanks_eq, let2_mk, show F_X6_read_L20 152 tx td 0 true (sk tx td 0) (nI (sk tx td 0)) nu (F_X6_empties w 444) = _ from read_first 151 tx td (sk tx td 0) (nI (sk tx td 0)) nu (F_X6_empties w 444)] at eX
  rw [if_neg (show ¬ nI 150 < nI (tN td) from fun z => by have := (nI_ltI (by decide) (by omega)).mp z; omega), let1_mk, let1_mk] at eC
  rcases F with ⟨po, s2, m2, w2, D1, D2, P2, y1, y2, y3, y4, y5, y6, y7⟩ | ⟨po, k, m2, w2, z, D1, P2, y1, y2, y3, y4, y5, y6⟩
  · have y4' : F_X3_readBowler (F_X3_step (tN td, 0, Dsa Rd, Dtk Rd, Dvl Rd) tx) (F_X2_begin P3 (nI 0)) tx = (true, D1, P2) := y4
    rw [y1, let5_mk, if_pos (show true = true from rfl), blanks_eq, let2_mk] at eX
    rw [y4', let3_mk, if_pos (show true = true from rfl), y5, let2_mk, if_pos (show true = true from rfl)] at eC
    have q1 := skG tx td po
    have q2 := skL (tx := tx) (p := po) y3
    have T := textQ (w0 := w) hN ht 151 152 1 (sk tx td po) m2 w2 D2 P2 (StR_sk hN y6) (sk_sk hN po) (rd_mono y7 q1) q2 (by decide) (by omega) (by omega) (by omega)
    rcases T with ⟨it2, pp2, s3, m3, w3, D3, P3', x1, x2, x3, x4⟩ | ⟨it2, pp2, k, m3, w3, D3, P3', x1, x2, x3, x4⟩
    · rw [x1, let6_mk, if_pos (show true = true from rfl), let1_mk] at eX
      rw [x2] at eC
      have eC' : (nI it2, D3, P3') = qc := eC
      rw [← eX, ← eC']
      exact ⟨_, w3, _, _, _, _, _, rfl, Or.inl ⟨nI_pos' (by omega), x4, rfl⟩⟩
    · rw [x1, let6_mk, if_neg (show ¬ false = true by decide)] at eX
      rw [x4] at eC
      have eC' : ((-10) - nI k, D3, P3') = qc := eC
      rw [← eX, ← eC']
      exact ⟨_, w3, _, _, _, _, _, rfl, Or.inr ⟨neg10 k (by omega), x3, rfl⟩⟩
  · have y3' : F_X3_readBowler (F_X3_step (tN td, 0, Dsa Rd, Dtk Rd, Dvl Rd) tx) (F_X2_begin P3 (nI 0)) tx = (z, D1, P2) := y3
    rw [y1, let5_mk, if_neg (show ¬ false = true by decide), read_stop, let6_mk, if_neg (show ¬ false = true by decide)] at eX
    rw [y3', let3_mk] at eC
    have eC' : ((-10) - nI k, D1, P2) = qc := by
      rw [← eC]
      cases z with
      | false => rw [if_neg (show ¬ false = true by decide), y4]
      | true => rw [if_pos (show true = true from rfl), y6.resolve_left (by decide), let2_mk, if_neg (show ¬ false = true by decide), y4]
    rw [← eX, ← eC']
    exact ⟨_, w2, _, _, _, _, _, rfl, Or.inr ⟨neg10 k (by omega), y2, rfl⟩⟩
theorem read_eq {w tx : Nat → Int32} {P : pS} {Rw : Nat → Int32} {No Ma Pa : rS} (h : relF w P Rw No Ma Pa) (X : xS) (hb : inB (Xtl X) 150) (ht : ∀ j, j < tN (Xtl X) → inB (tx j) 127) (nu : Int32) (Rd : dS) (P3 : pS) : (F_X6_read w tx (Xtl X) nu).1 = (F_X5_read X P Rw No Ma Pa tx Rd P3).1 ∧ relF (F_X6_read w tx (Xtl X) nu).2.1 (F_X5_read X P Rw No Ma Pa tx Rd P3).2.1 (F_X5_read X P Rw No Ma Pa tx Rd P3).2.2.1 (F_X5_read X P Rw No Ma Pa tx Rd P3).2.2.2.1 (F_X5_read X P Rw No Ma Pa tx Rd P3).2.2.2.2.1 (F_X5_read X P Rw No Ma Pa tx Rd P3).2.2.2.2.2.1 ∧ ∀ j, 148 ≤ j → j < 444 → (F_X6_read w tx (Xtl X) nu).2.1 j = w j := by
  obtain ⟨r, w1, pp, s2, m2, D2, P2, a, b⟩ := allQ (w := w) hb.2 ht nu Rd P3
  unfold F_X5_read
  rw [a, let3_mk]
  rcases b with ⟨b1, b2, b3⟩ | ⟨b1, b2, b3⟩
  · have nr : ¬ r < 0 := fun z => by
      have h1 := Int32.le_iff_toInt_le.mp b1
      have h2 := Int32.lt_iff_toInt_lt.mp z
      omega
    rw [b3, if_neg nr]
    unfold F_X1_begin F_X4_empty_v9 F_X4_empty_v4 F_X4_empty_v3
    simp only [let1, let5]
    obtain ⟨⟨q0, q1, q2, q4, qi⟩, c2, c3, c4, c5, c6, c7⟩ := b2
    have C : ∀ j, j < 148 → F_X6_copy w1 444 0 j = w1 (444 + j) := fun j hj => by rw [copy_at w1 444 0 (by omega), if_pos (by omega), Nat.sub_zero]
    have s6 := c2.1.2
    have hR : relP 0 (F_X6_copy w1 444 0) P2 := rp0' ⟨by rw [C 0 (by decide)]; exact q0, by rw [C 1 (by decide)]; exact q1, by rw [C 2 (by decide)]; exact q2, by rw [C 4 (by decide)]; exact q4, fun i hi => by
      rw [C _ (by omega), C _ (by omega), C _ (by omega), ← Nat.add_assoc, ← Nat.add_assoc, ← Nat.add_assoc]; exact qi i hi⟩
    have tp : tN (Ppt P2) ≤ 9999 := by have := c4.2; omega
    have tb : tN (Pbl P2) ≤ 9999 := by have := c5.2; omega
    refine ⟨by trivial, ⟨⟨relP_cpy (T := F_X2_begin P (nI 0)) c2.1 hR, wfP_cpy (T := F_X2_begin P (nI 0)) c2, by rw [C 3 (by decide)]; exact c3, ⟨c4.1, tp⟩, ⟨c5.1, tb⟩⟩, fun k hk => ?_, relNo_empty ?_, relMa_empty ?_, relPa_empty ?_⟩, fun j h1 h2 => ?_⟩
    · rw [C _ (by omega), c7 _ (by omega) (by omega), if_pos (by omega), fl8_at Rw (nI 5) hk]
      exact ⟨rfl, inB_nI (by decide) (by decide)⟩
    · rw [C 31 (by decide), c7 _ (by omega) (by omega), if_neg (by omega)]
    · rw [C 50 (by decide), c7 _ (by omega) (by omega), if_neg (by omega)]
    · rw [C 75 (by decide), c7 _ (by omega) (by omega), if_neg (by omega)]
    · show F_X6_copy w1 444 0 j = w j
      rw [copy_at w1 444 0 (by omega), if_neg (by omega)]
      exact c6 j h2
  · rw [b3, if_pos b1]
    exact ⟨rfl, relF_keep (fun j hj => b2 j (by omega)) h, fun j h1 h2 => b2 j h2⟩
