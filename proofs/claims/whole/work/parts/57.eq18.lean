/-! reading: a word -/
theorem ite_and {a b : Bool} : (if a = true then b else false) = true ↔ a = true ∧ b = true := by
  cases a <;> simp
theorem lett_iff {tx : Nat → Int32} {st k lo : Nat} {l : Nat} (h : ¬ l = 0) : F_X6_isLetter tx st k l lo = true ↔ k < lo ∧ tx (st + k) = nI l := by
  unfold F_X6_isLetter
  rw [if_neg h]
  by_cases c : lo ≤ k
  · rw [if_pos c]
    exact ⟨fun z => absurd z (by decide), fun z => by omega⟩
  · rw [if_neg c]
    by_cases d : tx (st + k) = nI l
    · rw [if_pos d]
      exact ⟨fun _ => ⟨by omega, d⟩, fun _ => rfl⟩
    · rw [if_neg d]
      exact ⟨fun z => absurd z (by decide), fun z => absurd z.2 d⟩
theorem lett0_iff {tx : Nat → Int32} {st k lo : Nat} : F_X6_isLetter tx st k 0 lo = true ↔ lo ≤ k := by
  unfold F_X6_isLetter
  rw [if_pos rfl]
  by_cases c : k < lo
  · rw [if_pos c]
    exact ⟨fun z => absurd z (by decide), fun z => by omega⟩
  · rw [if_neg c]
    exact ⟨fun _ => by omega, fun _ => rfl⟩
theorem le7_iff {L : Nat} : (if 7 ≤ L then false else true) = true ↔ L < 7 := by
  by_cases c : 7 ≤ L
  · rw [if_pos c]
    exact ⟨fun z => absurd z (by decide), fun z => by omega⟩
  · rw [if_neg c]
    exact ⟨fun _ => by omega, fun _ => rfl⟩
abbrev zW0 (tx : Nat → Int32) (td : Int32) (q : Nat) : Bool := F_X6_isWord tx (ltR tx td q) q 102 105 101 108 100 0
theorem isW0 {tx : Nat → Int32} {po st : Nat} : F_X6_isWord tx po st 102 105 101 108 100 0 = true ↔ po - st = 5 ∧ tx (st + 0) = nI 102 ∧ tx (st + 1) = nI 105 ∧ tx (st + 2) = nI 101 ∧ tx (st + 3) = nI 108 ∧ tx (st + 4) = nI 100 := by
  unfold F_X6_isWord
  simp only [let1]
  rw [ite_and, ite_and, ite_and, ite_and, ite_and, ite_and, lett_iff (by decide), lett_iff (by decide), lett_iff (by decide), lett_iff (by decide), lett_iff (by decide), lett0_iff, le7_iff]
  constructor
  · rintro ⟨⟨a0, b0⟩, ⟨a1, b1⟩, ⟨a2, b2⟩, ⟨a3, b3⟩, ⟨a4, b4⟩, c0, e⟩
    exact ⟨by omega, b0, b1, b2, b3, b4⟩
  · rintro ⟨l, b0, b1, b2, b3, b4⟩
    exact ⟨⟨by omega, b0⟩, ⟨by omega, b1⟩, ⟨by omega, b2⟩, ⟨by omega, b3⟩, ⟨by omega, b4⟩, by omega, by omega⟩
def lS0 : List Nat := [102, 105, 101, 108, 100]
theorem ch0 : ∀ k, k < 5 → F_J0_charAt_5068e 0 k = nI (lS0.getD k 0) := by decide
theorem tw0_ok {D : dS} {tx : Nat → Int32} : ∀ (a k : Nat), k + a = 5 → (∀ i, k ≤ i → i < 5 → F_X3_byteAt D tx (Dsa D + i) = nI (lS0.getD i 0)) → F_X3_takeWord_v0_L28 (a + 1) D tx k = .inl 5
  | 0, k, h, _ => by
    rw [F_X3_takeWord_v0_L28, if_pos (by omega), show k = 5 by omega]
  | a + 1, k, h, hm => by
    rw [F_X3_takeWord_v0_L28, if_neg (by omega)]
    simp only [let1]
    rw [ch0 k (by omega), if_pos (hm k (Nat.le_refl _) (by omega))]
    exact tw0_ok a (k + 1) (by omega) (fun i x y => hm i (by omega) y)
theorem tw0_no {D : dS} {tx : Nat → Int32} : ∀ (a k : Nat), k + a = 5 → ¬ (∀ i, k ≤ i → i < 5 → F_X3_byteAt D tx (Dsa D + i) = nI (lS0.getD i 0)) → F_X3_takeWord_v0_L28 (a + 1) D tx k = .inr (false, D)
  | 0, k, h, hm => absurd (fun i x y => by omega) hm
  | a + 1, k, h, hm => by
    rw [F_X3_takeWord_v0_L28, if_neg (by omega)]
    simp only [let1]
    rw [ch0 k (by omega)]
    by_cases c : F_X3_byteAt D tx (Dsa D + k) = nI (lS0.getD k 0)
    · rw [if_pos c]
      refine tw0_no a (k + 1) (by omega) (fun z => hm (fun i x y => ?_))
      by_cases e : i = k
      · rw [e]; exact c
      · exact z i (by omega) y
    · rw [if_neg c]
theorem wv0 {tx : Nat → Int32} {td : Int32} (hN : tN td ≤ 150) (ht : ∀ j, j < tN td → inB (tx j) 127) {p : Nat} (hp : p ≤ tN td) {D : dS} (hS : StR tx td p D) : F_X3_takeWord_v0 D tx = (if zW0 tx td (sk tx td p) = true then (true, F_X3_step D tx) else (false, D)) ∧ (zW0 tx td (sk tx td p) = true → Dbh D = ltR tx td (sk tx td p) ∧ ltR tx td (sk tx td p) = sk tx td p + 5) := by
  obtain ⟨t1, t2, -, -, -, t6, t7, -, -⟩ := tok hN ht hS
  have hq := skL (tx := tx) (p := p) hp
  have lg := ltG tx td (sk tx td p)
  have ll := ltL (tx := tx) (q := (sk tx td p)) hq
  have iz := isW0 (tx := tx) (po := ltR tx td (sk tx td p)) (st := sk tx td p)
  unfold F_X3_takeWord_v0
  simp only [let1]
  by_cases c : Dtk D = nI 1
  · have hb := t7 c
    rw [if_pos c, hb, t2, pk_sub (by omega)]
    by_cases d : ltR tx td (sk tx td p) - sk tx td p = 5
    · rw [d, if_pos rfl]
      have bt : ∀ i, i < 5 → F_X3_byteAt D tx (Dsa D + i) = tx (sk tx td p + i) := fun i hi => by rw [by_eq t1, t2, by_in (by omega)]
      by_cases e : ∀ i, 0 ≤ i → i < 5 → F_X3_byteAt D tx (Dsa D + i) = nI (lS0.getD i 0)
      · rw [tw0_ok 5 0 rfl e, if_pos (iz.mpr ⟨d, (bt 0 (by decide)).symm.trans (e 0 (by decide) (by decide)), (bt 1 (by decide)).symm.trans (e 1 (by decide) (by decide)), (bt 2 (by decide)).symm.trans (e 2 (by decide) (by decide)), (bt 3 (by decide)).symm.trans (e 3 (by decide) (by decide)), (bt 4 (by decide)).symm.trans (e 4 (by decide) (by decide))⟩)]
        exact ⟨rfl, fun _ => ⟨rfl, by omega⟩⟩
      · have nz : ¬ zW0 tx td (sk tx td p) = true := fun z => e (fun i _ hi => by
          obtain ⟨-, b0, b1, b2, b3, b4⟩ := iz.mp z
          rw [bt i hi]
          have : i = 0 ∨ i = 1 ∨ i = 2 ∨ i = 3 ∨ i = 4 := by omega
          rcases this with q | q | q | q | q
          · rw [q]; exact b0
          · rw [q]; exact b1
          · rw [q]; exact b2
          · rw [q]; exact b3
          · rw [q]; exact b4)
        rw [tw0_no 5 0 rfl e, if_neg nz]
        exact ⟨rfl, fun z => absurd z nz⟩
    · have nz : ¬ zW0 tx td (sk tx td p) = true := fun z => d (iz.mp z).1
      rw [if_neg (fun z => d ((nI_eq (by omega) (by decide)).mp z)), if_neg nz]
      exact ⟨rfl, fun z => absurd z nz⟩
  · have nz : ¬ zW0 tx td (sk tx td p) = true := fun z => by
      have a := (iz.mp z).1
      rw [lt_no (fun y => c (t6.mpr y))] at a
      omega
    rw [if_neg c, if_neg nz]
    exact ⟨rfl, fun z => absurd z nz⟩
abbrev zW1 (tx : Nat → Int32) (td : Int32) (q : Nat) : Bool := F_X6_isWord tx (ltR tx td q) q 98 97 116 116 101 114
theorem isW1 {tx : Nat → Int32} {po st : Nat} : F_X6_isWord tx po st 98 97 116 116 101 114 = true ↔ po - st = 6 ∧ tx (st + 0) = nI 98 ∧ tx (st + 1) = nI 97 ∧ tx (st + 2) = nI 116 ∧ tx (st + 3) = nI 116 ∧ tx (st + 4) = nI 101 ∧ tx (st + 5) = nI 114 := by
  unfold F_X6_isWord
  simp only [let1]
  rw [ite_and, ite_and, ite_and, ite_and, ite_and, ite_and, lett_iff (by decide), lett_iff (by decide), lett_iff (by decide), lett_iff (by decide), lett_iff (by decide), lett_iff (by decide), le7_iff]
  constructor
  · rintro ⟨⟨a0, b0⟩, ⟨a1, b1⟩, ⟨a2, b2⟩, ⟨a3, b3⟩, ⟨a4, b4⟩, ⟨a5, b5⟩, e⟩
    exact ⟨by omega, b0, b1, b2, b3, b4, b5⟩
  · rintro ⟨l, b0, b1, b2, b3, b4, b5⟩
    exact ⟨⟨by omega, b0⟩, ⟨by omega, b1⟩, ⟨by omega, b2⟩, ⟨by omega, b3⟩, ⟨by omega, b4⟩, ⟨by omega, b5⟩, by omega⟩
def lS1 : List Nat := [98, 97, 116, 116, 101, 114]
theorem ch1 : ∀ k, k < 6 → F_J0_charAt_5068e 1 k = nI (lS1.getD k 0) := by decide
theorem tw1_ok {D : dS} {tx : Nat → Int32} : ∀ (a k : Nat), k + a = 6 → (∀ i, k ≤ i → i < 6 → F_X3_byteAt D tx (Dsa D + i) = nI (lS1.getD i 0)) → F_X3_takeWord_v1_L28 (a + 1) D tx k = .inl 6
  | 0, k, h, _ => by
    rw [F_X3_takeWord_v1_L28, if_pos (by omega), show k = 6 by omega]
  | a + 1, k, h, hm => by
    rw [F_X3_takeWord_v1_L28, if_neg (by omega)]
    simp only [let1]
    rw [ch1 k (by omega), if_pos (hm k (Nat.le_refl _) (by omega))]
    exact tw1_ok a (k + 1) (by omega) (fun i x y => hm i (by omega) y)
theorem tw1_no {D : dS} {tx : Nat → Int32} : ∀ (a k : Nat), k + a = 6 → ¬ (∀ i, k ≤ i → i < 6 → F_X3_byteAt D tx (Dsa D + i) = nI (lS1.getD i 0)) → F_X3_takeWord_v1_L28 (a + 1) D tx k = .inr (false, D)
  | 0, k, h, hm => absurd (fun i x y => by omega) hm
  | a + 1, k, h, hm => by
    rw [F_X3_takeWord_v1_L28, if_neg (by omega)]
    simp only [let1]
    rw [ch1 k (by omega)]
    by_cases c : F_X3_byteAt D tx (Dsa D + k) = nI (lS1.getD k 0)
    · rw [if_pos c]
      refine tw1_no a (k + 1) (by omega) (fun z => hm (fun i x y => ?_))
      by_cases e : i = k
      · rw [e]; exact c
      · exact z i (by omega) y
    · rw [if_neg c]
theorem wv1 {tx : Nat → Int32} {td : Int32} (hN : tN td ≤ 150) (ht : ∀ j, j < tN td → inB (tx j) 127) {p : Nat} (hp : p ≤ tN td) {D : dS} (hS : StR tx td p D) : F_X3_takeWord_v1 D tx = (if zW1 tx td (sk tx td p) = true then (true, F_X3_step D tx) else (false, D)) ∧ (zW1 tx td (sk tx td p) = true → Dbh D = ltR tx td (sk tx td p) ∧ ltR tx td (sk tx td p) = sk tx td p + 6) := by
  obtain ⟨t1, t2, -, -, -, t6, t7, -, -⟩ := tok hN ht hS
  have hq := skL (tx := tx) (p := p) hp
  have lg := ltG tx td (sk tx td p)
  have ll := ltL (tx := tx) (q := (sk tx td p)) hq
  have iz := isW1 (tx := tx) (po := ltR tx td (sk tx td p)) (st := sk tx td p)
  unfold F_X3_takeWord_v1
  simp only [let1]
  by_cases c : Dtk D = nI 1
  · have hb := t7 c
    rw [if_pos c, hb, t2, pk_sub (by omega)]
    by_cases d : ltR tx td (sk tx td p) - sk tx td p = 6
    · rw [d, if_pos rfl]
      have bt : ∀ i, i < 6 → F_X3_byteAt D tx (Dsa D + i) = tx (sk tx td p + i) := fun i hi => by rw [by_eq t1, t2, by_in (by omega)]
      by_cases e : ∀ i, 0 ≤ i → i < 6 → F_X3_byteAt D tx (Dsa D + i) = nI (lS1.getD i 0)
      · rw [tw1_ok 6 0 rfl e, if_pos (iz.mpr ⟨d, (bt 0 (by decide)).symm.trans (e 0 (by decide) (by decide)), (bt 1 (by decide)).symm.trans (e 1 (by decide) (by decide)), (bt 2 (by decide)).symm.trans (e 2 (by decide) (by decide)), (bt 3 (by decide)).symm.trans (e 3 (by decide) (by decide)), (bt 4 (by decide)).symm.trans (e 4 (by decide) (by decide)), (bt 5 (by decide)).symm.trans (e 5 (by decide) (by decide))⟩)]
        exact ⟨rfl, fun _ => ⟨rfl, by omega⟩⟩
      · have nz : ¬ zW1 tx td (sk tx td p) = true := fun z => e (fun i _ hi => by
          obtain ⟨-, b0, b1, b2, b3, b4, b5⟩ := iz.mp z
          rw [bt i hi]
          have : i = 0 ∨ i = 1 ∨ i = 2 ∨ i = 3 ∨ i = 4 ∨ i = 5 := by omega
          rcases this with q | q | q | q | q | q
          · rw [q]; exact b0
          · rw [q]; exact b1
          · rw [q]; exact b2
          · rw [q]; exact b3
          · rw [q]; exact b4
          · rw [q]; exact b5)
        rw [tw1_no 6 0 rfl e, if_neg nz]
        exact ⟨rfl, fun z => absurd z nz⟩
    · have nz : ¬ zW1 tx td (sk tx td p) = true := fun z => d (iz.mp z).1
      rw [if_neg (fun z => d ((nI_eq (by omega) (by decide)).mp z)), if_neg nz]
      exact ⟨rfl, fun z => absurd z nz⟩
  · have nz : ¬ zW1 tx td (sk tx td p) = true := fun z => by
      have a := (iz.mp z).1
      rw [lt_no (fun y => c (t6.mpr y))] at a
      omega
    rw [if_neg c, if_neg nz]
    exact ⟨rfl, fun z => absurd z nz⟩
abbrev zW2 (tx : Nat → Int32) (td : Int32) (q : Nat) : Bool := F_X6_isWord tx (ltR tx td q) q 98 97 108 108 0 0
theorem isW2 {tx : Nat → Int32} {po st : Nat} : F_X6_isWord tx po st 98 97 108 108 0 0 = true ↔ po - st = 4 ∧ tx (st + 0) = nI 98 ∧ tx (st + 1) = nI 97 ∧ tx (st + 2) = nI 108 ∧ tx (st + 3) = nI 108 := by
  unfold F_X6_isWord
  simp only [let1]
  rw [ite_and, ite_and, ite_and, ite_and, ite_and, ite_and, lett_iff (by decide), lett_iff (by decide), lett_iff (by decide), lett_iff (by decide), lett0_iff, lett0_iff, le7_iff]
  constructor
  · rintro ⟨⟨a0, b0⟩, ⟨a1, b1⟩, ⟨a2, b2⟩, ⟨a3, b3⟩, c0, c1, e⟩
    exact ⟨by omega, b0, b1, b2, b3⟩
  · rintro ⟨l, b0, b1, b2, b3⟩
    exact ⟨⟨by omega, b0⟩, ⟨by omega, b1⟩, ⟨by omega, b2⟩, ⟨by omega, b3⟩, by omega, by omega, by omega⟩
def lS2 : List Nat := [98, 97, 108, 108]
theorem ch2 : ∀ k, k < 4 → F_J0_charAt_5068e 2 k = nI (lS2.getD k 0) := by decide
theorem tw2_ok {D : dS} {tx : Nat → Int32} : ∀ (a k : Nat), k + a = 4 → (∀ i, k ≤ i → i < 4 → F_X3_byteAt D tx (Dsa D + i) = nI (lS2.getD i 0)) → F_X3_takeWord_v2_L28 (a + 1) D tx k = .inl 4
  | 0, k, h, _ => by
    rw [F_X3_takeWord_v2_L28, if_pos (by omega), show k = 4 by omega]
  | a + 1, k, h, hm => by
    rw [F_X3_takeWord_v2_L28, if_neg (by omega)]
    simp only [let1]
    rw [ch2 k (by omega), if_pos (hm k (Nat.le_refl _) (by omega))]
    exact tw2_ok a (k + 1) (by omega) (fun i x y => hm i (by omega) y)
theorem tw2_no {D : dS} {tx : Nat → Int32} : ∀ (a k : Nat), k + a = 4 → ¬ (∀ i, k ≤ i → i < 4 → F_X3_byteAt D tx (Dsa D + i) = nI (lS2.getD i 0)) → F_X3_takeWord_v2_L28 (a + 1) D tx k = .inr (false, D)
  | 0, k, h, hm => absurd (fun i x y => by omega) hm
  | a + 1, k, h, hm => by
    rw [F_X3_takeWord_v2_L28, if_neg (by omega)]
    simp only [let1]
    rw [ch2 k (by omega)]
    by_cases c : F_X3_byteAt D tx (Dsa D + k) = nI (lS2.getD k 0)
    · rw [if_pos c]
      refine tw2_no a (k + 1) (by omega) (fun z => hm (fun i x y => ?_))
      by_cases e : i = k
      · rw [e]; exact c
      · exact z i (by omega) y
    · rw [if_neg c]
theorem wv2 {tx : Nat → Int32} {td : Int32} (hN : tN td ≤ 150) (ht : ∀ j, j < tN td → inB (tx j) 127) {p : Nat} (hp : p ≤ tN td) {D : dS} (hS : StR tx td p D) : F_X3_takeWord_v2 D tx = (if zW2 tx td (sk tx td p) = true then (true, F_X3_step D tx) else (false, D)) ∧ (zW2 tx td (sk tx td p) = true → Dbh D = ltR tx td (sk tx td p) ∧ ltR tx td (sk tx td p) = sk tx td p + 4) := by
  obtain ⟨t1, t2, -, -, -, t6, t7, -, -⟩ := tok hN ht hS
  have hq := skL (tx := tx) (p := p) hp
  have lg := ltG tx td (sk tx td p)
  have ll := ltL (tx := tx) (q := (sk tx td p)) hq
  have iz := isW2 (tx := tx) (po := ltR tx td (sk tx td p)) (st := sk tx td p)
  unfold F_X3_takeWord_v2
  simp only [let1]
  by_cases c : Dtk D = nI 1
  · have hb := t7 c
    rw [if_pos c, hb, t2, pk_sub (by omega)]
    by_cases d : ltR tx td (sk tx td p) - sk tx td p = 4
    · rw [d, if_pos rfl]
      have bt : ∀ i, i < 4 → F_X3_byteAt D tx (Dsa D + i) = tx (sk tx td p + i) := fun i hi => by rw [by_eq t1, t2, by_in (by omega)]
      by_cases e : ∀ i, 0 ≤ i → i < 4 → F_X3_byteAt D tx (Dsa D + i) = nI (lS2.getD i 0)
      · rw [tw2_ok 4 0 rfl e, if_pos (iz.mpr ⟨d, (bt 0 (by decide)).symm.trans (e 0 (by decide) (by decide)), (bt 1 (by decide)).symm.trans (e 1 (by decide) (by decide)), (bt 2 (by decide)).symm.trans (e 2 (by decide) (by decide)), (bt 3 (by decide)).symm.trans (e 3 (by decide) (by decide))⟩)]
        exact ⟨rfl, fun _ => ⟨rfl, by omega⟩⟩
      · have nz : ¬ zW2 tx td (sk tx td p) = true := fun z => e (fun i _ hi => by
          obtain ⟨-, b0, b1, b2, b3⟩ := iz.mp z
          rw [bt i hi]
          have : i = 0 ∨ i = 1 ∨ i = 2 ∨ i = 3 := by omega
          rcases this with q | q | q | q
          · rw [q]; exact b0
          · rw [q]; exact b1
          · rw [q]; exact b2
          · rw [q]; exact b3)
        rw [tw2_no 4 0 rfl e, if_neg nz]
        exact ⟨rfl, fun z => absurd z nz⟩
    · have nz : ¬ zW2 tx td (sk tx td p) = true := fun z => d (iz.mp z).1
      rw [if_neg (fun z => d ((nI_eq (by omega) (by decide)).mp z)), if_neg nz]
      exact ⟨rfl, fun z => absurd z nz⟩
  · have nz : ¬ zW2 tx td (sk tx td p) = true := fun z => by
      have a := (iz.mp z).1
      rw [lt_no (fun y => c (t6.mpr y))] at a
      omega
    rw [if_neg c, if_neg nz]
    exact ⟨rfl, fun z => absurd z nz⟩
theorem wordOf_eq (tx : Nat → Int32) (td : Int32) (q : Nat) : F_X6_wordOf tx (ltR tx td q) q = if zW0 tx td q = true then nI 1 else if zW1 tx td q = true then nI 2 else if zW2 tx td q = true then nI 3 else nI 0 := rfl
theorem zW_01 {tx : Nat → Int32} {td : Int32} {q : Nat} (h : zW1 tx td q = true) : ¬ zW0 tx td q = true := fun z => by
  have a := (isW0.mp z).1
  have b := (isW1.mp h).1
  omega
theorem zW_02 {tx : Nat → Int32} {td : Int32} {q : Nat} (h : zW2 tx td q = true) : ¬ zW0 tx td q = true := fun z => by
  have a := (isW0.mp z).1
  have b := (isW2.mp h).1
  omega
theorem zW_12 {tx : Nat → Int32} {td : Int32} {q : Nat} (h : zW2 tx td q = true) : ¬ zW1 tx td q = true := fun z => by
  have a := (isW1.mp z).1
  have b := (isW2.mp h).1
  omega
/-! reading: the field that is being read -/
def rdR (w w0 : Nat → Int32) (P1 : pS) (m : Nat) : Prop := relP 444 w P1 ∧ wfP P1 ∧ w 447 = Ppt P1 ∧ inB (Ppt P1) (14 * m) ∧ inB (Pbl P1) m ∧ (∀ j, j < 444 → w j = w0 j) ∧ ∀ j, 467 ≤ j → j < 592 → w j = if j < 475 then nI 5 else nI 0
theorem rd_mono {w w0 : Nat → Int32} {P1 : pS} {m m2 : Nat} (h : rdR w w0 P1 m) (hm : m ≤ m2) : rdR w w0 P1 m2 := by
  obtain ⟨a, b, c, d, e, f⟩ := h
  exact ⟨a, b, c, ⟨d.1, by have := d.2; omega⟩, ⟨e.1, by have := e.2; omega⟩, f⟩
theorem rd_field {w w0 : Nat → Int32} {k m : Nat} {f1 f2 f3 : Nat → Int32} (hk : k ≤ 5) (hw : ∀ j, j < 444 → w j = w0 j) : rdR (F_X6_begins w 444 (nI k)) w0 (nI k, nI 0, f1, f2, f3, -1, nI 0, nI 0) m := by
  have z0 : tN (nI 0) = 0 := by decide
  refine ⟨⟨?_, ?_, ?_, ?_, fun i hi => ?_⟩, ⟨inB_nI (by decide) (by decide), inB_nI hk (by decide), Or.inl rfl, fun i hi => ?_⟩, ?_, ⟨show (0 : Int32) ≤ nI 0 from by decide, by show tN (nI 0) ≤ _; rw [z0]; exact Nat.zero_le _⟩, ⟨show (0 : Int32) ≤ nI 0 from by decide, by show tN (nI 0) ≤ _; rw [z0]; exact Nat.zero_le _⟩, fun j hj => ?_, fun j h1 h2 => ?_⟩
  · rw [beg_at]; rfl
  · rw [beg_at]; rfl
  · rw [beg_at]; rfl
  · rw [beg_at]; rfl
  · have : i < tN (nI 0) := hi
    omega
  · have : i < tN (nI 0) := hi
    omega
  · rw [beg_at]; rfl
  · rw [beg_at, if_neg (by omega), if_neg (by omega), if_neg (by omega), if_neg (by omega)]; exact hw j hj
  · rw [beg_at]
    by_cases c : j < 475
    · rw [if_pos c, if_pos (by omega)]
    · rw [if_neg c, if_neg (by omega), if_neg (by omega), if_neg (by omega), if_pos (by omega)]
theorem rd_join {w w0 : Nat → Int32} {P1 : pS} {m k lg : Nat} (h : rdR w w0 P1 m) (h6 : tN (Psz P1) < 6) (hk : k ≤ 5) (hl : lg ≤ 5) (hl1 : 1 ≤ lg) : rdR (F_X6_addsBatter w 444 (nI k) (nI lg)) w0 (F_X2_join P1 (nI k) (nI lg)).2 m := by
  obtain ⟨a, b, c, d, e, f, g⟩ := h
  obtain ⟨j1, j2, j3, j4, j5, j6, j7⟩ := join_eq a b h6 hk hl hl1
  refine ⟨j2, j3, ?_, by rw [j5]; exact d, by rw [j6]; exact e, fun j hj => ?_, fun j x y => ?_⟩
  · rw [j7 447 (by omega), c, j5]
  · rw [j7 j (by omega)]; exact f j hj
  · rw [j7 j (by omega)]; exact g j x y
theorem rd_ball {w w0 : Nat → Int32} {P1 : pS} {m h : Nat} (hr : rdR w w0 P1 m) (hm : m ≤ 300) (hn : ¬ Pnx P1 = -1) (hh : h < 10) : ∃ (k : Nat) (v w2 : Nat → Int32), F_X6_bats w 444 (nI h) = (nI k, v) ∧ F_X6_scores v 444 (nI k) = (nI k, w2) ∧ ¬ nI k < 0 ∧ rdR w2 w0 (F_X2_ball P1 (nI h)).2 (m + 1) := by
  obtain ⟨a, b, c, d, e, f, g⟩ := hr
  have hE := ball_eq a b e (by omega) hn hh
  have hnum := bats_num (w := w) (R := 444) (h := nI h) (r := (F_X6_bats w 444 (nI h)).1) (w' := (F_X6_bats w 444 (nI h)).2) rfl
  have qn := wf_next b hn
  have s6 := b.1.2
  have hat := (bats_at (w := w) (R := 444) (h := nI h) (r := (F_X6_bats w 444 (nI h)).1) (w' := (F_X6_bats w 444 (nI h)).2) rfl (by rw [a.1]; exact b.1) (by rw [a.2.2.1]; exact ⟨qn.1, by omega⟩)).2
  generalize F_X6_bats w 444 (nI h) = Y at hE hnum hat ⊢
  generalize F_X2_ball P1 (nI h) = Z at hE ⊢
  obtain ⟨y, v⟩ := Y
  obtain ⟨z, P2⟩ := Z
  obtain ⟨g1, g2, g3, g4, g5⟩ := hE
  simp only at g1 g2 g3 g4 g5 hnum hat ⊢
  subst g1
  have ye := tN_eq hnum.1
  have yl := hnum.2
  have pe := tN_eq d.1
  have pl := d.2
  have v3 : v (444 + 3) = Ppt P1 := by rw [hat 447 (by omega) (by omega) (Or.inl (by omega))]; exact c
  have sum : Ppt P1 + y = nI (tN (Ppt P1) + tN y) := by
    conv => lhs; rw [pe, ye]
    rw [nI_add]
  have dif : nI (tN (Ppt P1) + tN y) - Ppt P1 = nI (tN y) := by
    conv => lhs; rw [pe]
    rw [tN_nI (tN_lt _), pk_sub (by omega), Nat.add_sub_cancel_left]
  have p5 : Ppt P2 = nI (tN (Ppt P1) + tN y) := by rw [g5, sum]
  refine ⟨tN y, v, upd v 447 (nI (tN (Ppt P1) + tN y)), by rw [← ye], ?_, nI_pos (tN_lt _), ?_⟩
  · unfold F_X6_scores
    rw [v3, ← ye, sum, if_pos ((nI_leI (by omega) (by decide)).mpr (by omega)), dif, ← ye]
  · obtain ⟨q0, q1, q2, q4, qi⟩ := g2
    have t6 := g3.1.2
    refine ⟨⟨?_, ?_, ?_, ?_, fun i hi => ?_⟩, g3, ?_, ?_, g4, fun j hj => ?_, fun j x y2 => ?_⟩
    · rw [pk_un (by omega)]; exact q0
    · rw [pk_un (by omega)]; exact q1
    · rw [pk_un (by omega)]; exact q2
    · rw [pk_un (by omega)]; exact q4
    · rw [pk_un (by omega), pk_un (by omega), pk_un (by omega)]; exact qi i hi
    · rw [pk_us, p5]
    · rw [p5]; exact inB_nI (by omega) (by omega)
    · rw [pk_un (by omega), hat j (by omega) (by omega) (Or.inl (by omega))]; exact f j hj
    · rw [pk_un (by omega), hat j (by omega) (by omega) (Or.inr (by omega))]; exact g j x y2
/-! reading: the hits of a ball -/
theorem bhQ {tx w0 : Nat → Int32} {td : Int32} (hN : tN td ≤ 150) (ht : ∀ j, j < tN td → inB (tx j) 127) : ∀ (f fo pp : Nat) (s1 m1 : Int32) (w1 : Nat → Int32) (D : dS) (P1 : pS), StR tx td pp D → rdR w1 w0 P1 pp → pp ≤ tN td → fo ≤ 9 → (fo = 0 ∨ (s1 = nI (sk tx td pp) ∧ ¬ F_X6_byteAt tx td (sk tx td pp) = nI 59)) → tN td - pp < f →
    (∃ (n2 pp2 : Nat) (s2 m2 : Int32) (w2 : Nat → Int32) (fo2 : Nat) (D2 : dS) (P2 : pS), F_X6_readsBall_L4 f tx td fo true pp s1 m1 w1 = .inl (n2, false, pp2, s2, m2, w2) ∧ F_X6_byteAt tx td pp2 = nI 59 ∧ pp < pp2 ∧ F_X3_readHits_L2 (10 - fo) tx fo D P1 = (fo2, D2, P2) ∧ 0 < fo2 ∧ fo2 ≤ 9 ∧ StR tx td pp2 D2 ∧ rdR w2 w0 P2 pp2) ∨
    (∃ (pp2 k : Nat) (m2 : Int32) (w2 : Nat → Int32) (fo2 : Nat) (D2 : dS) (P2 : pS), F_X6_readsBall_L4 f tx td fo true pp s1 m1 w1 = .inr (false, pp2, nI k, m2, w2) ∧ (∀ j, j < 444 → w2 j = w0 j) ∧ F_X3_readHits_L2 (10 - fo) tx fo D P1 = (fo2, D2, P2) ∧ fo2 ≤ 9 ∧ k = Dsa D2 ∧ k ≤ 150 ∧ (fo2 = 0 ∨ ¬ Dtk D2 = nI 3))
  | 0, _, _, _, _, _, _, _, _, _, _, _, _, h => by omega
  | f + 1, fo, pp, s1, m1, w1, D, P1, hS, hr, hp, hfo, hs, hf => by
    obtain ⟨t1, t2, -, t4, -, -, -, -, -⟩ := tok hN ht hS
    obtain ⟨z, po, nn, n1, n2, n3⟩ := num_view hN ht hp hS 0 9
    have hq := skL (tx := tx) (p := pp) hp
    have hq2 := skG tx td pp
    have hst : fo = 0 ∨ ¬ Dtk D = nI 3 := hs.elim Or.inl (fun y => Or.inr (fun z => y.2 (t4.mp z)))
    have keep := hr.2.2.2.2.2.1
    rw [F_X6_readsBall_L4, if_pos rfl]
    by_cases c9 : fo = 9
    · subst c9
      rw [if_pos rfl, show 10 - 9 = 0 + 1 from rfl, F_X3_readHits_L2, if_pos (by decide)]
      have e1 : s1 = nI (sk tx td pp) := (hs.resolve_left (by decide)).1
      rw [e1]
      exact Or.inr ⟨_, _, _, _, _, _, _, rfl, keep, rfl, by decide, t2.symm, by omega, hst⟩
    · obtain ⟨g, hg⟩ : ∃ g, 10 - fo = g + 1 := ⟨9 - fo, by omega⟩
      rw [if_neg c9, hg, F_X3_readHits_L2, if_neg (by omega), n1]
      simp only [let1, let2, let4]
      rw [n2, isDone_c hr.2.1, isDone_r, hr.1.2.2.1]
      cases z with
      | false =>
        simp only [Bool.false_eq_true, if_false, ite_self]
        exact Or.inr ⟨_, _, _, _, _, _, _, rfl, keep, rfl, hfo, t2.symm, by omega, hst⟩
      | true =>
        obtain ⟨a1, a2, a3, a4, a5, a6⟩ := n3 rfl
        simp only [if_true]
        by_cases d : Pnx P1 = -1
        · rw [decide_eq_true d, if_pos rfl, if_pos rfl]
          exact Or.inr ⟨_, _, _, _, _, _, _, rfl, keep, rfl, hfo, t2.symm, by omega, Or.inr a6⟩
        · rw [decide_eq_false d, if_neg (show ¬ false = true by decide), if_neg (show ¬ false = true by decide)]
          obtain ⟨k, k1, k2, k3⟩ := within_n (by decide) (by decide) a3
          obtain ⟨y, v, w2, b1, b2, b3, b4⟩ := rd_ball hr (by omega) d (h := k) (by omega)
          rw [a2, k3, b1]
          dsimp only
          rw [b2]
          dsimp only
          rw [if_neg b3]
          have hS2 := StR_next (tx := tx) t1 a1
          have r1 := skG tx td po
          have r2 := skL (tx := tx) (p := po) a5
          have hr2 := rd_mono (m2 := sk tx td po) b4 (by omega)
          have hS3 := StR_sk hN hS2
          have e1 : F_X6_blanks tx td po = (sk tx td po, sk tx td po) := rfl
          rw [e1]
          dsimp only
          by_cases e : F_X6_byteAt tx td (sk tx td po) = nI 59
          · rw [if_pos e]
            refine Or.inl ?_
            have tk := (tok hN ht hS2).2.2.2.1.mpr e
            have cl : F_X3_readHits_L2 g tx (fo + 1) (F_X3_step D tx) (F_X2_ball P1 (nI k)).2 = (fo + 1, F_X3_step D tx, (F_X2_ball P1 (nI k)).2) := by
              cases g with
              | zero => rfl
              | succ g =>
                have nn2 : F_X3_isNumber (F_X3_step D tx) (nI 0) (nI 9) = false := by
                  unfold F_X3_isNumber
                  rw [tk, if_neg (by decide)]
                rw [F_X3_readHits_L2]
                simp only [let1]
                rw [nn2]
                simp only [Bool.false_eq_true, if_false, ite_self]
            have rb : F_X6_readsBall_L4 f tx td (fo + 1) false (sk tx td po) (nI (sk tx td po)) (nI k) w2 = .inl (fo + 1, false, sk tx td po, nI (sk tx td po), nI k, w2) := by
              cases f with
              | zero => rfl
              | succ f => rw [F_X6_readsBall_L4, if_neg (by decide)]
            rw [cl, rb]
            exact ⟨_, _, _, _, _, _, _, _, rfl, e, by omega, rfl, by omega, by omega, hS3, hr2⟩
          · rw [if_neg e]
            have eg : 10 - (fo + 1) = g := by omega
            have ih := bhQ hN ht f (fo + 1) (sk tx td po) (nI (sk tx td po)) (nI k) w2 (F_X3_step D tx) (F_X2_ball P1 (nI k)).2 hS3 hr2 r2 (by omega) (Or.inr ⟨by rw [sk_sk hN], by rw [sk_sk hN]; exact e⟩) (by omega)
            rw [eg] at ih
            rcases ih with ⟨x1, x2, x3, x4, x5, x6, x7, x8, y1, y2, y3, y4⟩ | y
            · exact Or.inl ⟨x1, x2, x3, x4, x5, x6, x7, x8, y1, y2, by omega, y4⟩
            · exact Or.inr y
