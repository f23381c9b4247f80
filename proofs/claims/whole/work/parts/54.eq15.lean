/-! chance, mean, send: the fraction, the sums -/
theorem L_t6 : ∀ (f a b : Nat), b < f → (F_X6_told_L6 f a b).1 = Nat.gcd a b
  | 0, _, _, h => by omega
  | f + 1, a, b, h => by
    rw [F_X6_told_L6]
    by_cases c : b = 0
    · rw [if_pos c, c, Nat.gcd_zero_right]
    · have l := Nat.mod_lt a (show 0 < b by omega)
      rw [if_neg c, L_t6 f b (a % b) (by omega), Nat.gcd_comm a b, Nat.gcd_rec b a, Nat.gcd_comm b (a % b)]
theorem cd_0 (f k a : Nat) (hk : k < 100) : (F_X5_commonDivisor_L3 (f + 1) k (lN a) (lN 0)).2.1 = lN a := by
  rw [F_X5_commonDivisor_L3, if_neg (by omega), if_pos (show lg_cmp (lN 0) 0 = 0 from by decide)]
theorem cd_s (f k a b : Nat) (hk : k < 100) (ha : a < 2 ^ 31) (hb : b < 2 ^ 31) (b0 : ¬ b = 0) : F_X5_commonDivisor_L3 (f + 1) k (lN a) (lN b) = F_X5_commonDivisor_L3 f (k + 1) (lN b) (lN (a % b)) := by
  rw [F_X5_commonDivisor_L3, if_neg (by omega), if_neg (show ¬ lg_cmp (lN b) 0 = 0 from fun z => b0 ((lN_eq hb (by decide)).mp (((lg_cmp_eq _ _).mp z).trans (show (0 : Int64) = lN 0 from by decide)))), pk_lRem (by omega) (by omega) (by omega)]
theorem L_cd3 : ∀ (j f k a b : Nat), b < 2 ^ j → k + 2 * j < 100 → 100 < k + f → a < 2 ^ 31 → b < 2 ^ 31 → (F_X5_commonDivisor_L3 f k (lN a) (lN b)).2.1 = lN (Nat.gcd a b)
  | 0, f, k, a, b, hb, hk, hf, _, _ => by
    have b0 : b = 0 := by omega
    subst b0
    obtain ⟨f', rfl⟩ : ∃ f', f = f' + 1 := ⟨f - 1, by omega⟩
    rw [cd_0 f' k a (by omega), Nat.gcd_zero_right]
  | j + 1, f, k, a, b, hb, hk, hf, ha, hb2 => by
    obtain ⟨f', rfl⟩ : ∃ f', f = f' + 2 := ⟨f - 2, by omega⟩
    by_cases c : b = 0
    · subst c
      rw [cd_0 (f' + 1) k a (by omega), Nat.gcd_zero_right]
    · have l := Nat.mod_lt a (show 0 < b by omega)
      rw [cd_s (f' + 1) k a b (by omega) ha hb2 c]
      have g1 : Nat.gcd a b = Nat.gcd b (a % b) := by rw [Nat.gcd_comm a b, Nat.gcd_rec b a, Nat.gcd_comm b (a % b)]
      rw [g1]
      by_cases d : a % b = 0
      · rw [d, cd_0 f' (k + 1) b (by omega), Nat.gcd_zero_right]
      · have l2 := Nat.mod_lt b (show 0 < a % b by omega)
        have dm := Nat.div_add_mod b (a % b)
        have q1 : 1 ≤ b / (a % b) := (Nat.one_le_div_iff (by omega)).mpr (by omega)
        have q2 : a % b ≤ a % b * (b / (a % b)) := Nat.le_mul_of_pos_right _ q1
        have g2 : Nat.gcd b (a % b) = Nat.gcd (a % b) (b % (a % b)) := by rw [Nat.gcd_comm b (a % b), Nat.gcd_rec (a % b) b, Nat.gcd_comm (a % b) (b % (a % b))]
        rw [cd_s f' (k + 1) b (a % b) (by omega) hb2 (by omega) d, g2]
        have e2 : 2 ^ (j + 1) = 2 * 2 ^ j := by rw [Nat.pow_succ, Nat.mul_comm]
        exact L_cd3 j f' (k + 1 + 1) (a % b) (b % (a % b)) (by omega) (by omega) (by omega) (by omega) (by omega)
theorem told_eq (X : xS) {up dn : Nat} (hu : up < 2 ^ 31) (hd : dn ≤ 10000) (h0 : 0 < dn) : F_X6_told up dn = (nI 1, Xab (F_X5_keepFraction X (lN up) (lN dn)), Xbe (F_X5_keepFraction X (lN up) (lN dn))) ∧ Xtl (F_X5_keepFraction X (lN up) (lN dn)) = Xtl X := by
  have g0 : 0 < Nat.gcd up dn := Nat.gcd_pos_of_pos_right _ h0
  have gl : Nat.gcd up dn ≤ dn := Nat.gcd_le_right _ h0
  have e : F_X5_commonDivisor (lN up) (lN dn) = lN (Nat.gcd up dn) := by
    unfold F_X5_commonDivisor
    simp only [let3]
    exact L_cd3 14 101 0 up dn (by omega) (by decide) (by decide) hu (by omega)
  unfold F_X6_told F_X5_keepFraction
  simp only [let2]
  rw [L_t6 (dn + 1) up dn (by omega), e, if_pos (show 0 ≤ lg_cmp (lN (Nat.gcd up dn)) 1 from (lg_cmp_ge _ _).mpr (by rw [show (1 : Int64) = lN 1 from by decide]; exact (lN_le (a := 1) (by decide) (by omega)).mpr g0)), pk_lDiv (by omega) g0 (by omega), pk_lDiv (by omega) g0 (by omega)]
  exact ⟨rfl, rfl⟩
theorem onP_le {P : pS} (h6 : tN (Psz P) ≤ 6) : onP P ≤ 6 := by
  have := sumN_le (F := fun i => bO (Pwh P i)) (b := 1) (tN (Psz P)) (fun i _ => bO_le _)
  unfold onP
  omega
theorem okC_0 (f : Nat → Nat) (Cs : Nat → Int32) : okC f (F_J7_fill_53178_v21 Cs (nI 0)) 0 := by
  refine ⟨fun _ => 0, fun g hg => ?_, ?_⟩
  · unfold F_J7_fill_53178_v21
    simp only [let2]
    rw [L_fl21 (nI 0) 22 0 Cs (by decide) g hg, if_pos (Nat.zero_le _)]
  · rw [sumN_cong 21 (G := fun _ => 0) (fun i _ => Nat.mul_zero _), sumN_const]
theorem SP_0 {f : Nat → Nat} {w : Nat → Int32} (L0 : pS) (Cs : Nat → Int32) {S : pS} (hR : relP 592 w S) (hw : wfP S) (hb : inB (Pbl S) 9999) : okC f (F_X0_spread_v0 L0 Cs S).2 (TR f 0 w 0) := by
  unfold F_X0_spread_v0
  simp only [let1]
  rw [if_pos (by decide)]
  have h := SL_0 (f := f) (w := w) (W := 1) (gain := 0) (by decide) (okC_0 f Cs)
  rw [Nat.zero_add, Nat.one_mul] at h
  exact h
theorem SP_1 {f : Nat → Nat} {w : Nat → Int32} (L0 L1 : pS) (W1 : Nat → Int32) (Cs : Nat → Int32) {S : pS} (hR : relP 592 w S) (hw : wfP S) (hb : inB (Pbl S) 9999) : okC f (F_X0_spread_v1 L0 L1 W1 Cs S).2.2.2 (TR f 1 w 0) := by
  unfold F_X0_spread_v1
  simp only [let1, let3]
  rw [if_pos (by decide)]
  obtain ⟨hR2, hw2⟩ := copy_rel L1 hR hw
  have o1 := onP_le hw.1.2
  have h := SL_1 (f := f) (W := 1) (gain := 0) L0 (F_X2_copy L1 S) W1 hR2 hw2 (b := 9999) hb (by decide) (by rw [copy_on S L1 hw.1.2]; omega) (okC_0 f Cs)
  rw [Nat.zero_add, Nat.one_mul] at h
  exact h
theorem SP_2 {f : Nat → Nat} {w : Nat → Int32} (L0 L1 L2 : pS) (W1 W2 : Nat → Int32) (Cs : Nat → Int32) {S : pS} (hR : relP 592 w S) (hw : wfP S) (hb : inB (Pbl S) 9999) : okC f (F_X0_spread_v2 L0 L1 L2 W1 W2 Cs S).2.2.2.2.2 (TR f 2 w 0) := by
  unfold F_X0_spread_v2
  simp only [let1, let5]
  rw [if_pos (by decide)]
  obtain ⟨hR2, hw2⟩ := copy_rel L2 hR hw
  have o1 := onP_le hw.1.2
  have h := SL_2 (f := f) (W := 1) (gain := 0) L0 L1 (F_X2_copy L2 S) W1 W2 hR2 hw2 (b := 9999) hb (by decide) (by rw [copy_on S L2 hw.1.2]; omega) (okC_0 f Cs)
  rw [Nat.zero_add, Nat.one_mul] at h
  exact h
theorem SP_3 {f : Nat → Nat} {w : Nat → Int32} (L0 L1 L2 L3 : pS) (W1 W2 W3 : Nat → Int32) (Cs : Nat → Int32) {S : pS} (hR : relP 592 w S) (hw : wfP S) (hb : inB (Pbl S) 9999) : okC f (F_X0_spread_v3 L0 L1 L2 L3 W1 W2 W3 Cs S).2.2.2.2.2.2.2 (TR f 3 w 0) := by
  unfold F_X0_spread_v3
  simp only [let1, let7]
  rw [if_pos (by decide)]
  obtain ⟨hR2, hw2⟩ := copy_rel L3 hR hw
  have o1 := onP_le hw.1.2
  have h := SL_3 (f := f) (W := 1) (gain := 0) L0 L1 L2 (F_X2_copy L3 S) W1 W2 W3 hR2 hw2 (b := 9999) hb (by decide) (by rw [copy_on S L3 hw.1.2]; omega) (okC_0 f Cs)
  rw [Nat.zero_add, Nat.one_mul] at h
  exact h
theorem SP_4 {f : Nat → Nat} {w : Nat → Int32} (L0 L1 L2 L3 L4 : pS) (W1 W2 W3 W4 : Nat → Int32) (Cs : Nat → Int32) {S : pS} (hR : relP 592 w S) (hw : wfP S) (hb : inB (Pbl S) 9999) : okC f (F_X0_spread_v4 L0 L1 L2 L3 L4 W1 W2 W3 W4 Cs S).2.2.2.2.2.2.2.2.2 (TR f 4 w 0) := by
  unfold F_X0_spread_v4
  simp only [let1, let9]
  rw [if_pos (by decide)]
  obtain ⟨hR2, hw2⟩ := copy_rel L4 hR hw
  have o1 := onP_le hw.1.2
  have h := SL_4 (f := f) (W := 1) (gain := 0) L0 L1 L2 L3 (F_X2_copy L4 S) W1 W2 W3 W4 hR2 hw2 (b := 9999) hb (by decide) (by rw [copy_on S L4 hw.1.2]; omega) (okC_0 f Cs)
  rw [Nat.zero_add, Nat.one_mul] at h
  exact h
theorem sum_sh (c : Nat → Nat) (k a : Nat) : sumN (fun i => c (k + i)) (a + 1) = c k + sumN (fun i => c (k + 1 + i)) a := by
  rw [sumN_head]
  exact congrArg (c k + ·) (sumN_cong a (fun i _ => by rw [show k + (i + 1) = k + 1 + i by omega]))
theorem L_cf8 {Cs : Nat → Int32} {c : Nat → Nat} (hc : ∀ g, g < 21 → Cs g = nI (c g)) : ∀ (a fu k su : Nat), k + a = 21 → a < fu → (F_X0_casesFrom_L8 fu Cs k (nI su)).2 = nI (su + sumN (fun i => c (k + i)) a)
  | _, 0, _, _, _, h => by omega
  | 0, fu + 1, k, su, e, _ => by
    rw [F_X0_casesFrom_L8, if_pos (by omega)]
    rfl
  | a + 1, fu + 1, k, su, e, h => by
    rw [F_X0_casesFrom_L8, if_neg (by omega), hc k (by omega), nI_add, L_cf8 hc a fu (k + 1) _ (by omega) (by omega), sum_sh, Nat.add_assoc]
theorem L_cf8b {Cs : Nat → Int32} {c : Nat → Nat} (hc : ∀ g, g < 21 → Cs g = nI (c g)) : ∀ (a fu k su : Nat), k + a = 21 → a < fu → (F_X0_casesFrom_L8b fu Cs k (nI su)).2 = nI (su + sumN (fun i => c (k + i)) a)
  | _, 0, _, _, _, h => by omega
  | 0, fu + 1, k, su, e, _ => by
    rw [F_X0_casesFrom_L8b, if_pos (by omega)]
    rfl
  | a + 1, fu + 1, k, su, e, h => by
    rw [F_X0_casesFrom_L8b, if_neg (by omega), hc k (by omega), nI_add, L_cf8b hc a fu (k + 1) _ (by omega) (by omega), sum_sh, Nat.add_assoc]
theorem L_sg4 {Cs : Nat → Int32} {c : Nat → Nat} (hc : ∀ g, g < 21 → Cs g = nI (c g)) : ∀ (a fu k su : Nat), k + a = 21 → a < fu → (F_X0_sumOfGains_L4 fu Cs k (nI su)).2 = nI (su + sumN (fun i => (fun g => g * c g) (k + i)) a)
  | _, 0, _, _, _, h => by omega
  | 0, fu + 1, k, su, e, _ => by
    rw [F_X0_sumOfGains_L4, if_pos (by omega)]
    rfl
  | a + 1, fu + 1, k, su, e, h => by
    rw [F_X0_sumOfGains_L4, if_neg (by omega), hc k (by omega), pk_mul, nI_add, L_sg4 hc a fu (k + 1) _ (by omega) (by omega), sum_sh (fun g => g * c g), Nat.add_assoc]
/-- at least x -/
def atL (x g : Nat) : Nat := if x ≤ g then 1 else 0
theorem casesFrom_C {Cs : Nat → Int32} {x F : Nat} (hx : x ≤ 20) (h : okC (atL x) Cs F) : F_X0_casesFrom Cs x = nI F := by
  obtain ⟨c, hc, hF⟩ := h
  have e : sumN (fun i => c (x + i)) (21 - x) = F := by
    rw [← hF]
    have a := sumN_app (fun g => atL x g * c g) x (21 - x)
    rw [show x + (21 - x) = 21 by omega] at a
    rw [a, sumN_cong x (G := fun _ => 0) (fun i hi => by show atL x i * c i = 0; unfold atL; rw [if_neg (by omega), Nat.zero_mul]), sumN_const, Nat.mul_zero, Nat.zero_add]
    exact sumN_cong _ (fun i _ => by show _ = atL x (x + i) * c (x + i); unfold atL; rw [if_pos (by omega), Nat.one_mul])
  unfold F_X0_casesFrom
  simp only [let2]
  by_cases z : x = 0
  · subst z
    rw [if_neg (by decide), L_cf8b hc 21 22 0 0 rfl (by decide), Nat.zero_add]
    exact congrArg nI e
  · rw [if_pos ((nI_ltI (by decide) (by omega)).mpr (by omega)), L_cf8 hc (21 - x) 22 x 0 (by omega) (by omega), Nat.zero_add, e]
theorem sumOfGains_C {Cs : Nat → Int32} {F : Nat} (h : okC (fun g => g) Cs F) : F_X0_sumOfGains Cs = nI F := by
  obtain ⟨c, hc, hF⟩ := h
  unfold F_X0_sumOfGains
  simp only [let2]
  rw [L_sg4 hc 21 22 0 0 rfl (by decide), Nat.zero_add]
  refine congrArg nI ?_
  rw [← hF]
  exact sumN_cong 21 (fun i _ => by show (0 + i) * c (0 + i) = i * c i; rw [Nat.zero_add])
/-! the reference counts all rows -/
theorem TR_le {f : Nat → Nat} {n : Nat} {w : Nat → Int32} {b : Nat} (h : ∀ row, row < 10 ^ n → f (0 + scR n w row) ≤ b) : TR f n w 0 ≤ 10 ^ n * b := sumN_le _ h
theorem sb_keep {v : Nat → Int32} {P : pS} {row n : Nat} (hR : relP 592 v P) (hw : wfP P) : ∀ j, j < 592 → (F_X6_scoreBy v row n).2 j = v j := (scoreBy_at (w := v) (rw_ := row) (n := n) (r := (F_X6_scoreBy v row n).1) (w' := (F_X6_scoreBy v row n).2) rfl (relP_okN hR hw).1 (relP_okN hR hw).2).1
theorem L_ch42 {w : Nat → Int32} {P : pS} {Rw : Nat → Int32} {No Ma Pa : rS} (h : relF w P Rw No Ma Pa) (n x : Int32) (hn : tN n ≤ 4) : ∀ (a f row gd : Nat) (w1 : Nat → Int32), (∀ j, j < 592 → w1 j = w j) → row + a = 10 ^ tN n → a < f → (F_X6_chance_L42 f n x row gd w1).2.1 = gd + sumN (fun i => atL (tN x) (0 + scR (tN n) (F_X6_tries w) (row + i))) a ∧ ∀ j, j < 592 → (F_X6_chance_L42 f n x row gd w1).2.2 j = w j
  | _, 0, _, _, _, _, _, h => by omega
  | 0, f + 1, row, gd, w1, hk, e, _ => by
    rw [F_X6_chance_L42, if_pos (by omega)]
    exact ⟨rfl, hk⟩
  | a + 1, f + 1, row, gd, w1, hk, e, hf => by
    have hw := h.1.2.1
    have hR := tries_rel (w1 := w1) (fun j hj => hk j (by omega)) h.1.1 hw.1
    have hR0 := tries_rel (w1 := w) (fun j hj => rfl) h.1.1 hw.1
    have hb := h.1.2.2.2.2
    have sc := scR_cong (tN n) (F_X6_tries w1) (F_X6_tries w) P 9999 row hR hR0 hw hb (by omega)
    have sl := scR_le (tN n) (F_X6_tries w) P 9999 row hR0 hw hb (by omega)
    have K : ∀ j, j < 592 → (F_X6_scoreBy (F_X6_tries w1) row (tN n)).2 j = w j := fun j hj => by rw [sb_keep hR hw j hj, tries_at, if_neg (by omega), hk j hj]
    have sh := sum_sh (fun row => atL (tN x) (0 + scR (tN n) (F_X6_tries w) row)) row a
    rw [F_X6_chance_L42, if_neg (by omega)]
    simp only [let1, let2]
    rw [sh, scoreBy_R hn, sc, tN_nI (by omega), Nat.zero_add]
    by_cases c : scR (tN n) (F_X6_tries w) row < tN x
    · rw [if_pos c]
      have ih := L_ch42 h n x hn a f (row + 1) gd _ K (by omega) (by omega)
      refine ⟨?_, ih.2⟩
      rw [ih.1]
      unfold atL
      rw [if_neg (by omega), Nat.zero_add]
    · rw [if_neg c]
      have ih := L_ch42 h n x hn a f (row + 1) (gd + 1) _ K (by omega) (by omega)
      refine ⟨?_, ih.2⟩
      rw [ih.1]
      unfold atL
      rw [if_pos (by omega : tN x ≤ scR (tN n) (F_X6_tries w) row), Nat.add_assoc]
theorem chance_r {w : Nat → Int32} {P : pS} {Rw : Nat → Int32} {No Ma Pa : rS} (h : relF w P Rw No Ma Pa) (n x : Int32) (hn : tN n ≤ 4) : (F_X6_chance_L42 10001 n x 0 0 w).2.1 = TR (atL (tN x)) (tN n) (F_X6_tries w) 0 ∧ ∀ j, j < 592 → (F_X6_chance_L42 10001 n x 0 0 w).2.2 j = w j := by
  have p4 : 10 ^ tN n ≤ 10 ^ 4 := Nat.pow_le_pow_right (by decide) hn
  have L := L_ch42 h n x hn (10 ^ tN n) 10001 0 0 w (fun _ _ => rfl) (Nat.zero_add _) (by omega)
  refine ⟨?_, L.2⟩
  rw [L.1, Nat.zero_add]
  exact sumN_cong _ (fun i _ => by rw [Nat.zero_add i])
theorem atL_le (x g : Nat) : atL x g ≤ 1 := by
  unfold atL
  split <;> omega
theorem let4_eq {α1 α2 α3 α4 γ : Type} (p : α1 × α2 × α3 × α4) (k : α1 → α2 → α3 → α4 → γ) : let4 p k = k (p.1) (p.2.1) (p.2.2.1) (p.2.2.2) := rfl
theorem let6_eq {α1 α2 α3 α4 α5 α6 γ : Type} (p : α1 × α2 × α3 × α4 × α5 × α6) (k : α1 → α2 → α3 → α4 → α5 → α6 → γ) : let6 p k = k (p.1) (p.2.1) (p.2.2.1) (p.2.2.2.1) (p.2.2.2.2.1) (p.2.2.2.2.2) := rfl
theorem let8_eq {α1 α2 α3 α4 α5 α6 α7 α8 γ : Type} (p : α1 × α2 × α3 × α4 × α5 × α6 × α7 × α8) (k : α1 → α2 → α3 → α4 → α5 → α6 → α7 → α8 → γ) : let8 p k = k (p.1) (p.2.1) (p.2.2.1) (p.2.2.2.1) (p.2.2.2.2.1) (p.2.2.2.2.2.1) (p.2.2.2.2.2.2.1) (p.2.2.2.2.2.2.2) := rfl
theorem let10_eq {α1 α2 α3 α4 α5 α6 α7 α8 α9 α10 γ : Type} (p : α1 × α2 × α3 × α4 × α5 × α6 × α7 × α8 × α9 × α10) (k : α1 → α2 → α3 → α4 → α5 → α6 → α7 → α8 → α9 → α10 → γ) : let10 p k = k (p.1) (p.2.1) (p.2.2.1) (p.2.2.2.1) (p.2.2.2.2.1) (p.2.2.2.2.2.1) (p.2.2.2.2.2.2.1) (p.2.2.2.2.2.2.2.1) (p.2.2.2.2.2.2.2.2.1) (p.2.2.2.2.2.2.2.2.2) := rfl
theorem ch_end {X : xS} {A : Int32 × xS × (Nat → Int32) × pS × pS × pS × pS × pS × (Nat → Int32) × (Nat → Int32) × (Nat → Int32) × (Nat → Int32) × (Nat → Int32)} {B : Int32 × (Nat → Int32) × Int64 × Int64 × (Nat → Int32)} {su w w2 : Nat → Int32} {u : pS × pS × pS × pS × pS × (Nat → Int32) × (Nat → Int32) × (Nat → Int32) × (Nat → Int32) × (Nat → Int32)} {F dn : Nat} {cs dv : Int32} (e5 : A = (nI 1, F_X5_keepFraction X cs.toInt64 dv.toInt64, su, u)) (e6 : B = let3 (F_X6_told F dn) (fun r a b => (r, w2, a, b, su))) (e1 : cs = nI F) (e2 : dv = nI dn) (hF : F < 2 ^ 31) (hd : dn ≤ 10000) (h0 : 0 < dn) (hk : ∀ j, j < 592 → w2 j = w j) : ∃ u' : pS × pS × pS × pS × pS × (Nat → Int32) × (Nat → Int32) × (Nat → Int32) × (Nat → Int32) × (Nat → Int32), ∃ X2 w2' su2 r, A = (r, X2, su2, u') ∧ B = (r, w2', Xab X2, Xbe X2, su2) ∧ Xtl X2 = Xtl X ∧ ∀ j, j < 592 → w2' j = w j := by
  have T := told_eq X hF hd h0
  rw [e1, e2, nI_l hF, nI_l (show dn < 2 ^ 31 by omega)] at e5
  rw [T.1, let3_mk] at e6
  exact ⟨u, _, w2, su, nI 1, e5, e6, T.2, hk⟩
theorem ch5_0 (X : xS) (P : pS) (su : Nat → Int32) (L0 L1 L2 L3 L4 : pS) (W1 W2 W3 W4 Cs : Nat → Int32) (n : Int32) (x : Int32) (c : F_X5_within n (nI 0) (nI 4) = true) (d : F_X5_within x (nI 0) (nI 20) = true) (z0 : tN n = 0) : F_X5_chance X P su L0 L1 L2 L3 L4 W1 W2 W3 W4 Cs n x = (nI 1, F_X5_keepFraction X (F_X0_casesFrom (F_X0_spread_v0 L0 Cs P).2 (tN x)).toInt64 (nI 1).toInt64, su, (F_X0_spread_v0 L0 Cs P).1, L1, L2, L3, L4, W1, W2, W3, W4, (F_X0_spread_v0 L0 Cs P).2) := by
  unfold F_X5_chance
  rw [if_pos c, if_pos d, if_pos z0, let2_eq, let1_mk, let1_mk]
theorem ch5_1 (X : xS) (P : pS) (su : Nat → Int32) (L0 L1 L2 L3 L4 : pS) (W1 W2 W3 W4 Cs : Nat → Int32) (n : Int32) (x : Int32) (c : F_X5_within n (nI 0) (nI 4) = true) (d : F_X5_within x (nI 0) (nI 20) = true) (z0 : ¬ tN n = 0) (z1 : tN n = 1) : F_X5_chance X P su L0 L1 L2 L3 L4 W1 W2 W3 W4 Cs n x = (nI 1, F_X5_keepFraction X (F_X0_casesFrom (F_X0_spread_v1 L0 L1 W1 Cs P).2.2.2 (tN x)).toInt64 (nI 10).toInt64, su, (F_X0_spread_v1 L0 L1 W1 Cs P).1, (F_X0_spread_v1 L0 L1 W1 Cs P).2.1, L2, L3, L4, (F_X0_spread_v1 L0 L1 W1 Cs P).2.2.1, W2, W3, W4, (F_X0_spread_v1 L0 L1 W1 Cs P).2.2.2) := by
  unfold F_X5_chance
  rw [if_pos c, if_pos d, if_neg z0, if_pos z1, let4_eq, let1_mk, let1_mk]
theorem ch5_2 (X : xS) (P : pS) (su : Nat → Int32) (L0 L1 L2 L3 L4 : pS) (W1 W2 W3 W4 Cs : Nat → Int32) (n : Int32) (x : Int32) (c : F_X5_within n (nI 0) (nI 4) = true) (d : F_X5_within x (nI 0) (nI 20) = true) (z0 : ¬ tN n = 0) (z1 : ¬ tN n = 1) (z2 : tN n = 2) : F_X5_chance X P su L0 L1 L2 L3 L4 W1 W2 W3 W4 Cs n x = (nI 1, F_X5_keepFraction X (F_X0_casesFrom (F_X0_spread_v2 L0 L1 L2 W1 W2 Cs P).2.2.2.2.2 (tN x)).toInt64 (nI 100).toInt64, su, (F_X0_spread_v2 L0 L1 L2 W1 W2 Cs P).1, (F_X0_spread_v2 L0 L1 L2 W1 W2 Cs P).2.1, (F_X0_spread_v2 L0 L1 L2 W1 W2 Cs P).2.2.1, L3, L4, (F_X0_spread_v2 L0 L1 L2 W1 W2 Cs P).2.2.2.1, (F_X0_spread_v2 L0 L1 L2 W1 W2 Cs P).2.2.2.2.1, W3, W4, (F_X0_spread_v2 L0 L1 L2 W1 W2 Cs P).2.2.2.2.2) := by
  unfold F_X5_chance
  rw [if_pos c, if_pos d, if_neg z0, if_neg z1, if_pos z2, let6_eq, let1_mk, let1_mk]
theorem ch5_3 (X : xS) (P : pS) (su : Nat → Int32) (L0 L1 L2 L3 L4 : pS) (W1 W2 W3 W4 Cs : Nat → Int32) (n : Int32) (x : Int32) (c : F_X5_within n (nI 0) (nI 4) = true) (d : F_X5_within x (nI 0) (nI 20) = true) (z0 : ¬ tN n = 0) (z1 : ¬ tN n = 1) (z2 : ¬ tN n = 2) (z3 : tN n = 3) : F_X5_chance X P su L0 L1 L2 L3 L4 W1 W2 W3 W4 Cs n x = (nI 1, F_X5_keepFraction X (F_X0_casesFrom (F_X0_spread_v3 L0 L1 L2 L3 W1 W2 W3 Cs P).2.2.2.2.2.2.2 (tN x)).toInt64 (nI 1000).toInt64, su, (F_X0_spread_v3 L0 L1 L2 L3 W1 W2 W3 Cs P).1, (F_X0_spread_v3 L0 L1 L2 L3 W1 W2 W3 Cs P).2.1, (F_X0_spread_v3 L0 L1 L2 L3 W1 W2 W3 Cs P).2.2.1, (F_X0_spread_v3 L0 L1 L2 L3 W1 W2 W3 Cs P).2.2.2.1, L4, (F_X0_spread_v3 L0 L1 L2 L3 W1 W2 W3 Cs P).2.2.2.2.1, (F_X0_spread_v3 L0 L1 L2 L3 W1 W2 W3 Cs P).2.2.2.2.2.1, (F_X0_spread_v3 L0 L1 L2 L3 W1 W2 W3 Cs P).2.2.2.2.2.2.1, W4, (F_X0_spread_v3 L0 L1 L2 L3 W1 W2 W3 Cs P).2.2.2.2.2.2.2) := by
  unfold F_X5_chance
  rw [if_pos c, if_pos d, if_neg z0, if_neg z1, if_neg z2, if_pos z3, let8_eq, let1_mk, let1_mk]
theorem ch5_4 (X : xS) (P : pS) (su : Nat → Int32) (L0 L1 L2 L3 L4 : pS) (W1 W2 W3 W4 Cs : Nat → Int32) (n : Int32) (x : Int32) (c : F_X5_within n (nI 0) (nI 4) = true) (d : F_X5_within x (nI 0) (nI 20) = true) (z0 : ¬ tN n = 0) (z1 : ¬ tN n = 1) (z2 : ¬ tN n = 2) (z3 : ¬ tN n = 3) : F_X5_chance X P su L0 L1 L2 L3 L4 W1 W2 W3 W4 Cs n x = (nI 1, F_X5_keepFraction X (F_X0_casesFrom (F_X0_spread_v4 L0 L1 L2 L3 L4 W1 W2 W3 W4 Cs P).2.2.2.2.2.2.2.2.2 (tN x)).toInt64 (nI 10000).toInt64, su, (F_X0_spread_v4 L0 L1 L2 L3 L4 W1 W2 W3 W4 Cs P).1, (F_X0_spread_v4 L0 L1 L2 L3 L4 W1 W2 W3 W4 Cs P).2.1, (F_X0_spread_v4 L0 L1 L2 L3 L4 W1 W2 W3 W4 Cs P).2.2.1, (F_X0_spread_v4 L0 L1 L2 L3 L4 W1 W2 W3 W4 Cs P).2.2.2.1, (F_X0_spread_v4 L0 L1 L2 L3 L4 W1 W2 W3 W4 Cs P).2.2.2.2.1, (F_X0_spread_v4 L0 L1 L2 L3 L4 W1 W2 W3 W4 Cs P).2.2.2.2.2.1, (F_X0_spread_v4 L0 L1 L2 L3 L4 W1 W2 W3 W4 Cs P).2.2.2.2.2.2.1, (F_X0_spread_v4 L0 L1 L2 L3 L4 W1 W2 W3 W4 Cs P).2.2.2.2.2.2.2.1, (F_X0_spread_v4 L0 L1 L2 L3 L4 W1 W2 W3 W4 Cs P).2.2.2.2.2.2.2.2.1, (F_X0_spread_v4 L0 L1 L2 L3 L4 W1 W2 W3 W4 Cs P).2.2.2.2.2.2.2.2.2) := by
  unfold F_X5_chance
  rw [if_pos c, if_pos d, if_neg z0, if_neg z1, if_neg z2, if_neg z3, let10_eq, let1_mk, let1_mk]
theorem ch6 {w su : Nat → Int32} {P : pS} {Rw : Nat → Int32} {No Ma Pa : rS} (h : relF w P Rw No Ma Pa) (ab be : Int64) (n x : Int32) (c : F_X5_within n (nI 0) (nI 4) = true) (d : F_X5_within x (nI 0) (nI 20) = true) : ∃ w2 : Nat → Int32, F_X6_chance w ab be su n x = let3 (F_X6_told (TR (atL (tN x)) (tN n) (F_X6_tries w) 0) (10 ^ tN n)) (fun r a b => (r, w2, a, b, su)) ∧ ∀ j, j < 592 → w2 j = w j := by
  obtain ⟨c0, -, c2⟩ := within_nat (by decide) (by decide) c
  obtain ⟨r1, r2⟩ := chance_r h n x c2
  unfold F_X6_chance
  rw [iw n (a := 0) (b := 4) (lo := nI 0) (hi := nI 4) (by decide) (by decide), iw x (a := 0) (b := 20) (lo := nI 0) (hi := nI 20) (by decide) (by decide), if_pos c, if_pos d]
  generalize F_X6_chance_L42 10001 n x 0 0 w = Y at r1 r2 ⊢
  obtain ⟨y0, gd, w2⟩ := Y
  rw [let3_mk]
  have r3 : gd = _ := r1
  rw [r3]
  exact ⟨w2, rfl, r2⟩
theorem chance_eq {w su : Nat → Int32} {P : pS} {Rw : Nat → Int32} {No Ma Pa : rS} (h : relF w P Rw No Ma Pa) (X : xS) (L0 L1 L2 L3 L4 : pS) (W1 W2 W3 W4 Cs : Nat → Int32) (n x : Int32) : ∃ u : pS × pS × pS × pS × pS × (Nat → Int32) × (Nat → Int32) × (Nat → Int32) × (Nat → Int32) × (Nat → Int32), ∃ X2 w2 su2 r, F_X5_chance X P su L0 L1 L2 L3 L4 W1 W2 W3 W4 Cs n x = (r, X2, su2, u) ∧ F_X6_chance w (Xab X) (Xbe X) su n x = (r, w2, Xab X2, Xbe X2, su2) ∧ Xtl X2 = Xtl X ∧ ∀ j, j < 592 → w2 j = w j := by
  by_cases c : F_X5_within n (nI 0) (nI 4) = true
  · by_cases d : F_X5_within x (nI 0) (nI 20) = true
    · obtain ⟨c0, -, c2⟩ := within_nat (by decide) (by decide) c
      obtain ⟨d0, -, d2⟩ := within_nat (by decide) (by decide) d
      obtain ⟨w2, e6, hk⟩ := ch6 (su := su) h (Xab X) (Xbe X) n x c d
      have hw := h.1.2.1
      have hR := tries_rel (w1 := w) (fun _ _ => rfl) h.1.1 hw.1
      have hb := h.1.2.2.2.2
      by_cases z0 : tN n = 0
      · have s := SP_0 (f := atL (tN x)) L0 Cs hR hw hb
        have up := TR_le (f := atL (tN x)) (n := 0) (w := F_X6_tries w) (b := 1) (fun _ _ => atL_le _ _)
        rw [z0] at e6
        exact ch_end (ch5_0 X P su L0 L1 L2 L3 L4 W1 W2 W3 W4 Cs n x c d z0) e6 (casesFrom_C d2 s) (show nI 1 = nI (10 ^ 0) from by decide) (by omega) (by decide) (by decide) hk
      by_cases z1 : tN n = 1
      · have s := SP_1 (f := atL (tN x)) L0 L1 W1 Cs hR hw hb
        have up := TR_le (f := atL (tN x)) (n := 1) (w := F_X6_tries w) (b := 1) (fun _ _ => atL_le _ _)
        rw [z1] at e6
        exact ch_end (ch5_1 X P su L0 L1 L2 L3 L4 W1 W2 W3 W4 Cs n x c d z0 z1) e6 (casesFrom_C d2 s) (show nI 10 = nI (10 ^ 1) from by decide) (by omega) (by decide) (by decide) hk
      by_cases z2 : tN n = 2
      · have s := SP_2 (f := atL (tN x)) L0 L1 L2 W1 W2 Cs hR hw hb
        have up := TR_le (f := atL (tN x)) (n := 2) (w := F_X6_tries w) (b := 1) (fun _ _ => atL_le _ _)
        rw [z2] at e6
        exact ch_end (ch5_2 X P su L0 L1 L2 L3 L4 W1 W2 W3 W4 Cs n x c d z0 z1 z2) e6 (casesFrom_C d2 s) (show nI 100 = nI (10 ^ 2) from by decide) (by omega) (by decide) (by decide) hk
      by_cases z3 : tN n = 3
      · have s := SP_3 (f := atL (tN x)) L0 L1 L2 L3 W1 W2 W3 Cs hR hw hb
        have up := TR_le (f := atL (tN x)) (n := 3) (w := F_X6_tries w) (b := 1) (fun _ _ => atL_le _ _)
        rw [z3] at e6
        exact ch_end (ch5_3 X P su L0 L1 L2 L3 L4 W1 W2 W3 W4 Cs n x c d z0 z1 z2 z3) e6 (casesFrom_C d2 s) (show nI 1000 = nI (10 ^ 3) from by decide) (by omega) (by decide) (by decide) hk
      have z4 : tN n = 4 := by omega
      have s := SP_4 (f := atL (tN x)) L0 L1 L2 L3 L4 W1 W2 W3 W4 Cs hR hw hb
      have up := TR_le (f := atL (tN x)) (n := 4) (w := F_X6_tries w) (b := 1) (fun _ _ => atL_le _ _)
      rw [z4] at e6
      exact ch_end (ch5_4 X P su L0 L1 L2 L3 L4 W1 W2 W3 W4 Cs n x c d z0 z1 z2 z3) e6 (casesFrom_C d2 s) (show nI 10000 = nI (10 ^ 4) from by decide) (by omega) (by decide) (by decide) hk
    · unfold F_X6_chance F_X5_chance
      rw [iw n (a := 0) (b := 4) (lo := nI 0) (hi := nI 4) (by decide) (by decide), iw x (a := 0) (b := 20) (lo := nI 0) (hi := nI 20) (by decide) (by decide), ref_bad, if_pos c, if_pos c, if_neg d, if_neg d, let2_eq, let2_eq]
      exact ⟨_, _, _, _, _, rfl, rfl, rfl, fun _ _ => rfl⟩
  · unfold F_X6_chance F_X5_chance
    rw [iw n (a := 0) (b := 4) (lo := nI 0) (hi := nI 4) (by decide) (by decide), ref_bad, if_neg c, if_neg c, let2_eq, let2_eq]
    exact ⟨_, _, _, _, _, rfl, rfl, rfl, fun _ _ => rfl⟩
