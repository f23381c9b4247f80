/-! sums; all rows of hits -/
def sumN (F : Nat → Nat) : Nat → Nat
  | 0 => 0
  | n + 1 => sumN F n + F n
theorem sumN_cong {F G : Nat → Nat} : ∀ (n : Nat), (∀ i, i < n → F i = G i) → sumN F n = sumN G n
  | 0, _ => rfl
  | n + 1, h => by rw [sumN, sumN, sumN_cong n (fun i hi => h i (by omega)), h n (by omega)]
theorem sumN_const (a : Nat) : ∀ (n : Nat), sumN (fun _ => a) n = n * a
  | 0 => by rw [Nat.zero_mul]; rfl
  | n + 1 => by rw [sumN, sumN_const a n, Nat.succ_mul]
theorem sumN_add (F G : Nat → Nat) : ∀ (n : Nat), sumN (fun i => F i + G i) n = sumN F n + sumN G n
  | 0 => rfl
  | n + 1 => by rw [sumN, sumN, sumN, sumN_add F G n]; omega
theorem sumN_mul (c : Nat) (F : Nat → Nat) : ∀ (n : Nat), sumN (fun i => c * F i) n = c * sumN F n
  | 0 => rfl
  | n + 1 => by rw [sumN, sumN, sumN_mul c F n, Nat.mul_add]
theorem sumN_le {F : Nat → Nat} {b : Nat} : ∀ (n : Nat), (∀ i, i < n → F i ≤ b) → sumN F n ≤ n * b
  | 0, _ => Nat.zero_le _
  | n + 1, h => by
    rw [sumN, Nat.succ_mul]
    exact Nat.add_le_add (sumN_le n (fun i hi => h i (by omega))) (h n (by omega))
theorem sumN_head (F : Nat → Nat) : ∀ (n : Nat), sumN F (n + 1) = F 0 + sumN (fun i => F (i + 1)) n
  | 0 => by rw [sumN, sumN, sumN]; omega
  | n + 1 => by rw [sumN, sumN_head F n, sumN]; omega
theorem sumN_app (F : Nat → Nat) (a : Nat) : ∀ (b : Nat), sumN F (a + b) = sumN F a + sumN (fun i => F (a + i)) b
  | 0 => rfl
  | b + 1 => by rw [← Nat.add_assoc, sumN, sumN_app F a b, sumN]; omega
theorem sumN_prod (F : Nat → Nat) (M : Nat) : ∀ (a : Nat), sumN F (a * M) = sumN (fun d => sumN (fun r => F (d * M + r)) M) a
  | 0 => by rw [Nat.zero_mul]; rfl
  | a + 1 => by rw [Nat.succ_mul, sumN_app, sumN_prod F M a, sumN]
theorem sumN_swap (G : Nat → Nat → Nat) (b : Nat) : ∀ (a : Nat), sumN (fun v => sumN (fun h => G v h) b) a = sumN (fun h => sumN (fun v => G v h) a) b
  | 0 => by
    rw [sumN]
    have : sumN (fun h => sumN (fun v => G v h) 0) b = sumN (fun _ => 0) b := rfl
    rw [this, sumN_const, Nat.mul_zero]
  | a + 1 => by
    rw [sumN, sumN_swap G b a, ← sumN_add]
    rfl
theorem sumN_zero {F : Nat → Nat} : ∀ {n : Nat}, sumN F n = 0 → ∀ i, i < n → F i = 0
  | 0, _, _, h => by omega
  | n + 1, h, i, hi => by
    rw [sumN] at h
    by_cases c : i = n
    · rw [c]; omega
    · exact sumN_zero (n := n) (by omega) i (by omega)
theorem sumN_pos {F : Nat → Nat} : ∀ {n : Nat}, 0 < sumN F n → ∃ i, i < n ∧ 0 < F i
  | 0, h => absurd h (Nat.lt_irrefl _)
  | n + 1, h => by
    rw [sumN] at h
    by_cases c : 0 < F n
    · exact ⟨n, by omega, c⟩
    · obtain ⟨i, hi, h2⟩ := sumN_pos (F := F) (n := n) (by omega)
      exact ⟨i, by omega, h2⟩
theorem sumN_pick {w x : Nat} : ∀ (a : Nat), sumN (fun v => if w = v then x else 0) a = if w < a then x else 0
  | 0 => by rw [if_neg (by omega)]; rfl
  | a + 1 => by
    rw [sumN, sumN_pick a]
    by_cases c : w < a
    · rw [if_pos c, if_neg (show ¬ w = a by omega), if_pos (show w < a + 1 by omega), Nat.add_zero]
    · rw [if_neg c]
      by_cases d : w = a
      · rw [if_pos d, if_pos (by omega), Nat.zero_add]
      · rw [if_neg d, if_neg (by omega)]
/-- a number more at one place -/
def updN (c : Nat → Nat) (k x : Nat) : Nat → Nat := fun g => if g = k then c g + x else c g
theorem sumN_updN (f c : Nat → Nat) (k x : Nat) (n : Nat) (hk : k < n) : sumN (fun g => f g * updN c k x g) n = sumN (fun g => f g * c g) n + x * f k := by
  have e : ∀ g, f g * updN c k x g = f g * c g + (if k = g then x * f k else 0) := fun g => by
    unfold updN
    by_cases z : g = k
    · rw [if_pos z, if_pos z.symm, z, Nat.mul_add, Nat.mul_comm (f k) x]
    · rw [if_neg z, if_neg (fun q => z q.symm), Nat.add_zero]
  rw [sumN_cong n (fun g _ => e g), sumN_add, sumN_pick, if_pos hk]
/-! a row of hits, told as figures -/
abbrev btR (w : Nat → Int32) (h : Nat) : Int32 × (Nat → Int32) := F_X6_batsTried w (nI h)
def scR : Nat → (Nat → Int32) → Nat → Nat
  | 0, _, _ => 0
  | n + 1, w, row => tN (btR w (row / 10 ^ n % 10)).1 + scR n (btR w (row / 10 ^ n % 10)).2 row
def TR (f : Nat → Nat) (n : Nat) (w : Nat → Int32) (g : Nat) : Nat := sumN (fun row => f (g + scR n w row)) (10 ^ n)
theorem scR_mod : ∀ (n : Nat) (w : Nat → Int32) (d r : Nat), scR n w (d * 10 ^ n + r) = scR n w r
  | 0, _, _, _ => rfl
  | n + 1, w, d, r => by
    have e : d * 10 ^ (n + 1) + r = (d * 10) * 10 ^ n + r := by rw [Nat.pow_succ, Nat.mul_comm (10 ^ n) 10, Nat.mul_assoc]
    have p : 0 < 10 ^ n := Nat.pow_pos (by decide)
    have q : ((d * 10) * 10 ^ n + r) / 10 ^ n % 10 = r / 10 ^ n % 10 := by
      rw [Nat.add_comm, Nat.add_mul_div_right _ _ p]
      omega
    rw [e, scR, scR, q, scR_mod n]
theorem TR_0 (f : Nat → Nat) (w : Nat → Int32) (g : Nat) : TR f 0 w g = f g := by
  show sumN (fun row => f (g + scR 0 w row)) 1 = f g
  rw [sumN, sumN, Nat.zero_add]
  rfl
theorem TR_step (f : Nat → Nat) (n : Nat) (w : Nat → Int32) (g : Nat) : TR f (n + 1) w g = sumN (fun h => TR f n (btR w h).2 (g + tN (btR w h).1)) 10 := by
  unfold TR
  rw [Nat.pow_succ, Nat.mul_comm (10 ^ n) 10, sumN_prod]
  refine sumN_cong 10 (fun d hd => ?_)
  refine sumN_cong (10 ^ n) (fun r hr => ?_)
  have p : 0 < 10 ^ n := Nat.pow_pos (by decide)
  have q : (d * 10 ^ n + r) / 10 ^ n % 10 = d := by
    rw [Nat.add_comm, Nat.add_mul_div_right _ _ p, Nat.div_eq_of_lt hr]
    omega
  rw [scR, q, scR_mod, Nat.add_assoc]
theorem bt_done {w : Nat → Int32} (h : w 594 = -1) (d : Nat) : btR w d = (nI 0, w) := by
  show F_X6_batsTried w (nI d) = (nI 0, w)
  unfold F_X6_batsTried
  simp only [let1]
  rw [isDone_r, decide_eq_true h, if_pos rfl]
theorem scR_done {w : Nat → Int32} (h : w 594 = -1) : ∀ (n row : Nat), scR n w row = 0
  | 0, _ => rfl
  | n + 1, row => by
    rw [scR, bt_done h]
    show tN (nI 0) + scR n w row = 0
    rw [scR_done h n row]
    rfl
theorem TR_done {w : Nat → Int32} (h : w 594 = -1) (f : Nat → Nat) (n g : Nat) : TR f n w g = 10 ^ n * f g := by
  unfold TR
  rw [sumN_cong (10 ^ n) (G := fun _ => f g) (fun r _ => by rw [scR_done h, Nat.add_zero]), sumN_const]
theorem scR_cong : ∀ (n : Nat) (w w' : Nat → Int32) (P : pS) (b row : Nat), relP 592 w P → relP 592 w' P → wfP P → inB (Pbl P) b → b + n < 20000 → scR n w row = scR n w' row
  | 0, _, _, _, _, _, _, _, _, _, _ => rfl
  | n + 1, w, w', P, b, row, h1, h2, hw, hb, hl => by
    by_cases d : Pnx P = -1
    · rw [scR_done (by rw [← d]; exact h1.2.2.1), scR_done (by rw [← d]; exact h2.2.2.1)]
    · have hd : row / 10 ^ n % 10 < 10 := Nat.mod_lt _ (by decide)
      obtain ⟨k, v, k1, -, k3, k4, k5, k6, k7, -⟩ := batsTried_c h1 hw hb (by omega) d hd
      obtain ⟨k', v', k1', -, k3', k4', k5', -, -, -⟩ := batsTried_c h2 hw hb (by omega) d hd
      rw [scR, scR]
      show tN (F_X6_batsTried w _).1 + scR n (F_X6_batsTried w _).2 row = tN (F_X6_batsTried w' _).1 + scR n (F_X6_batsTried w' _).2 row
      rw [k3, k3']
      have e : nI k = nI k' := by rw [← k4, ← k4']
      simp only
      rw [e, scR_cong n v v' _ (b + 1) row k5 k5' k6 k7 (by omega)]
theorem TR_cong {f : Nat → Nat} {n g b : Nat} {w w' : Nat → Int32} {P : pS} (h1 : relP 592 w P) (h2 : relP 592 w' P) (hw : wfP P) (hb : inB (Pbl P) b) (hl : b + n < 20000) : TR f n w g = TR f n w' g :=
  sumN_cong _ (fun r _ => by rw [scR_cong n w w' P b r h1 h2 hw hb hl])
theorem scR_le : ∀ (n : Nat) (w : Nat → Int32) (P : pS) (b row : Nat), relP 592 w P → wfP P → inB (Pbl P) b → b + n < 20000 → scR n w row ≤ 14 * n
  | 0, _, _, _, _, _, _, _, _ => Nat.zero_le _
  | n + 1, w, P, b, row, h1, hw, hb, hl => by
    by_cases d : Pnx P = -1
    · rw [scR_done (by rw [← d]; exact h1.2.2.1)]; exact Nat.zero_le _
    · obtain ⟨k, v, k1, -, k3, k4, k5, k6, k7, -⟩ := batsTried_c h1 hw hb (by omega) d (h := row / 10 ^ n % 10) (Nat.mod_lt _ (by decide))
      rw [scR]
      show tN (F_X6_batsTried w _).1 + scR n (F_X6_batsTried w _).2 row ≤ 14 * (n + 1)
      rw [k3]
      simp only
      have ih := scR_le n v _ (b + 1) row k5 k6 k7 (by omega)
      rw [tN_nI (by omega)]
      omega
theorem L_sb11 (row n : Nat) : ∀ (m f k sm : Nat) (w : Nat → Int32), k + m = n → m < f → (F_X6_scoreBy_L11 f row n k (10 ^ m) sm w).2.2.1 = sm + scR m w row
  | 0, 0, _, _, _, _, h => by omega
  | 0, f + 1, k, sm, w, h, _ => by
    rw [F_X6_scoreBy_L11, if_pos (by omega)]
    rfl
  | m + 1, 0, _, _, _, _, h => by omega
  | m + 1, f + 1, k, sm, w, h, hf => by
    have e : 10 ^ (m + 1) / 10 = 10 ^ m := by rw [Nat.pow_succ]; exact Nat.mul_div_cancel _ (by decide)
    rw [F_X6_scoreBy_L11, if_neg (by omega), e]
    simp only [let2]
    rw [L_sb11 row n m f (k + 1) _ _ (by omega) (by omega), scR, Nat.add_assoc]
theorem scoreBy_R {w : Nat → Int32} {row n : Nat} (hn : n ≤ 4) : (F_X6_scoreBy w row n).1 = nI (scR n w row) := by
  unfold F_X6_scoreBy
  simp only [let4]
  rw [L_sb11 row n n 5 0 0 w (Nat.zero_add _) (by omega), Nat.zero_add]
/-! who stands at a post -/
def bO (x : Int32) : Nat := if F_X5_within x (nI 1) (nI 3) = true then 1 else 0
def onP (P : pS) : Nat := sumN (fun i => bO (Pwh P i)) (tN (Psz P))
theorem bO_le (x : Int32) : bO x ≤ 1 := by
  unfold bO
  split <;> omega
theorem sumN_upd1 (w : Nat → Int32) (k : Nat) (v : Int32) : ∀ (n : Nat), k < n → sumN (fun i => bO (upd w k v i)) n + bO (w k) = sumN (fun i => bO (w i)) n + bO v
  | 0, h => by omega
  | n + 1, h => by
    rw [sumN, sumN]
    by_cases c : k = n
    · subst c
      have e : sumN (fun i => bO (upd w k v i)) k = sumN (fun i => bO (w i)) k := sumN_cong k (fun i hi => by rw [pk_un (by omega)])
      rw [e, pk_us]
      omega
    · have ih := sumN_upd1 w k v n (by omega)
      rw [pk_un (show n ≠ k from fun q => c q.symm)]
      omega
theorem L_on4 (n : Int32) (P : pS) : ∀ (f k gn : Nat) (w1 : Nat → Int32), (F_X2_runAll_L4 f n P k gn w1).2.1 + sumN (fun i => bO ((F_X2_runAll_L4 f n P k gn w1).2.2 i)) (tN (Psz P)) ≤ gn + sumN (fun i => bO (w1 i)) (tN (Psz P))
  | 0, _, _, _ => Nat.le_refl _
  | f + 1, k, gn, w1 => by
    rw [F_X2_runAll_L4]
    by_cases c : tN (Psz P) ≤ k
    · rw [if_pos c]; exact Nat.le_refl _
    · rw [if_neg c]
      by_cases a : F_X5_within (w1 k) (nI 1) (nI 3) = true
      · rw [if_pos a]
        have b1 : bO (w1 k) = 1 := if_pos a
        by_cases d : w1 k + n < nI 4
        · rw [if_pos d]
          have ih := L_on4 n P f (k + 1) gn (upd w1 k (w1 k + n))
          have u := sumN_upd1 w1 k (w1 k + n) (tN (Psz P)) (by omega)
          have l := bO_le (w1 k + n)
          omega
        · rw [if_neg d]
          have ih := L_on4 n P f (k + 1) (gn + 1) (upd (upd w1 k (w1 k + n)) k (nI 0))
          have u := sumN_upd1 w1 k (w1 k + n) (tN (Psz P)) (by omega)
          have u2 := sumN_upd1 (upd w1 k (w1 k + n)) k (nI 0) (tN (Psz P)) (by omega)
          have z : bO (nI 0) = 0 := by decide
          rw [pk_us] at u2
          omega
      · rw [if_neg a]
        exact L_on4 n P f (k + 1) gn w1
theorem passBat_on (P : pS) : onP (F_X2_passBat P) = onP P := by
  obtain ⟨a, b, -⟩ := passBat_at (P := P) (P' := F_X2_passBat P) rfl
  unfold onP
  rw [a, b]
theorem runBall_on {P : pS} {n : Int32} {k : Nat} (hk : k < 2 ^ 31) (h6 : tN (Psz P) ≤ 6) (hs : tN (Pnx P) < tN (Psz P)) (e : (F_X2_runBall P n).1 = nI k) : k + onP (F_X2_runBall P n).2 ≤ onP P + 2 := by
  unfold F_X2_runBall at e ⊢
  simp only [let1, let2] at e ⊢
  by_cases c : F_X2_isDone P = true
  · rw [if_pos c] at e ⊢
    have := (nI_eq (by decide) hk).mp e
    show k + onP P ≤ onP P + 2
    omega
  · rw [if_neg c] at e ⊢
    by_cases d : 0 ≤ n
    · rw [if_pos d] at e ⊢
      by_cases g : n ≤ 0
      · rw [if_pos g] at e ⊢
        have := (nI_eq (by decide) hk).mp e
        show k + onP (F_X2_passBat _) ≤ onP P + 2
        rw [passBat_on]
        show k + onP P ≤ onP P + 2
        omega
      · rw [if_neg g] at e ⊢
        have L := L_on4 n (Pbo P, Psz P, Pkd P, Plg P, Pwh P, Pnx P, Ppt P, Pbl P + nI 1) 7 0 0 (Pwh P)
        unfold F_X2_runAll at e ⊢
        simp only [let3] at e ⊢
        rw [passBat_on]
        generalize F_X2_runAll_L4 7 n (Pbo P, Psz P, Pkd P, Plg P, Pwh P, Pnx P, Ppt P, Pbl P + nI 1) 0 0 (Pwh P) = Y at L e ⊢
        obtain ⟨y0, gn, w1⟩ := Y
        simp only at L e ⊢
        have L' : gn + sumN (fun i => bO (w1 i)) (tN (Psz P)) ≤ 0 + sumN (fun i => bO (Pwh P i)) (tN (Psz P)) := L
        have gb : gn < 2 ^ 31 - 4 := by
          have l := sumN_le (F := fun i => bO (Pwh P i)) (b := 1) (tN (Psz P)) (fun i _ => bO_le _)
          omega
        by_cases q : n < nI 4
        · rw [if_pos q] at e ⊢
          have := (nI_eq (by omega) hk).mp e
          show k + sumN (fun i => bO (upd w1 (tN (Pnx P)) n i)) (tN (Psz P)) ≤ sumN (fun i => bO (Pwh P i)) (tN (Psz P)) + 2
          have u := sumN_upd1 w1 (tN (Pnx P)) n (tN (Psz P)) hs
          have l := bO_le n
          omega
        · rw [if_neg q] at e ⊢
          have := (nI_eq (by omega) hk).mp e
          show k + sumN (fun i => bO (w1 i)) (tN (Psz P)) ≤ sumN (fun i => bO (Pwh P i)) (tN (Psz P)) + 2
          omega
    · rw [if_neg d] at e ⊢
      have := (nI_eq (by decide) hk).mp e
      show k + onP (F_X2_passBat _) ≤ onP P + 2
      rw [passBat_on]
      show k + sumN (fun i => bO (upd (Pwh P) (tN (Pnx P)) (nI 4) i)) (tN (Psz P)) ≤ sumN (fun i => bO (Pwh P i)) (tN (Psz P)) + 2
      have u := sumN_upd1 (Pwh P) (tN (Pnx P)) (nI 4) (tN (Psz P)) hs
      have z : bO (nI 4) = 0 := by decide
      omega
