/-! two captains -/
/-- what a batter brings against a kind of bowler -/
def gvC (P : pS) (Rw : Nat → Int32) (i j : Nat) : Int32 := (F_X5_scoreAgainst P Rw P (nI j) (nI i) 4).1
abbrev tvC (w : Nat → Int32) (i j : Nat) : Nat → Int32 := upd (upd (F_X6_tries w) 594 (nI i)) 593 (nI j)
theorem cap_rel {w w1 : Nat → Int32} {P : pS} {Rw : Nat → Int32} {No Ma Pa : rS} (h : relF w P Rw No Ma Pa) (hk : ∀ j, j < 592 → w1 j = w j) {i j : Nat} (hi : i < tN (Psz P)) (hj : j < 6) (hw0 : Pwh P i = 0) : relP 592 (tvC w1 i j) (nI j, Psz P, Pkd P, Plg P, Pwh P, nI i, Ppt P, Pbl P) ∧ wfP (nI j, Psz P, Pkd P, Plg P, Pwh P, nI i, Ppt P, Pbl P) ∧ relW (tvC w1 i j) Rw := by
  have hs := h.1.2.1.1
  have h6 := hs.2
  have hR := relP_up (b := nI j) (relP_upn (b := nI i) (tries_rel (w1 := w1) (fun j hj => hk j (by omega)) h.1.1 hs) hs) hs
  refine ⟨hR, ⟨hs, inB_nI (by omega) (by decide), Or.inr ⟨nI_pos' (by omega), ?_, ?_⟩, h.1.2.1.2.2.2⟩, relW_up (by decide) (relW_up (by decide) (tries_row (w1 := w1) (fun j hj => hk j (by omega)) h.2.1))⟩
  · show tN (nI i) < tN (Psz P)
    rw [tN_nI (by omega)]; exact hi
  · show Pwh P (tN (nI i)) = 0
    rw [tN_nI (by omega)]; exact hw0
theorem cap_ref {w w1 : Nat → Int32} {P : pS} {Rw : Nat → Int32} {No Ma Pa : rS} (h : relF w P Rw No Ma Pa) (hk : ∀ j, j < 592 → w1 j = w j) {i j : Nat} (hi : i < tN (Psz P)) (hj : j < 6) (hw0 : Pwh P i = 0) : (F_X6_scoreTried (tvC w1 i j) 4).1 = gvC P Rw i j ∧ 0 ≤ gvC P Rw i j ∧ ∀ q, q < 592 → (F_X6_scoreTried (tvC w1 i j) 4).2 q = w q := by
  obtain ⟨hR, hw, hW⟩ := cap_rel h hk hi hj hw0
  have E := sA_eq (T := P) hR hw h.1.2.2.2.2 hW (n := 4) (by decide)
  have S := stR (n := 4) hR hw
  unfold gvC
  rw [E]
  exact ⟨rfl, S.2.1, fun q hq => by
    rw [S.1 q hq]
    show upd (upd (F_X6_tries w1) 594 (nI i)) 593 (nI j) q = w q
    rw [pk_un (by omega), pk_un (by omega), tries_at, if_neg (by omega), hk q hq]⟩
theorem cap_cls {w : Nat → Int32} {P : pS} {Rw : Nat → Int32} {No Ma Pa : rS} (h : relF w P Rw No Ma Pa) (T : pS) {i j : Nat} (hi : i < tN (Psz P)) (hj : j < 6) (hw0 : Pwh P i = 0) : (F_X5_scoreAgainst P Rw T (nI j) (nI i) 4).1 = gvC P Rw i j := by
  obtain ⟨hR, hw, hW⟩ := cap_rel h (w1 := w) (fun _ _ => rfl) hi hj hw0
  rw [sA_eq (T := T) hR hw h.1.2.2.2.2 hW (n := 4) (by decide)]
  exact (cap_ref h (w1 := w) (fun _ _ => rfl) hi hj hw0).1
theorem L_fg18 {w : Nat → Int32} {P : pS} {Rw : Nat → Int32} {No Ma Pa : rS} (h : relF w P Rw No Ma Pa) {i : Nat} (hi : i < tN (Psz P)) : ∀ (f j : Nat) (T2 : pS) (g2 : Nat → Nat → Int32), 6 - j < f → ∀ a b, a < 6 → b < 6 → (F_X5_fillGains_L18 f P Rw i j T2 g2).2.2 a b = if a = i ∧ j ≤ b ∧ Pwh P i = 0 then gvC P Rw i b else g2 a b
  | 0, _, _, _, h => by omega
  | f + 1, j, T2, g2, hf => by
    intro a b ha hb
    rw [F_X5_fillGains_L18]
    by_cases c : 6 ≤ j
    · rw [if_pos c, if_neg (by omega)]
    · rw [if_neg c]
      by_cases d : Pwh P i = 0
      · rw [if_pos d]
        simp only [let2]
        rw [L_fg18 h hi f (j + 1) _ _ (by omega) a b ha hb, cap_cls h T2 hi (by omega) d]
        by_cases z : a = i ∧ j + 1 ≤ b ∧ Pwh P i = 0
        · rw [if_pos z, if_pos ⟨z.1, by omega, d⟩]
        · rw [if_neg z]
          unfold upd2
          by_cases y : a = i
          · rw [if_pos y]
            by_cases x : b = j
            · rw [x, pk_us, if_pos ⟨y, Nat.le_refl _, d⟩]
            · rw [pk_un x, if_neg (fun q => z ⟨y, by omega, d⟩)]
          · rw [if_neg y, if_neg (fun q => y q.1)]
      · rw [if_neg d, L_fg18 h hi f (j + 1) _ _ (by omega) a b ha hb, if_neg (fun q => d q.2.2), if_neg (fun q => d q.2.2)]
theorem L_fg2 {w : Nat → Int32} {P : pS} {Rw : Nat → Int32} {No Ma Pa : rS} (h : relF w P Rw No Ma Pa) : ∀ (f i : Nat) (T1 : pS) (g1 : Nat → Nat → Int32), tN (Psz P) - i < f → ∀ a b, a < 6 → b < 6 → (F_X5_fillGains_L2 f P Rw i T1 g1).2.2 a b = if i ≤ a ∧ a < tN (Psz P) ∧ Pwh P a = 0 then gvC P Rw a b else g1 a b
  | 0, _, _, _, h => by omega
  | f + 1, i, T1, g1, hf => by
    intro a b ha hb
    rw [F_X5_fillGains_L2]
    by_cases c : tN (Psz P) ≤ i
    · rw [if_pos c, if_neg (by omega)]
    · rw [if_neg c]
      simp only [let3]
      rw [L_fg2 h f (i + 1) _ _ (by omega) a b ha hb, L_fg18 h (by omega) 7 0 T1 g1 (by decide) a b ha hb]
      by_cases z : i + 1 ≤ a ∧ a < tN (Psz P) ∧ Pwh P a = 0
      · rw [if_pos z, if_pos ⟨by omega, z.2⟩]
      · rw [if_neg z]
        by_cases y : a = i
        · subst y
          by_cases x : Pwh P a = 0
          · rw [if_pos ⟨rfl, Nat.zero_le _, x⟩, if_pos ⟨Nat.le_refl _, by omega, x⟩]
          · rw [if_neg (fun q => x q.2.2), if_neg (fun q => x q.2.2)]
        · rw [if_neg (fun q => y q.1), if_neg (fun q => z ⟨by omega, q.2⟩)]
theorem gains_c {w : Nat → Int32} {P : pS} {Rw : Nat → Int32} {No Ma Pa : rS} (h : relF w P Rw No Ma Pa) (Tr : pS) (Gm : Nat → Nat → Int32) {a b : Nat} (ha : a < tN (Psz P)) (hb : b < 6) (hw0 : Pwh P a = 0) : (F_X5_fillGains P Rw Tr Gm).2 a b = gvC P Rw a b := by
  have h6 := h.1.2.1.1.2
  unfold F_X5_fillGains
  simp only [let3]
  rw [L_fg2 h 7 0 Tr Gm (by omega) a b (by omega) hb, if_pos ⟨Nat.zero_le _, ha, hw0⟩]
theorem L_cg14 {w : Nat → Int32} {P : pS} {Rw : Nat → Int32} {No Ma Pa : rS} (h : relF w P Rw No Ma Pa) : ∀ (f ev : Nat) (w1 g1 : Nat → Int32), (∀ j, j < 592 → w1 j = w j) → 6 * tN (Psz P) - ev < f → (∀ j, j < 592 → (F_X6_captains_L14 f w ev w1 g1).2.1 j = w j) ∧ ∀ e, (F_X6_captains_L14 f w ev w1 g1).2.2 e = if ev ≤ e ∧ e < 6 * tN (Psz P) then (if Pwh P (e / 6) = 0 then gvC P Rw (e / 6) (e % 6) else nI 0) else g1 e
  | 0, _, _, _, _, h => by omega
  | f + 1, ev, w1, g1, hk, hf => by
    obtain ⟨p0, p1, p2, p4, pi⟩ := rp0 h.1.1
    have h6 := h.1.2.1.1.2
    rw [F_X6_captains_L14, p0]
    by_cases c : 6 * tN (Psz P) ≤ ev
    · rw [if_pos c]
      exact ⟨hk, fun e => by rw [if_neg (by omega)]⟩
    · rw [if_neg c]
      simp only [let1]
      have hi : ev / 6 < tN (Psz P) := by omega
      have e17 : upd (upd (F_X6_tries w1) 594 (nI (ev / 6))) 593 (nI (ev % 6)) (ev / 6 + 17) = Pwh P (ev / 6) := by
        rw [pk_un (by omega), pk_un (by omega), tries_at, if_neg (by omega), hk _ (by omega)]
        exact (pi _ hi).2.2
      rw [e17]
      have fin : ∀ (w2 : Nat → Int32) (v : Int32), (∀ j, j < 592 → w2 j = w j) → v = (if Pwh P (ev / 6) = 0 then gvC P Rw (ev / 6) (ev % 6) else nI 0) → (∀ j, j < 592 → (F_X6_captains_L14 f w (ev + 1) w2 (upd g1 ev v)).2.1 j = w j) ∧ ∀ e, (F_X6_captains_L14 f w (ev + 1) w2 (upd g1 ev v)).2.2 e = if ev ≤ e ∧ e < 6 * tN (Psz P) then (if Pwh P (e / 6) = 0 then gvC P Rw (e / 6) (e % 6) else nI 0) else g1 e := by
        intro w2 v h2 hv
        have ih := L_cg14 h f (ev + 1) w2 (upd g1 ev v) h2 (by omega)
        refine ⟨ih.1, fun e => ?_⟩
        rw [ih.2 e]
        by_cases z : ev + 1 ≤ e ∧ e < 6 * tN (Psz P)
        · rw [if_pos z, if_pos (show ev ≤ e ∧ e < 6 * tN (Psz P) by omega)]
        · rw [if_neg z]
          by_cases y : e = ev
          · rw [y, pk_us, if_pos (by omega), hv]
          · rw [pk_un y, if_neg (by omega)]
      by_cases d : Pwh P (ev / 6) = 0
      · rw [if_pos d]
        simp only [let2]
        have R := cap_ref h hk hi (Nat.mod_lt ev (by decide : 6 > 0)) d
        refine fin _ _ R.2.2 ?_
        rw [if_pos d, R.1]
        exact (tN_eq R.2.1).symm
      · rw [if_neg d]
        refine fin _ _ (fun q hq => by rw [pk_un (by omega), pk_un (by omega), tries_at, if_neg (by omega), hk q hq]) ?_
        rw [if_neg d]
/-- a pair that rests -/
def restP (P : pS) (Rw : Nat → Int32) (i j : Nat) : Prop := (∀ o, o < tN (Psz P) → Pwh P o = 0 → gvC P Rw o j ≤ gvC P Rw i j) ∧ ∀ k, k < 6 → gvC P Rw i j ≤ gvC P Rw i k
theorem i32_nlt {x y : Int32} : ¬ x < y ↔ y ≤ x := by
  rw [Int32.lt_iff_toInt_lt, Int32.le_iff_toInt_le]; omega
theorem L_r84 {Gm : Nat → Nat → Int32} {i j : Nat} : ∀ (f k : Nat), 6 - k < f → match F_X5_rests_L84 f i j Gm k with
    | .inl _ => ∀ q, k ≤ q → q < 6 → Gm i j ≤ Gm i q
    | .inr b => b = false ∧ ¬ ∀ q, k ≤ q → q < 6 → Gm i j ≤ Gm i q
  | 0, _, h => by omega
  | f + 1, k, h => by
    rw [F_X5_rests_L84]
    by_cases c : 6 ≤ k
    · rw [if_pos c]
      intro q a b; omega
    · rw [if_neg c]
      by_cases d : Gm i j ≤ Gm i k
      · rw [if_pos d]
        have ih := L_r84 (Gm := Gm) (i := i) (j := j) f (k + 1) (by omega)
        cases hx : F_X5_rests_L84 f i j Gm (k + 1) with
        | inl z =>
          rw [hx] at ih
          intro q a b
          by_cases e : q = k
          · rw [e]; exact d
          · exact ih q (by omega) b
        | inr z =>
          rw [hx] at ih
          exact ⟨ih.1, fun y => ih.2 (fun q a b => y q (by omega) b)⟩
      · rw [if_neg d]
        exact ⟨rfl, fun y => d (y k (Nat.le_refl _) (by omega))⟩
theorem L_r29 {P : pS} {Gm : Nat → Nat → Int32} {i j : Nat} : ∀ (f k : Nat), tN (Psz P) - k < f → match F_X5_rests_L29 f i j P Gm k with
    | .inl _ => ∀ q, k ≤ q → q < tN (Psz P) → Pwh P q = 0 → Gm q j ≤ Gm i j
    | .inr b => b = false ∧ ¬ ∀ q, k ≤ q → q < tN (Psz P) → Pwh P q = 0 → Gm q j ≤ Gm i j
  | 0, _, h => by omega
  | f + 1, k, h => by
    rw [F_X5_rests_L29]
    by_cases c : tN (Psz P) ≤ k
    · rw [if_pos c]
      intro q a b; omega
    · rw [if_neg c]
      have ih := L_r29 (P := P) (Gm := Gm) (i := i) (j := j) f (k + 1) (by omega)
      by_cases g : Pwh P k = 0
      · rw [if_pos g]
        by_cases d : Gm k j ≤ Gm i j
        · rw [if_pos d]
          cases hx : F_X5_rests_L29 f i j P Gm (k + 1) with
          | inl z =>
            rw [hx] at ih
            intro q a b e0
            by_cases e : q = k
            · rw [e]; exact d
            · exact ih q (by omega) b e0
          | inr z =>
            rw [hx] at ih
            exact ⟨ih.1, fun y => ih.2 (fun q a b e0 => y q (by omega) b e0)⟩
        · rw [if_neg d]
          exact ⟨rfl, fun y => d (y k (Nat.le_refl _) (by omega) g)⟩
      · rw [if_neg g]
        cases hx : F_X5_rests_L29 f i j P Gm (k + 1) with
        | inl z =>
          rw [hx] at ih
          intro q a b e0
          by_cases e : q = k
          · rw [e] at e0; exact absurd e0 g
          · exact ih q (by omega) b e0
        | inr z =>
          rw [hx] at ih
          exact ⟨ih.1, fun y => ih.2 (fun q a b e0 => y q (by omega) b e0)⟩
theorem rests_c {P : pS} {Rw : Nat → Int32} {Gm : Nat → Nat → Int32} (h6 : tN (Psz P) ≤ 6) (hG : ∀ a b, a < tN (Psz P) → b < 6 → Pwh P a = 0 → Gm a b = gvC P Rw a b) {i j : Nat} (hi : i < tN (Psz P)) (hj : j < 6) : F_X5_rests P Gm i j = true ↔ Pwh P i = 0 ∧ restP P Rw i j := by
  unfold F_X5_rests
  by_cases c : Pwh P i = 0
  · rw [if_pos c]
    have A := L_r29 (P := P) (Gm := Gm) (i := i) (j := j) 7 0 (by omega)
    have B := L_r84 (Gm := Gm) (i := i) (j := j) 7 0 (by decide)
    have tA : (∀ q, 0 ≤ q → q < tN (Psz P) → Pwh P q = 0 → Gm q j ≤ Gm i j) ↔ ∀ o, o < tN (Psz P) → Pwh P o = 0 → gvC P Rw o j ≤ gvC P Rw i j := by
      constructor
      · intro y o a b
        have := y o (Nat.zero_le _) a b
        rw [hG o j a hj b, hG i j hi hj c] at this
        exact this
      · intro y o _ a b
        rw [hG o j a hj b, hG i j hi hj c]
        exact y o a b
    have tB : (∀ q, 0 ≤ q → q < 6 → Gm i j ≤ Gm i q) ↔ ∀ k, k < 6 → gvC P Rw i j ≤ gvC P Rw i k := by
      constructor
      · intro y k a
        have := y k (Nat.zero_le _) a
        rw [hG i j hi hj c, hG i k hi a c] at this
        exact this
      · intro y k _ a
        rw [hG i j hi hj c, hG i k hi a c]
        exact y k a
    cases hx : F_X5_rests_L29 7 i j P Gm 0 with
    | inr b =>
      rw [hx] at A
      have b0 := A.1
      subst b0
      exact ⟨fun z => (by cases z), fun z => absurd (tA.mpr z.2.1) A.2⟩
    | inl _ =>
      rw [hx] at A
      cases hy : F_X5_rests_L84 7 i j Gm 0 with
      | inr b =>
        rw [hy] at B
        have b0 := B.1
        subst b0
        exact ⟨fun z => (by cases z), fun z => absurd (tB.mpr z.2.2) B.2⟩
      | inl _ =>
        rw [hy] at B
        exact ⟨fun _ => ⟨c, tA.mp A, tB.mp B⟩, fun _ => rfl⟩
  · rw [if_neg c]
    exact ⟨fun z => (by cases z), fun z => absurd z.1 c⟩
theorem L_rr5 {w ga : Nat → Int32} {i j : Nat} : ∀ (f k : Nat) (iz : Bool), 6 - k < f → ((F_X6_rests_L5 f i j w ga k iz).2 = true ↔ iz = true ∧ ∀ q, k ≤ q → q < 6 → (q < tN (w 0) → w (q + 17) = 0 → ga (6 * q + j) ≤ ga (6 * i + j)) ∧ ga (6 * i + j) ≤ ga (6 * i + q))
  | 0, _, _, h => by omega
  | f + 1, k, iz, h => by
    rw [F_X6_rests_L5]
    by_cases c : 6 ≤ k
    · rw [if_pos c]
      exact ⟨fun z => ⟨z, fun q a b => by omega⟩, fun z => z.1⟩
    · rw [if_neg c]
      have iF := L_rr5 (w := w) (ga := ga) (i := i) (j := j) f (k + 1) false (by omega)
      have iT := L_rr5 (w := w) (ga := ga) (i := i) (j := j) f (k + 1) true (by omega)
      have nF : ¬ (F_X6_rests_L5 f i j w ga (k + 1) false).2 = true := fun z => by have := (iF.mp z).1; cases this
      by_cases d : iz = true
      · rw [if_pos d]
        have yes : ((k < tN (w 0) → w (k + 17) = 0 → ga (6 * k + j) ≤ ga (6 * i + j)) ∧ ga (6 * i + j) ≤ ga (6 * i + k)) → ((F_X6_rests_L5 f i j w ga (k + 1) true).2 = true ↔ iz = true ∧ ∀ q, k ≤ q → q < 6 → (q < tN (w 0) → w (q + 17) = 0 → ga (6 * q + j) ≤ ga (6 * i + j)) ∧ ga (6 * i + j) ≤ ga (6 * i + q)) := by
          intro hq
          rw [iT]
          refine ⟨fun z => ⟨d, fun q a b => ?_⟩, fun z => ⟨rfl, fun q a b => z.2 q (by omega) b⟩⟩
          by_cases e : q = k
          · rw [e]; exact hq
          · exact z.2 q (by omega) b
        have no : ¬ ((k < tN (w 0) → w (k + 17) = 0 → ga (6 * k + j) ≤ ga (6 * i + j)) ∧ ga (6 * i + j) ≤ ga (6 * i + k)) → ((F_X6_rests_L5 f i j w ga (k + 1) false).2 = true ↔ iz = true ∧ ∀ q, k ≤ q → q < 6 → (q < tN (w 0) → w (q + 17) = 0 → ga (6 * q + j) ≤ ga (6 * i + j)) ∧ ga (6 * i + j) ≤ ga (6 * i + q)) := by
          intro hq
          exact ⟨fun z => absurd z nF, fun z => absurd (z.2 k (Nat.le_refl _) (by omega)) hq⟩
        by_cases g : tN (w 0) ≤ k
        · rw [if_pos g]
          by_cases e : ga (6 * i + k) < ga (6 * i + j)
          · rw [if_pos e]; exact no (fun z => i32_nlt.mpr z.2 e)
          · rw [if_neg e]; exact yes ⟨fun a => by omega, i32_nlt.mp e⟩
        · rw [if_neg g]
          by_cases x : w (k + 17) = 0
          · rw [if_pos x]
            by_cases y : ga (6 * i + j) < ga (6 * k + j)
            · rw [if_pos y]; exact no (fun z => i32_nlt.mpr (z.1 (by omega) x) y)
            · rw [if_neg y]
              by_cases e : ga (6 * i + k) < ga (6 * i + j)
              · rw [if_pos e]; exact no (fun z => i32_nlt.mpr z.2 e)
              · rw [if_neg e]; exact yes ⟨fun _ _ => i32_nlt.mp y, i32_nlt.mp e⟩
          · rw [if_neg x]
            by_cases e : ga (6 * i + k) < ga (6 * i + j)
            · rw [if_pos e]; exact no (fun z => i32_nlt.mpr z.2 e)
            · rw [if_neg e]; exact yes ⟨fun _ a => absurd a x, i32_nlt.mp e⟩
      · rw [if_neg d]
        exact ⟨fun z => absurd z nF, fun z => absurd z.1 d⟩
theorem rests_r {w w1 ga : Nat → Int32} {P : pS} {Rw : Nat → Int32} {No Ma Pa : rS} (h : relF w P Rw No Ma Pa) (hk : ∀ j, j < 592 → w1 j = w j) (hg : ∀ e, e < 6 * tN (Psz P) → Pwh P (e / 6) = 0 → ga e = gvC P Rw (e / 6) (e % 6)) {i j : Nat} (hi : i < tN (Psz P)) (hj : j < 6) (hw0 : Pwh P i = 0) : F_X6_rests w1 ga i j = true ↔ restP P Rw i j := by
  obtain ⟨p0, p1, p2, p4, pi⟩ := rp0 h.1.1
  have h6 := h.1.2.1.1.2
  have g : ∀ a b, a < tN (Psz P) → b < 6 → Pwh P a = 0 → ga (6 * a + b) = gvC P Rw a b := fun a b ha hb hq => by
    have e1 : (6 * a + b) / 6 = a := by omega
    have e2 : (6 * a + b) % 6 = b := by omega
    have := hg (6 * a + b) (by omega) (by rw [e1]; exact hq)
    rw [e1, e2] at this
    exact this
  unfold F_X6_rests
  simp only [let2]
  rw [L_rr5 7 0 true (by decide)]
  unfold restP
  rw [hk 0 (by decide), p0]
  constructor
  · rintro ⟨-, z⟩
    refine ⟨fun o ho hq => ?_, fun k hk' => ?_⟩
    · have := (z o (Nat.zero_le _) (by omega)).1 ho (by rw [hk _ (by omega), (pi o ho).2.2]; exact hq)
      rw [g o j ho hj hq, g i j hi hj hw0] at this
      exact this
    · have := (z k (Nat.zero_le _) hk').2
      rw [g i j hi hj hw0, g i k hi hk' hw0] at this
      exact this
  · rintro ⟨z1, z2⟩
    refine ⟨rfl, fun q _ hq => ⟨fun a b => ?_, ?_⟩⟩
    · have hq0 : Pwh P q = 0 := by rw [hk _ (by omega), (pi q a).2.2] at b; exact b
      rw [g q j a hj hq0, g i j hi hj hw0]
      exact z1 q a hq0
    · rw [g i j hi hj hw0, g i q hi hq hw0]
      exact z2 q hq
/-- going through the pairs -/
def scE (z : Nat → Bool) (k : Int32) : Nat → Nat → Nat → Nat ⊕ Int32
  | 0, _, cn => .inl cn
  | f + 1, e, cn => if z e = true then (if nI cn = k then .inr (nI (10 * (e / 6) + e % 6)) else scE z k f (e + 1) (cn + 1)) else scE z k f (e + 1) cn
theorem scE_app (z : Nat → Bool) (k : Int32) (b : Nat) : ∀ (a e cn : Nat), scE z k (a + b) e cn = match scE z k a e cn with
    | .inl c => scE z k b (e + a) c
    | .inr r => .inr r
  | 0, e, cn => by rw [Nat.zero_add]; rfl
  | a + 1, e, cn => by
    rw [show a + 1 + b = (a + b) + 1 by omega, scE, scE, scE_app z k b a (e + 1), scE_app z k b a (e + 1), show e + 1 + a = e + (a + 1) by omega]
    by_cases c : z e = true
    · rw [if_pos c, if_pos c]
      by_cases d : nI cn = k
      · rw [if_pos d, if_pos d]
      · rw [if_neg d, if_neg d]
    · rw [if_neg c, if_neg c]
theorem L_c95 {w w1 g1 su : Nat → Int32} {k : Int32} {n : Nat} (hn : tN (w 0) = n) (z : Nat → Bool) (hz : ∀ e, e < 6 * n → (z e = true ↔ w1 (e / 6 + 17) = 0 ∧ F_X6_rests w1 g1 (e / 6) (e % 6) = true)) : ∀ (a f e cn : Nat), e + a = 6 * n → a < f → match scE z k a e cn with
    | .inl c => ∃ x, F_X6_captains_L95 f k w su w1 g1 e cn = .inl (x, c)
    | .inr r => F_X6_captains_L95 f k w su w1 g1 e cn = .inr (r, w1, g1, su)
  | 0, 0, _, _, _, h => by omega
  | 0, f + 1, e, cn, h, _ => by
    rw [F_X6_captains_L95, hn, if_pos (by omega)]
    exact ⟨_, rfl⟩
  | a + 1, 0, _, _, _, h => by omega
  | a + 1, f + 1, e, cn, h, hf => by
    rw [F_X6_captains_L95, hn, if_neg (by omega), scE]
    simp only [let1]
    have hze := hz e (by omega)
    by_cases c : w1 (e / 6 + 17) = 0
    · rw [if_pos c]
      by_cases d : F_X6_rests w1 g1 (e / 6) (e % 6) = true
      · rw [if_pos d, if_pos (hze.mpr ⟨c, d⟩)]
        by_cases y : nI cn = k
        · rw [if_pos y, if_pos y]
        · rw [if_neg y, if_neg y]
          exact L_c95 hn z hz a f (e + 1) (cn + 1) (by omega) (by omega)
      · rw [if_neg d, if_neg (fun q => d (hze.mp q).2)]
        exact L_c95 hn z hz a f (e + 1) cn (by omega) (by omega)
    · rw [if_neg c, if_neg (fun q => c (hze.mp q).1)]
      exact L_c95 hn z hz a f (e + 1) cn (by omega) (by omega)
theorem L_c40 {P T : pS} {Rf : Nat → Int32} {G : Nat → Nat → Int32} {k : Int32} {i : Nat} (z : Nat → Bool) (hz : ∀ j, j < 6 → z (6 * i + j) = F_X5_rests P G i j) : ∀ (a f j cn : Nat), j + a = 6 → a < f → match scE z k a (6 * i + j) cn with
    | .inl c => ∃ x, F_X5_captains_L40 f k P Rf T G i j cn = .inl (x, c)
    | .inr r => F_X5_captains_L40 f k P Rf T G i j cn = .inr (r, Rf, T, G)
  | 0, 0, _, _, _, h => by omega
  | 0, f + 1, j, cn, h, _ => by
    rw [F_X5_captains_L40, if_pos (by omega)]
    exact ⟨_, rfl⟩
  | a + 1, 0, _, _, _, h => by omega
  | a + 1, f + 1, j, cn, h, hf => by
    rw [F_X5_captains_L40, if_neg (by omega), scE]
    simp only [let1]
    rw [hz j (by omega), show (6 * i + j) / 6 = i by omega, show (6 * i + j) % 6 = j by omega, show 6 * i + j + 1 = 6 * i + (j + 1) by omega]
    by_cases d : F_X5_rests P G i j = true
    · rw [if_pos d, if_pos d]
      by_cases y : nI cn = k
      · rw [if_pos y, if_pos y]
      · rw [if_neg y, if_neg y]
        exact L_c40 z hz a f (j + 1) (cn + 1) (by omega) (by omega)
    · rw [if_neg d, if_neg d]
      exact L_c40 z hz a f (j + 1) cn (by omega) (by omega)
theorem L_c23 {P T : pS} {Rf : Nat → Int32} {G : Nat → Nat → Int32} {k : Int32} {n : Nat} (hn : tN (Psz P) = n) (z : Nat → Bool) (hz : ∀ i j, i < n → j < 6 → z (6 * i + j) = F_X5_rests P G i j) : ∀ (a f i cn : Nat), i + a = n → a < f → match scE z k (6 * a) (6 * i) cn with
    | .inl c => ∃ x, F_X5_captains_L23 f k P Rf T G i cn = .inl (x, c)
    | .inr r => F_X5_captains_L23 f k P Rf T G i cn = .inr (r, Rf, T, G)
  | 0, 0, _, _, _, h => by omega
  | 0, f + 1, i, cn, h, _ => by
    rw [F_X5_captains_L23, hn, if_pos (by omega)]
    exact ⟨_, rfl⟩
  | a + 1, 0, _, _, _, h => by omega
  | a + 1, f + 1, i, cn, h, hf => by
    rw [F_X5_captains_L23, hn, if_neg (by omega), show 6 * (a + 1) = 6 + 6 * a by omega, scE_app z k (6 * a) 6]
    have A := L_c40 (P := P) (T := T) (Rf := Rf) (G := G) (k := k) (i := i) z (fun j hj => hz i j (by omega) hj) 6 7 0 cn rfl (by decide)
    rw [Nat.add_zero] at A
    cases hx : scE z k 6 (6 * i) cn with
    | inr r =>
      rw [hx] at A
      have A' : F_X5_captains_L40 7 k P Rf T G i 0 cn = .inr (r, Rf, T, G) := A
      rw [A']
      rfl
    | inl c =>
      rw [hx] at A
      obtain ⟨x, A'⟩ := A
      rw [A']
      have B := L_c23 (P := P) (T := T) (Rf := Rf) (G := G) (k := k) hn z hz a f (i + 1) c (by omega) (by omega)
      rw [show 6 * (i + 1) = 6 * i + 6 by omega] at B
      exact B
theorem captains_eq {w su ga : Nat → Int32} {P Tr : pS} {Rw : Nat → Int32} {No Ma Pa : rS} (h : relF w P Rw No Ma Pa) (Gm : Nat → Nat → Int32) (k : Int32) : (F_X6_captains w su ga k).1 = (F_X5_captains P Rw su Tr Gm k).1 ∧ (F_X6_captains w su ga k).2.2.2 = (F_X5_captains P Rw su Tr Gm k).2.1 ∧ ∀ j, j < 592 → (F_X6_captains w su ga k).2.1 j = w j := by
  obtain ⟨p0, p1, p2, p4, pi⟩ := rp0 h.1.1
  have h6 := h.1.2.1.1.2
  unfold F_X6_captains F_X5_captains
  simp only [let2, let3]
  rw [ref_bad]
  by_cases c : (-1 : Int32) ≤ k
  · rw [if_pos c, if_pos c]
    have L14 := L_cg14 h 37 0 w ga (fun _ _ => rfl) (by omega)
    have hG : ∀ a b, a < tN (Psz P) → b < 6 → Pwh P a = 0 → (F_X5_fillGains P Rw Tr Gm).2 a b = gvC P Rw a b := fun a b ha hb hq => gains_c h Tr Gm ha hb hq
    generalize F_X6_captains_L14 37 w 0 w ga = Y at L14 ⊢
    generalize F_X5_fillGains P Rw Tr Gm = Z at hG ⊢
    obtain ⟨y0, w1, g1⟩ := Y
    obtain ⟨T, G⟩ := Z
    simp only at L14 hG ⊢
    obtain ⟨hk, hg⟩ := L14
    have hg' : ∀ e, e < 6 * tN (Psz P) → Pwh P (e / 6) = 0 → g1 e = gvC P Rw (e / 6) (e % 6) := fun e he hq => by
      rw [hg e, if_pos ⟨Nat.zero_le _, he⟩, if_pos hq]
    have A := L_c95 (w := w) (w1 := w1) (g1 := g1) (su := su) (k := k) (n := tN (Psz P)) (by rw [p0]) (fun e => F_X5_rests P G (e / 6) (e % 6)) (fun e he => by
      have hi : e / 6 < tN (Psz P) := by omega
      have hj : e % 6 < 6 := Nat.mod_lt _ (by decide)
      have e17 : w1 (e / 6 + 17) = Pwh P (e / 6) := by rw [hk _ (by omega), (pi _ hi).2.2]
      show F_X5_rests P G (e / 6) (e % 6) = true ↔ _
      rw [rests_c h6 hG hi hj, e17]
      constructor
      · rintro ⟨q1, q2⟩
        exact ⟨q1, (rests_r h hk hg' hi hj q1).mpr q2⟩
      · rintro ⟨q1, q2⟩
        exact ⟨q1, (rests_r h hk hg' hi hj q1).mp q2⟩) (6 * tN (Psz P)) 37 0 0 (Nat.zero_add _) (by omega)
    have B := L_c23 (P := P) (T := T) (Rf := su) (G := G) (k := k) (n := tN (Psz P)) rfl (fun e => F_X5_rests P G (e / 6) (e % 6)) (fun i j hi hj => by
      show F_X5_rests P G ((6 * i + j) / 6) ((6 * i + j) % 6) = _
      rw [show (6 * i + j) / 6 = i by omega, show (6 * i + j) % 6 = j by omega]) (tN (Psz P)) 7 0 0 (Nat.zero_add _) (by omega)
    rw [Nat.mul_zero] at B
    cases hx : scE (fun e => F_X5_rests P G (e / 6) (e % 6)) k (6 * tN (Psz P)) 0 0 with
    | inr r =>
      rw [hx] at A B
      have A' : F_X6_captains_L95 37 k w su w1 g1 0 0 = .inr (r, w1, g1, su) := A
      have B' : F_X5_captains_L23 7 k P su T G 0 0 = .inr (r, su, T, G) := B
      rw [A', B']
      exact ⟨rfl, rfl, hk⟩
    | inl cn =>
      rw [hx] at A B
      obtain ⟨a, A'⟩ := A
      obtain ⟨b, B'⟩ := B
      rw [A', B']
      show (if k = -1 then (nI cn, w1, g1, su) else (-5, w1, g1, su)).1 = (if 0 ≤ k then ((-5 : Int32), su, T, G) else (nI cn, su, T, G)).1 ∧ (if k = -1 then (nI cn, w1, g1, su) else (-5, w1, g1, su)).2.2.2 = (if 0 ≤ k then ((-5 : Int32), su, T, G) else (nI cn, su, T, G)).2.1 ∧ ∀ j, j < 592 → (if k = -1 then (nI cn, w1, g1, su) else (-5, w1, g1, su)).2.1 j = w j
      by_cases d : k = -1
      · rw [if_pos d, if_neg (by rw [d]; decide)]
        exact ⟨rfl, rfl, hk⟩
      · rw [if_neg d, if_pos (ge_m1 c d)]
        exact ⟨rfl, rfl, hk⟩
  · rw [if_neg c, if_neg c]
    exact ⟨rfl, rfl, fun _ _ => rfl⟩
