/-! how it would go: score, against, days -/
theorem relP_cpy {r : Nat} {w : Nat → Int32} {P T : pS} {b nx pt bl : Int32} (s6 : inB (Psz P) 6) (h : relP r w (b, Psz P, Pkd P, Plg P, Pwh P, nx, pt, bl)) : relP r w (b, Psz P, va_cpy (Pkd P) (Pkd T) 0 0 6, va_cpy (Plg P) (Plg T) 0 0 6, va_cpy (Pwh P) (Pwh T) 0 0 6, nx, pt, bl) := by
  obtain ⟨h0, h1, h2, h4, hi⟩ := h
  have := s6.2
  refine ⟨h0, h1, h2, h4, fun i q => ?_⟩
  have q' : i < tN (Psz P) := q
  show w (r + i + 5) = va_cpy (Pkd P) (Pkd T) 0 0 6 i ∧ w (r + i + 11) = va_cpy (Plg P) (Plg T) 0 0 6 i ∧ w (r + i + 17) = va_cpy (Pwh P) (Pwh T) 0 0 6 i
  rw [pk_cpy_in (Nat.zero_le _) (by omega), pk_cpy_in (Nat.zero_le _) (by omega), pk_cpy_in (Nat.zero_le _) (by omega), Nat.zero_add, Nat.sub_zero]
  exact hi i q
theorem wfP_cpy {P T : pS} {b nx pt bl : Int32} (h : wfP (b, Psz P, Pkd P, Plg P, Pwh P, nx, pt, bl)) : wfP (b, Psz P, va_cpy (Pkd P) (Pkd T) 0 0 6, va_cpy (Plg P) (Plg T) 0 0 6, va_cpy (Pwh P) (Pwh T) 0 0 6, nx, pt, bl) := by
  obtain ⟨w1, w2, w3, w4⟩ := h
  have s6 : tN (Psz P) ≤ 6 := w1.2
  refine ⟨w1, w2, ?_, fun i q => ?_⟩
  · rcases w3 with q | ⟨q1, q2, q3⟩
    · exact Or.inl q
    · have q2' : tN nx < tN (Psz P) := q2
      refine Or.inr ⟨q1, q2, ?_⟩
      show va_cpy (Pwh P) (Pwh T) 0 0 6 (tN nx) = 0
      rw [pk_cpy_in (Nat.zero_le _) (by omega), Nat.zero_add, Nat.sub_zero]
      exact q3
  · have q' : i < tN (Psz P) := q
    show inB (va_cpy (Pkd P) (Pkd T) 0 0 6 i) 5 ∧ (inB (va_cpy (Plg P) (Plg T) 0 0 6 i) 5 ∧ 1 ≤ tN (va_cpy (Plg P) (Plg T) 0 0 6 i)) ∧ inB (va_cpy (Pwh P) (Pwh T) 0 0 6 i) 4
    rw [pk_cpy_in (Nat.zero_le _) (by omega), pk_cpy_in (Nat.zero_le _) (by omega), pk_cpy_in (Nat.zero_le _) (by omega), Nat.zero_add, Nat.sub_zero]
    exact w4 i q
theorem tries_rel {w w1 : Nat → Int32} {P : pS} (hk : ∀ j, j < 31 → w1 j = w j) (h : relP 0 w P) (s6 : inB (Psz P) 6) : relP 592 (F_X6_tries w1) P := by
  obtain ⟨p0, p1, p2, p4, pi⟩ := rp0 h
  have := s6.2
  have T : ∀ k, k < 31 → F_X6_tries w1 (592 + k) = w k := fun k hk' => by rw [tries_at, if_pos (by omega), show 592 + k - 592 = k by omega, hk k hk']
  refine ⟨by rw [T 0 (by omega)]; exact p0, by rw [T 1 (by omega)]; exact p1, by rw [T 2 (by omega)]; exact p2, by rw [T 4 (by omega)]; exact p4, fun i hi => ?_⟩
  rw [Nat.add_assoc, Nat.add_assoc, Nat.add_assoc, T (i + 5) (by omega), T (i + 11) (by omega), T (i + 17) (by omega)]
  exact pi i hi
theorem tries_row {w w1 Rw : Nat → Int32} (hk : ∀ j, j < 31 → w1 j = w j) (h : relW w Rw) : relW (F_X6_tries w1) Rw := relW_keep (fun j a b => by rw [tries_at, if_neg (by omega), hk j (by omega)]) h
/-- the row's hits, one after the other -/
theorem L_st0 (n : Nat) : ∀ (f k sm : Nat) (w1 : Nat → Int32), w1 594 = -1 → (F_X6_scoreTried_L4 f n k sm w1).2.1 = sm ∧ (F_X6_scoreTried_L4 f n k sm w1).2.2 = w1
  | 0, _, _, _, _ => ⟨rfl, rfl⟩
  | f + 1, k, sm, w1, h => by
    rw [F_X6_scoreTried_L4]
    by_cases c : n ≤ k
    · rw [if_pos c]; exact ⟨rfl, rfl⟩
    · rw [if_neg c]
      have hb : F_X6_batsTried w1 (w1 (k + 23)) = (nI 0, w1) := by
        unfold F_X6_batsTried
        simp only [let1]
        rw [isDone_r, decide_eq_true h, if_pos rfl]
      rw [hb]
      simp only [let2]
      rw [show sm + tN (nI 0) = sm from rfl]
      exact L_st0 n f (k + 1) sm w1 h
theorem batsTried_c {w1 : Nat → Int32} {P1 : pS} {b h : Nat} (hR : relP 592 w1 P1) (hw : wfP P1) (hb : inB (Pbl P1) b) (hb2 : b < 20000) (d : ¬ Pnx P1 = -1) (hh : h < 10) : ∃ (k : Nat) (w2 : Nat → Int32), k ≤ 14 ∧ F_X6_bats w1 592 (nI h) = (nI k, w2) ∧ F_X6_batsTried w1 (nI h) = (nI k, w2) ∧ (F_X2_ball P1 (nI h)).1 = nI k ∧ relP 592 w2 (F_X2_ball P1 (nI h)).2 ∧ wfP (F_X2_ball P1 (nI h)).2 ∧ inB (Pbl (F_X2_ball P1 (nI h)).2) (b + 1) ∧ ∀ j, j < 592 → w2 j = w1 j := by
  have hE := ball_eq hR hw hb hb2 d hh
  have hnum := bats_num (w := w1) (R := 592) (h := nI h) (r := (F_X6_bats w1 592 (nI h)).1) (w' := (F_X6_bats w1 592 (nI h)).2) rfl
  have qn := wf_next hw d
  have s6 := hw.1.2
  have hat := (bats_at (w := w1) (R := 592) (h := nI h) (r := (F_X6_bats w1 592 (nI h)).1) (w' := (F_X6_bats w1 592 (nI h)).2) rfl (by rw [hR.1]; exact hw.1) (by rw [hR.2.2.1]; exact ⟨qn.1, by omega⟩)).2
  have hd : F_X6_isDone w1 592 = false := by rw [isDone_r, hR.2.2.1, decide_eq_false d]
  refine ⟨tN (F_X6_bats w1 592 (nI h)).1, (F_X6_bats w1 592 (nI h)).2, hnum.2, ?_, ?_, ?_, hE.2.1, hE.2.2.1, hE.2.2.2.1, fun j hj => hat j (by omega) (by omega) (Or.inl (by omega))⟩
  · rw [← tN_eq hnum.1]
  · unfold F_X6_batsTried
    simp only [let1, let2]
    rw [hd, if_neg (by decide), ← tN_eq hnum.1]
  · rw [← hE.1]; exact tN_eq hnum.1
theorem L_play (Rw : Nat → Int32) (n : Nat) (hn : n ≤ 8) : ∀ (f f' k sm : Nat) (w1 : Nat → Int32) (P1 : pS), relP 592 w1 P1 → wfP P1 → inB (Pbl P1) (9999 + k) → relW w1 Rw → n - k < f → n - k < f' → k ≤ n → (F_X2_playHits_L5 f n Rw k (nI sm) P1).2.1 = nI (F_X6_scoreTried_L4 f' n k sm w1).2.1
  | 0, _, _, _, _, _, _, _, _, _, h, _, _ => by omega
  | _ + 1, 0, _, _, _, _, _, _, _, _, _, h, _ => by omega
  | f + 1, f' + 1, k, sm, w1, P1, hR, hw, hb, hW, h1, h2, hk => by
    rw [F_X2_playHits_L5]
    by_cases c : n ≤ k
    · rw [if_pos c, F_X6_scoreTried_L4, if_pos c]
    · rw [if_neg c, if_neg (by omega)]
      simp only [let1]
      rw [isDone_c hw]
      by_cases d : Pnx P1 = -1
      · rw [decide_eq_true d, if_pos rfl]
        show nI sm = _
        rw [(L_st0 n (f' + 1) k sm w1 (by rw [← d]; exact hR.2.2.1)).1]
      · rw [decide_eq_false d, if_neg (by decide), F_X6_scoreTried_L4, if_neg c]
        have hk8 := hW k (by omega)
        have e : Rw k = nI (tN (Rw k)) := tN_eq hk8.2.1
        have e9 := hk8.2.2
        obtain ⟨g, w2, g1, g2, g3, g4, g5, g6, g7, g8⟩ := batsTried_c hR hw hb (by omega) d (h := tN (Rw k)) (by omega)
        rw [hk8.1, e, g3]
        unfold F_X2_ball at g4 g5 g6 g7
        simp only [let1, let2] at g4 g5 g6 g7
        simp only [let2]
        rw [g4, nI_add, tN_nI (by omega)]
        exact L_play Rw n hn f f' (k + 1) (sm + g) w2 _ g5 g6 g7 (relW_keep (fun j a b => g8 j (by omega)) hW) (by omega) (by omega) (by omega)
theorem sA_eq {v : Nat → Int32} {P T : pS} {Rw : Nat → Int32} {b nx : Int32} {n : Nat} (hR : relP 592 v (b, Psz P, Pkd P, Plg P, Pwh P, nx, Ppt P, Pbl P)) (hw : wfP (b, Psz P, Pkd P, Plg P, Pwh P, nx, Ppt P, Pbl P)) (hb : inB (Pbl P) 9999) (hW : relW v Rw) (hn : n ≤ 8) : (F_X5_scoreAgainst P Rw T b nx n).1 = (F_X6_scoreTried v n).1 := by
  unfold F_X5_scoreAgainst F_X6_scoreTried F_X2_copy F_X2_playHits
  simp only [let1, let2, let3]
  exact L_play Rw n hn (n + 1) 9 0 0 v _ (relP_cpy hw.1 hR) (wfP_cpy hw) hb hW (by omega) (by omega) (Nat.zero_le _)
theorem relP_okN {r : Nat} {w : Nat → Int32} {P : pS} (h : relP r w P) (hw : wfP P) : inB (w r) 6 ∧ okN (w (r + 2)) := by
  rw [h.1, h.2.2.1]
  exact ⟨hw.1, wfN_ok hw⟩
theorem stR {v : Nat → Int32} {P : pS} {n : Nat} (hR : relP 592 v P) (hw : wfP P) : (∀ j, j < 592 → (F_X6_scoreTried v n).2 j = v j) ∧ inB (F_X6_scoreTried v n).1 126 := scoreTried_at (w := v) (n := n) (r := (F_X6_scoreTried v n).1) (w' := (F_X6_scoreTried v n).2) rfl (relP_okN hR hw).1 (relP_okN hR hw).2
theorem score_eq {w su : Nat → Int32} {P Tr : pS} {Rw : Nat → Int32} {No Ma Pa : rS} (h : relF w P Rw No Ma Pa) (n : Int32) : (F_X6_score w su n).1 = (F_X5_score P Rw su Tr n).1 ∧ (F_X6_score w su n).2.2 = (F_X5_score P Rw su Tr n).2.2 ∧ ∀ j, j < 592 → (F_X6_score w su n).2.1 j = w j := by
  unfold F_X6_score F_X5_score
  simp only [let1, let2]
  rw [iw n (a := 0) (b := 8) (lo := nI 0) (hi := nI 8) (by decide) (by decide), ref_bad]
  by_cases c : F_X5_within n (nI 0) (nI 8) = true
  · rw [if_pos c, if_pos c]
    obtain ⟨c0, -, c2⟩ := within_nat (by decide) (by decide) c
    have hR := tries_rel (w1 := w) (fun _ _ => rfl) h.1.1 h.1.2.1.1
    have hS := stR (n := tN n) hR h.1.2.1
    refine ⟨(sA_eq (P := P) (b := Pbo P) (nx := Pnx P) hR h.1.2.1 h.1.2.2.2.2 (tries_row (fun _ _ => rfl) h.2.1) c2).symm, rfl, fun j hj => ?_⟩
    show (F_X6_scoreTried (F_X6_tries w) (tN n)).2 j = w j
    rw [hS.1 j hj, tries_at, if_neg (by omega)]
  · rw [if_neg c, if_neg c]
    exact ⟨rfl, rfl, fun _ _ => rfl⟩
theorem relP_up {v : Nat → Int32} {P : pS} {b : Int32} (h : relP 592 v P) (s6 : inB (Psz P) 6) : relP 592 (upd v 593 b) (b, Psz P, Pkd P, Plg P, Pwh P, Pnx P, Ppt P, Pbl P) := by
  obtain ⟨h0, h1, h2, h4, hi⟩ := h
  refine ⟨by rw [pk_un (by omega)]; exact h0, pk_us, by rw [pk_un (by omega)]; exact h2, by rw [pk_un (by omega)]; exact h4, fun i q => ?_⟩
  rw [pk_un (by omega), pk_un (by omega), pk_un (by omega)]; exact hi i q
theorem relP_upn {v : Nat → Int32} {P : pS} {b : Int32} (h : relP 592 v P) (s6 : inB (Psz P) 6) : relP 592 (upd v 594 b) (Pbo P, Psz P, Pkd P, Plg P, Pwh P, b, Ppt P, Pbl P) := by
  obtain ⟨h0, h1, h2, h4, hi⟩ := h
  refine ⟨by rw [pk_un (by omega)]; exact h0, by rw [pk_un (by omega)]; exact h1, pk_us, by rw [pk_un (by omega)]; exact h4, fun i q => ?_⟩
  rw [pk_un (by omega), pk_un (by omega), pk_un (by omega)]; exact hi i q
theorem relW_up {v Rw : Nat → Int32} {k : Nat} {b : Int32} (hk : 592 ≤ k) (h : relW v Rw) : relW (upd v k b) Rw := relW_keep (fun j a c => pk_un (by omega)) h
theorem L_ag {w : Nat → Int32} {P : pS} {Rw : Nat → Int32} {No Ma Pa : rS} (h : relF w P Rw No Ma Pa) (n : Int32) (hn : tN n ≤ 8) : ∀ (f f' kd bs : Nat) (lst : Int32) (w1 : Nat → Int32) (T1 : pS), (∀ j, j < 592 → w1 j = w j) → 6 - kd < f → 6 - kd < f' → (F_X5_against_L49 f n P Rw kd bs lst T1).2.1 = (F_X6_against_L38 f' n kd bs lst w1).2.1 ∧ (F_X5_against_L49 f n P Rw kd bs lst T1).2.2.1 = (F_X6_against_L38 f' n kd bs lst w1).2.2.1 ∧ ∀ j, j < 592 → (F_X6_against_L38 f' n kd bs lst w1).2.2.2 j = w j
  | 0, _, _, _, _, _, _, _, h, _ => by omega
  | _ + 1, 0, _, _, _, _, _, _, _, h => by omega
  | f + 1, f' + 1, kd, bs, lst, w1, T1, hk, h1, h2 => by
    rw [F_X5_against_L49, F_X6_against_L38]
    by_cases c : 6 ≤ kd
    · rw [if_pos c, if_pos (by omega)]
      exact ⟨rfl, rfl, hk⟩
    · rw [if_neg c, if_neg (by omega)]
      simp only [let1, let2]
      have hR := relP_up (b := nI kd) (tries_rel (w1 := w1) (fun j hj => hk j (by omega)) h.1.1 h.1.2.1.1) h.1.2.1.1
      have hw : wfP (nI kd, Psz P, Pkd P, Plg P, Pwh P, Pnx P, Ppt P, Pbl P) := ⟨h.1.2.1.1, inB_nI (by omega) (by decide), h.1.2.1.2.2.1, h.1.2.1.2.2.2⟩
      have hW := relW_up (k := 593) (b := nI kd) (by decide) (tries_row (w1 := w1) (fun j hj => hk j (by omega)) h.2.1)
      have E := sA_eq (T := T1) hR hw h.1.2.2.2.2 hW hn
      have S := stR (n := tN n) hR hw
      rw [E, ← tN_eq S.2.1]
      have K : ∀ j, j < 592 → (F_X6_scoreTried (upd (F_X6_tries w1) 593 (nI kd)) (tN n)).2 j = w j := fun j hj => by
        rw [S.1 j hj, pk_un (by omega), tries_at, if_neg (by omega), hk j hj]
      by_cases d : lst ≤ (F_X6_scoreTried (upd (F_X6_tries w1) 593 (nI kd)) (tN n)).1
      · rw [if_pos d, if_pos d]
        exact L_ag h n hn f f' (kd + 1) bs lst _ _ K (by omega) (by omega)
      · rw [if_neg d, if_neg d]
        exact L_ag h n hn f f' (kd + 1) kd _ _ _ K (by omega) (by omega)
theorem against_eq {w su : Nat → Int32} {P Tr : pS} {Rw : Nat → Int32} {No Ma Pa : rS} (h : relF w P Rw No Ma Pa) (n wh : Int32) : (F_X6_against w su n wh).1 = (F_X5_against P Rw su Tr n wh).1 ∧ (F_X6_against w su n wh).2.2 = (F_X5_against P Rw su Tr n wh).2.2 ∧ ∀ j, j < 592 → (F_X6_against w su n wh).2.1 j = w j := by
  unfold F_X6_against F_X5_against
  simp only [let1, let2, let4]
  rw [iw n (a := 1) (b := 8) (lo := nI 1) (hi := nI 8) (by decide) (by decide), iw wh (a := 0) (b := 1) (lo := nI 0) (hi := nI 1) (by decide) (by decide), ref_bad]
  by_cases c : F_X5_within n (nI 1) (nI 8) = true
  · rw [if_pos c, if_pos c]
    obtain ⟨c0, -, c2⟩ := within_nat (by decide) (by decide) c
    by_cases d : F_X5_within wh (nI 0) (nI 1) = true
    · rw [if_pos d, if_pos d]
      have hR := relP_up (b := nI 0) (tries_rel (w1 := w) (fun _ _ => rfl) h.1.1 h.1.2.1.1) h.1.2.1.1
      have hw : wfP (nI 0, Psz P, Pkd P, Plg P, Pwh P, Pnx P, Ppt P, Pbl P) := ⟨h.1.2.1.1, inB_nI (by omega) (by decide), h.1.2.1.2.2.1, h.1.2.1.2.2.2⟩
      have hW := relW_up (k := 593) (b := nI 0) (by decide) (tries_row (w1 := w) (fun _ _ => rfl) h.2.1)
      have E := sA_eq (T := Tr) hR hw h.1.2.2.2.2 hW c2
      have S := stR (n := tN n) hR hw
      have K : ∀ j, j < 592 → (F_X6_scoreTried (upd (F_X6_tries w) 593 (nI 0)) (tN n)).2 j = w j := fun j hj => by
        rw [S.1 j hj, pk_un (by omega), tries_at, if_neg (by omega)]
      have A := L_ag h n c2 6 6 1 0 (F_X6_scoreTried (upd (F_X6_tries w) 593 (nI 0)) (tN n)).1 _ (F_X5_scoreAgainst P Rw Tr (nI 0) (Pnx P) (tN n)).2 K (by decide) (by decide)
      have e1 : F_X6_against_L38 7 n 0 0 1000000 w = F_X6_against_L38 6 n 1 0 (F_X6_scoreTried (upd (F_X6_tries w) 593 (nI 0)) (tN n)).1 (F_X6_scoreTried (upd (F_X6_tries w) 593 (nI 0)) (tN n)).2 := by
        rw [F_X6_against_L38, if_neg (by decide)]
        simp only [let1, let2]
        have l := S.2.2
        rw [← tN_eq S.2.1, if_neg (fun z => by
          rw [tN_eq S.2.1, show (1000000 : Int32) = nI 1000000 from rfl, nI_leI (by decide) (tN_lt _)] at z
          omega)]
      rw [e1, E]
      obtain ⟨A1, A2, A3⟩ := A
      by_cases z : tN wh = 0
      · rw [if_pos z, if_pos z]
        exact ⟨by rw [A1], rfl, A3⟩
      · rw [if_neg z, if_neg z]
        exact ⟨by rw [A2], rfl, A3⟩
    · rw [if_neg d, if_neg d]
      exact ⟨rfl, rfl, fun _ _ => rfl⟩
  · rw [if_neg c, if_neg c]
    exact ⟨rfl, rfl, fun _ _ => rfl⟩
/-! days -/
theorem day_x (a : Nat) (h : a < 2 ^ 31) : ((lN a * 1103515245) + 12345) - ((lN a * 1103515245) + 12345) / 2147483648 * 2147483648 = lN ((a * 1103515245 + 12345) % 2147483648) := by
  have e : (lN a * 1103515245) + 12345 = lN (a * 1103515245 + 12345) := by
    rw [show (1103515245 : Int64) = lN 1103515245 from rfl, show (12345 : Int64) = lN 12345 from rfl, lN_mul, lN_add]
  rw [e, show (2147483648 : Int64) = lN 2147483648 from rfl]
  exact pk_lRem (by omega) (by decide) (by decide)
theorem day_h (a : Nat) (h : a < 2 ^ 31) : ((lN a / 65536) - (lN a / 65536) / 10 * 10).toInt32 = nI (a / 65536 % 10) := by
  have e : lN a / 65536 = lN (a / 65536) := by
    rw [show (65536 : Int64) = lN 65536 from rfl]
    exact pk_lDiv (by omega) (by decide) (by decide)
  rw [e, show (10 : Int64) = lN 10 from rfl, pk_lRem (by omega) (by decide) (by decide), lN_i]
theorem L_days (n : Int32) (hn : tN n ≤ 60) : ∀ (f a sm k : Nat) (w1 : Nat → Int32) (T1 : pS), relP 592 w1 T1 → wfP T1 → inB (Pbl T1) (9999 + k) → a < 2 ^ 31 → k ≤ 60 → (F_X5_days_L50 f n (lN a) (nI sm) k T1).2.1 = nI (F_X6_days_L44 f n (lN a) sm k w1).2.1 ∧ ∀ j, j < 592 → (F_X6_days_L44 f n (lN a) sm k w1).2.2.2 j = w1 j
  | 0, _, _, _, _, _, _, _, _, _, _ => ⟨rfl, fun _ _ => rfl⟩
  | f + 1, a, sm, k, w1, T1, hR, hw, hb, ha, hk => by
    rw [F_X5_days_L50, F_X6_days_L44]
    by_cases c : tN n ≤ k
    · rw [if_pos c, if_pos c]
      exact ⟨rfl, fun _ _ => rfl⟩
    · rw [if_neg c, if_neg c]
      simp only [let1]
      rw [isDone_c hw, isDone_r, hR.2.2.1]
      by_cases d : Pnx T1 = -1
      · rw [decide_eq_true d, if_pos rfl, if_pos rfl]
        exact ⟨rfl, fun _ _ => rfl⟩
      · rw [decide_eq_false d, if_neg (by decide), if_neg (by decide), day_x a ha]
        have hq : (a * 1103515245 + 12345) % 2147483648 < 2 ^ 31 := Nat.mod_lt _ (by decide)
        generalize (a * 1103515245 + 12345) % 2147483648 = q at hq ⊢
        rw [day_h q hq]
        obtain ⟨g, w2, g1, g2, g3, g4, g5, g6, g7, g8⟩ := batsTried_c hR hw hb (by omega) d (h := q / 65536 % 10) (Nat.mod_lt _ (by decide))
        rw [g2]
        simp only [let2]
        rw [g4, nI_add, tN_nI (by omega)]
        have ih := L_days n hn f q (sm + g) (k + 1) w2 _ g5 g6 g7 hq (by omega)
        exact ⟨ih.1, fun j hj => by rw [ih.2 j hj, g8 j hj]⟩
theorem days_eq {w su : Nat → Int32} {P Tr : pS} {Rw : Nat → Int32} {No Ma Pa : rS} (h : relF w P Rw No Ma Pa) (sd n : Int32) : (F_X6_days w su sd n).1 = (F_X5_days P su Tr sd n).1 ∧ (F_X6_days w su sd n).2.2 = (F_X5_days P su Tr sd n).2.2 ∧ ∀ j, j < 592 → (F_X6_days w su sd n).2.1 j = w j := by
  unfold F_X6_days F_X5_days F_X2_copy
  simp only [let1, let2, let4]
  rw [iw sd (a := 0) (b := 999999) (lo := nI 0) (hi := 999999) (by decide) (by decide), iw n (a := 0) (b := 60) (lo := nI 0) (hi := nI 60) (by decide) (by decide), ref_bad]
  by_cases c : F_X5_within sd (nI 0) 999999 = true
  · rw [if_pos c, if_pos c]
    obtain ⟨c0, -, c2⟩ := within_nat (hi := 999999) (by decide) (by decide) c
    by_cases d : F_X5_within n (nI 0) (nI 60) = true
    · rw [if_pos d, if_pos d]
      obtain ⟨d0, -, d2⟩ := within_nat (by decide) (by decide) d
      have hR := tries_rel (w1 := w) (fun _ _ => rfl) h.1.1 h.1.2.1.1
      have e : sd.toInt64 = lN (tN sd) := by rw [← nI_l (tN_lt _), ← tN_eq c0]
      rw [← tN_eq c0, e]
      have L := L_days n d2 61 (tN sd) 0 0 _ _ (relP_cpy (T := Tr) h.1.2.1.1 hR) (wfP_cpy (T := Tr) h.1.2.1) h.1.2.2.2.2 (tN_lt _) (Nat.zero_le _)
      refine ⟨L.1.symm, rfl, fun j hj => ?_⟩
      show (F_X6_days_L44 61 n (lN (tN sd)) 0 0 (F_X6_tries w)).2.2.2 j = w j
      rw [L.2 j hj, tries_at, if_neg (by omega)]
    · rw [if_neg d, if_neg d]
      exact ⟨rfl, rfl, fun _ _ => rfl⟩
  · rw [if_neg c, if_neg c]
    exact ⟨rfl, rfl, fun _ _ => rfl⟩
