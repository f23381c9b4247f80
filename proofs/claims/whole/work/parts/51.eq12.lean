/-! the best order -/
def sameL (n : Nat) (L : List Nat) : Bool := decide ((F_X5_riseTurn (ar L) n).1 = (F_X6_nextLine (ar L) n).1) && ((List.range 6).all (fun j => decide ((F_X5_riseTurn (ar L) n).2 j = ar (nrm (F_X6_nextLine (ar L) n).2) j)) && (List.range n).all (fun j => decide (L.getD j 0 < n)))
def rmo (n : Nat) : Nat → List Nat → Bool
  | 0, _ => false
  | f + 1, L => sameL n L && (if (F_X6_nextLine (ar L) n).1 = true then rmo n f (nrm (F_X6_nextLine (ar L) n).2) else true)
set_option maxRecDepth 100000 in
theorem rmo_1 : rmo 1 720 [0, 1, 2, 3, 4, 5] = true := by decide +kernel
set_option maxRecDepth 100000 in
theorem rmo_2 : rmo 2 720 [0, 1, 2, 3, 4, 5] = true := by decide +kernel
set_option maxRecDepth 100000 in
theorem rmo_3 : rmo 3 720 [0, 1, 2, 3, 4, 5] = true := by decide +kernel
set_option maxRecDepth 100000 in
theorem rmo_4 : rmo 4 720 [0, 1, 2, 3, 4, 5] = true := by decide +kernel
set_option maxRecDepth 100000 in
theorem rmo_5 : rmo 5 720 [0, 1, 2, 3, 4, 5] = true := by decide +kernel
set_option maxRecDepth 100000 in
theorem rmo_6 : rmo 6 720 [0, 1, 2, 3, 4, 5] = true := by decide +kernel
theorem rmo_ok {n : Nat} (h : 1 ≤ n) (h2 : n ≤ 6) : rmo n 720 [0, 1, 2, 3, 4, 5] = true := by
  have : n = 1 ∨ n = 2 ∨ n = 3 ∨ n = 4 ∨ n = 5 ∨ n = 6 := by omega
  rcases this with e | e | e | e | e | e
  · rw [e]; exact rmo_1
  · rw [e]; exact rmo_2
  · rw [e]; exact rmo_3
  · rw [e]; exact rmo_4
  · rw [e]; exact rmo_5
  · rw [e]; exact rmo_6
theorem sameL_at {n : Nat} {L : List Nat} (h : sameL n L = true) : (F_X5_riseTurn (ar L) n).1 = (F_X6_nextLine (ar L) n).1 ∧ (∀ j, j < 6 → (F_X5_riseTurn (ar L) n).2 j = ar (nrm (F_X6_nextLine (ar L) n).2) j) ∧ ∀ j, j < n → L.getD j 0 < n := by
  unfold sameL at h
  rw [Bool.and_eq_true, Bool.and_eq_true] at h
  obtain ⟨h1, h2, h3⟩ := h
  refine ⟨of_decide_eq_true h1, fun j hj => ?_, fun j hj => ?_⟩
  · exact of_decide_eq_true (List.all_eq_true.mp h2 j (List.mem_range.mpr hj))
  · exact of_decide_eq_true (List.all_eq_true.mp h3 j (List.mem_range.mpr hj))
/-! the class's next order looks at six numbers alone -/
theorem L_t4 {u v : Nat → Int32} (h : ∀ j, j < 6 → u j = v j) : ∀ (f kk : Nat), kk ≤ 6 → F_X5_riseTurn_L4 f u kk = F_X5_riseTurn_L4 f v kk ∧ F_X5_riseTurn_L4 f v kk ≤ kk
  | 0, _, _ => ⟨rfl, Nat.le_refl _⟩
  | f + 1, kk, hk => by
    rw [F_X5_riseTurn_L4, F_X5_riseTurn_L4]
    by_cases c : nI kk - nI 2 < 0
    · rw [if_pos c, if_pos c]; exact ⟨rfl, Nat.le_refl _⟩
    · have k2 := pred2_pos c
      rw [if_neg c, if_neg c, h (kk - 2) (by omega), h (kk - 2 + 1) (by omega)]
      have ih := L_t4 h f (kk - 1) (by omega)
      by_cases d : v (kk - 2) ≤ v (kk - 2 + 1)
      · rw [if_pos d, if_pos d]; exact ⟨rfl, Nat.le_refl _⟩
      · rw [if_neg d, if_neg d]; exact ⟨ih.1, by omega⟩
theorem L_t41 {u v : Nat → Int32} (h : ∀ j, j < 6 → u j = v j) {kk : Nat} (hk : kk ≤ 6) : ∀ (f jj : Nat), jj ≤ 5 → F_X5_riseTurn_L41 f u kk jj = F_X5_riseTurn_L41 f v kk jj ∧ F_X5_riseTurn_L41 f v kk jj ≤ jj
  | 0, _, _ => ⟨rfl, Nat.le_refl _⟩
  | f + 1, jj, hj => by
    rw [F_X5_riseTurn_L41, F_X5_riseTurn_L41]
    by_cases c : jj ≤ kk - 2
    · rw [if_pos c, if_pos c]; exact ⟨rfl, Nat.le_refl _⟩
    · rw [if_neg c, if_neg c, h (kk - 2) (by omega), h jj (by omega)]
      have ih := L_t41 h hk f (jj - 1) (by omega)
      by_cases d : v (kk - 2) ≤ v jj
      · rw [if_pos d, if_pos d]; exact ⟨rfl, Nat.le_refl _⟩
      · rw [if_neg d, if_neg d]; exact ⟨ih.1, by omega⟩
theorem sw_cong {u v : Nat → Int32} (h : ∀ j, j < 6 → u j = v j) {a b : Nat} (ha : a < 6) (hb : b < 6) : ∀ j, j < 6 → F_X5_swapTurn u a b j = F_X5_swapTurn v a b j := by
  intro j hj
  unfold F_X5_swapTurn
  rw [h a ha, h b hb]
  by_cases c : j = b
  · rw [c, pk_us, pk_us]
  · rw [pk_un c, pk_un c]
    by_cases d : j = a
    · rw [d, pk_us, pk_us]
    · rw [pk_un d, pk_un d, h j hj]
theorem L_t83 : ∀ (f a b : Nat) (u v : Nat → Int32), (∀ j, j < 6 → u j = v j) → b ≤ 5 → ∀ j, j < 6 → (F_X5_riseTurn_L83 f a b u).2.2 j = (F_X5_riseTurn_L83 f a b v).2.2 j
  | 0, _, _, _, _, h, _ => h
  | f + 1, a, b, u, v, h, hb => by
    rw [F_X5_riseTurn_L83, F_X5_riseTurn_L83]
    by_cases c : b ≤ a
    · rw [if_pos c, if_pos c]; exact h
    · rw [if_neg c, if_neg c]
      simp only [let1]
      exact L_t83 f (a + 1) (b - 1) _ _ (sw_cong h (by omega) (by omega)) (by omega)
theorem rise_cong {u v : Nat → Int32} (h : ∀ j, j < 6 → u j = v j) {n : Nat} (hn : n ≤ 6) : (F_X5_riseTurn u n).1 = (F_X5_riseTurn v n).1 ∧ ∀ j, j < 6 → (F_X5_riseTurn u n).2 j = (F_X5_riseTurn v n).2 j := by
  unfold F_X5_riseTurn
  simp only [let1, let3]
  obtain ⟨a1, a2⟩ := L_t4 h 7 n hn
  rw [a1]
  generalize F_X5_riseTurn_L4 7 v n = kk at a2 ⊢
  by_cases c : 0 ≤ nI kk - nI 2
  · rw [if_pos c, if_pos c]
    obtain ⟨b1, b2⟩ := L_t41 h (kk := kk) (by omega) 7 (n - 1) (by omega)
    rw [b1]
    generalize F_X5_riseTurn_L41 7 v kk (n - 1) = jj at b2 ⊢
    exact ⟨rfl, L_t83 7 _ _ _ _ (sw_cong h (by omega) (by omega)) (by omega)⟩
  · rw [if_neg c, if_neg c]
    exact ⟨rfl, h⟩
/-! the batters in an order -/
def luI (O : pS) (Od : Nat → Int32) (k : Nat) (P1 : pS) : Prop := Psz P1 = nI k ∧ Pbo P1 = Pbo O ∧ Pbl P1 = Pbl O ∧ (k = 0 → Pnx P1 = -1) ∧ (0 < k → Pnx P1 = nI 0) ∧ ∀ i, i < k → Pkd P1 i = Pkd O (tN (Od i)) ∧ Plg P1 i = Plg O (tN (Od i)) ∧ Pwh P1 i = nI 0
theorem L_lu (O : pS) (Od : Nat → Int32) (n : Nat) (hn : tN (Psz O) = n) (h6 : n ≤ 6) (hO : ∀ j, j < n → 0 ≤ Od j ∧ tN (Od j) < n) : ∀ (f k : Nat) (P1 : pS), n - k < f → k ≤ n → luI O Od k P1 → luI O Od n (F_X2_lineUp_L18 f O Od k P1).2
  | 0, _, _, h, _, _ => by omega
  | f + 1, k, P1, h, hk, hI => by
    rw [F_X2_lineUp_L18, hn]
    by_cases c : n ≤ k
    · rw [if_pos c]
      rw [show k = n by omega] at hI
      exact hI
    · rw [if_neg c, if_neg (by omega)]
      obtain ⟨o1, o2⟩ := hO k (by omega)
      have hw : F_X5_within (Od k) (nI 0) (nI n - nI 1) = true := by
        rw [pk_sub (by omega), within_iff, tN_eq o1]
        exact ⟨(nI_leI (by decide) (tN_lt _)).mpr (Nat.zero_le _), (nI_leI (tN_lt _) (by omega)).mpr (by omega)⟩
      rw [if_pos hw]
      simp only [let2]
      refine L_lu O Od n hn h6 hO f (k + 1) _ (by omega) (by omega) ?_
      obtain ⟨i1, i2, i3, i4, i5, i6⟩ := hI
      have ts : tN (Psz P1) = k := by rw [i1]; exact tN_nI (by omega)
      unfold F_X2_join
      rw [ts, if_pos (by omega)]
      have cells : ∀ i, i < k + 1 → upd (Pkd P1) k (Pkd O (tN (Od k))) i = Pkd O (tN (Od i)) ∧ upd (Plg P1) k (Plg O (tN (Od k))) i = Plg O (tN (Od i)) ∧ upd (Pwh P1) k (nI 0) i = nI 0 := fun i hi => by
        by_cases z : i = k
        · rw [z, pk_us, pk_us, pk_us]; exact ⟨rfl, rfl, rfl⟩
        · rw [pk_un z, pk_un z, pk_un z]; exact i6 i (by omega)
      by_cases d : k = 0
      · rw [i4 d, if_neg (by decide)]
        exact ⟨rfl, i2, i3, fun z => by omega, fun _ => by show nI k = nI 0; rw [d], cells⟩
      · rw [i5 (by omega), if_pos (by decide)]
        exact ⟨rfl, i2, i3, fun z => by omega, fun _ => rfl, cells⟩
theorem lineUp_I {O T : pS} {Od : Nat → Int32} {n : Nat} (hn : tN (Psz O) = n) (h6 : n ≤ 6) (hO : ∀ j, j < n → 0 ≤ Od j ∧ tN (Od j) < n) : luI O Od n (F_X2_lineUp T O Od) := by
  unfold F_X2_lineUp F_X2_begin
  simp only [let1, let2]
  exact L_lu O Od n hn h6 hO 7 0 _ (by omega) (Nat.zero_le _) ⟨rfl, rfl, rfl, fun _ => rfl, fun z => by omega, fun i z => by omega⟩
theorem L_sl6 {w li : Nat → Int32} {n : Nat} (hn : tN (w 0) = n) (h6 : n ≤ 6) (hl : ∀ j, j < n → tN (li j) < n) : ∀ (f k : Nat) (w1 : Nat → Int32), (∀ j, j < 592 → w1 j = w j) → n - k < f → k ≤ n → (∀ i, k ≤ i → i < n → (F_X6_scoreInLine_L6 f w li k w1).2 (i + 597) = w (tN (li i) + 5) ∧ (F_X6_scoreInLine_L6 f w li k w1).2 (i + 603) = w (tN (li i) + 11) ∧ (F_X6_scoreInLine_L6 f w li k w1).2 (i + 609) = nI 0) ∧ (∀ i, i < k → (F_X6_scoreInLine_L6 f w li k w1).2 (i + 597) = w1 (i + 597) ∧ (F_X6_scoreInLine_L6 f w li k w1).2 (i + 603) = w1 (i + 603) ∧ (F_X6_scoreInLine_L6 f w li k w1).2 (i + 609) = w1 (i + 609))
  | 0, _, _, _, h, _ => by omega
  | f + 1, k, w1, hw, hf, hk => by
    rw [F_X6_scoreInLine_L6, hn]
    by_cases c : n ≤ k
    · rw [if_pos c]
      exact ⟨fun i a b => by omega, fun i _ => ⟨rfl, rfl, rfl⟩⟩
    · rw [if_neg c]
      have l := hl k (by omega)
      have e2 : upd w1 (k + 597) (w1 (tN (li k) + 5)) (tN (li k) + 11) = w (tN (li k) + 11) := by rw [pk_un (by omega), hw _ (by omega)]
      rw [e2, hw (tN (li k) + 5) (by omega)]
      obtain ⟨a1, a2⟩ := L_sl6 hn h6 hl f (k + 1) (upd (upd (upd w1 (k + 597) (w (tN (li k) + 5))) (k + 603) (w (tN (li k) + 11))) (k + 609) (nI 0)) (fun j hj => by rw [pk_un (by omega), pk_un (by omega), pk_un (by omega), hw j hj]) (by omega) (by omega)
      refine ⟨fun i x y => ?_, fun i x => ?_⟩
      · by_cases z : i = k
        · subst z
          obtain ⟨b1, b2, b3⟩ := a2 i (by omega)
          rw [b1, b2, b3]
          refine ⟨?_, ?_, ?_⟩
          · rw [pk_un (by omega), pk_un (by omega), pk_us]
          · rw [pk_un (by omega), pk_us]
          · rw [pk_us]
        · exact a1 i (by omega) y
      · obtain ⟨b1, b2, b3⟩ := a2 i (by omega)
        rw [b1, b2, b3]
        refine ⟨?_, ?_, ?_⟩
        · rw [pk_un (by omega), pk_un (by omega), pk_un (by omega)]
        · rw [pk_un (by omega), pk_un (by omega), pk_un (by omega)]
        · rw [pk_un (by omega), pk_un (by omega), pk_un (by omega)]
theorem inLine_eq {w w1 : Nat → Int32} {P T : pS} {Rw : Nat → Int32} {No Ma Pa : rS} (h : relF w P Rw No Ma Pa) (hk : ∀ j, j < 592 → w1 j = w j) {li u : Nat → Int32} (h1 : 1 ≤ tN (Psz P)) (hl : ∀ j, j < tN (Psz P) → 0 ≤ li j ∧ tN (li j) < tN (Psz P)) (hu : ∀ j, j < 6 → u j = li j) {n : Nat} (hn : n ≤ 8) : (F_X2_playHits (F_X2_lineUp T P u) Rw n).1 = (F_X6_scoreInLine w1 li n).1 ∧ inB (F_X6_scoreInLine w1 li n).1 126 ∧ ∀ j, j < 592 → (F_X6_scoreInLine w1 li n).2 j = w j := by
  obtain ⟨p0, p1, p2, p4, pi⟩ := rp0 h.1.1
  have hs := h.1.2.1.1
  have h6 := hs.2
  have w0 : tN (w1 0) = tN (Psz P) := by rw [hk 0 (by decide), p0]
  have hI := lineUp_I (O := P) (T := T) (Od := u) rfl h6 (fun j hj => by rw [hu j (by omega)]; exact hl j hj)
  have tk : ∀ j, j < 592 → F_X6_tries w1 j = w1 j := fun j hj => by rw [tries_at, if_neg (by omega)]
  have K := L_scoreInLine w1 li 7 0 (F_X6_tries w1)
  have S : (∀ i, i < tN (Psz P) → (F_X6_scoreInLine_L6 7 w1 li 0 (F_X6_tries w1)).2 (i + 597) = w1 (tN (li i) + 5) ∧ (F_X6_scoreInLine_L6 7 w1 li 0 (F_X6_tries w1)).2 (i + 603) = w1 (tN (li i) + 11) ∧ (F_X6_scoreInLine_L6 7 w1 li 0 (F_X6_tries w1)).2 (i + 609) = nI 0) := fun i hi => (L_sl6 w0 h6 (fun j hj => (hl j hj).2) 7 0 (F_X6_tries w1) tk (by omega) (Nat.zero_le _)).1 i (Nat.zero_le _) hi
  unfold F_X6_scoreInLine
  simp only [let1, let2]
  generalize (F_X6_scoreInLine_L6 7 w1 li 0 (F_X6_tries w1)).2 = v at K S ⊢
  generalize F_X2_lineUp T P u = Q at hI ⊢
  obtain ⟨i1, i2, i3, -, i5, i6⟩ := hI
  have ts : tN (Psz Q) = tN (Psz P) := by rw [i1]; exact tN_nI (tN_lt _)
  have tq : ∀ k, k < 5 → v (592 + k) = w k := fun k hq => by rw [K _ (by omega), tries_at, if_pos (by omega), show 592 + k - 592 = k by omega, hk k (by omega)]
  have hR : relP 592 (upd v 594 (nI 0)) Q := by
    refine ⟨?_, ?_, ?_, ?_, fun i hi => ?_⟩
    · rw [pk_un (by omega), tq 0 (by omega), i1, p0]; exact tN_eq hs.1
    · rw [pk_un (by omega), tq 1 (by omega), i2, p1]
    · rw [i5 h1]; exact pk_us
    · rw [pk_un (by omega), tq 4 (by omega), i3, p4]
    · rw [ts] at hi
      obtain ⟨a1, a2, a3⟩ := S i hi
      obtain ⟨b1, b2, b3⟩ := i6 i hi
      have l := (hl i hi).2
      rw [pk_un (by omega), pk_un (by omega), pk_un (by omega), show 592 + i + 5 = i + 597 by omega, show 592 + i + 11 = i + 603 by omega, show 592 + i + 17 = i + 609 by omega, a1, a2, a3, b1, b2, b3, hu i (by omega), hk _ (by omega), hk _ (by omega)]
      exact ⟨(pi _ l).1, (pi _ l).2.1, rfl⟩
  have hw : wfP Q := by
    refine ⟨by rw [i1]; exact inB_nI h6 (by decide), by rw [i2]; exact h.1.2.1.2.1, Or.inr ?_, fun i hi => ?_⟩
    · rw [i5 h1, ts]
      refine ⟨nI_pos' (by decide), h1, ?_⟩
      exact (i6 0 h1).2.2
    · rw [ts] at hi
      obtain ⟨b1, b2, b3⟩ := i6 i hi
      have l := (hl i hi).2
      rw [b1, b2, b3, hu i (by omega)]
      have z := h.1.2.1.2.2.2 _ l
      exact ⟨z.1, z.2.1, inB_nI (by decide) (by decide)⟩
  have hW : relW (upd v 594 (nI 0)) Rw := relW_keep (fun j a b => by rw [pk_un (by omega), K _ (by omega), tk _ (by omega), hk _ (by omega)]) h.2.1
  have ST := stR (n := n) hR hw
  refine ⟨?_, ST.2, fun j hj => by rw [ST.1 j hj, pk_un (by omega), K _ (by omega), tk _ hj, hk _ hj]⟩
  unfold F_X2_playHits F_X6_scoreTried
  simp only [let3]
  exact L_play Rw n hn (n + 1) 9 0 0 _ Q hR hw (by rw [i3]; exact h.1.2.2.2.2) hW (by omega) (by omega) (Nat.zero_le _)
theorem L_o86 {ms r : Int32} {LL : List Nat} : ∀ (f e2 : Nat) (f2 : Nat → Int32), 6 - e2 < f → ∀ j, j < 6 → (F_X6_order_L86 f ms LL r e2 f2).2 j = if nI (tN r) ≤ ms then f2 j else if e2 ≤ j then ar LL j else f2 j
  | 0, _, _, h => by omega
  | f + 1, e2, f2, h => by
    intro j hj
    rw [F_X6_order_L86]
    by_cases c : 6 ≤ e2
    · rw [if_pos c, if_neg (by omega : ¬ e2 ≤ j)]
      split <;> rfl
    · rw [if_neg c]
      by_cases d : nI (tN r) ≤ ms
      · rw [if_pos d, if_pos d]
      · rw [if_neg d, L_o86 f (e2 + 1) _ (by omega) j hj, if_neg d, if_neg d]
        by_cases z : j = e2
        · rw [z, if_neg (by omega), if_pos (Nat.le_refl _), pk_us]
        · rw [pk_un z]
          by_cases y : e2 + 1 ≤ j
          · rw [if_pos y, if_pos (by omega)]
          · rw [if_neg y, if_neg (by omega)]
theorem ar_in {n : Nat} {L : List Nat} (h : ∀ j, j < n → L.getD j 0 < n) (hn : n ≤ 6) : ∀ j, j < n → 0 ≤ ar L j ∧ tN (ar L j) < n := by
  intro j hj
  have := h j hj
  unfold ar
  rw [tN_nI (by omega)]
  exact ⟨nI_pos' (by omega), this⟩
theorem L_ord {w : Nat → Int32} {P : pS} {Rw : Nat → Int32} {No Ma Pa : rS} (h : relF w P Rw No Ma Pa) (h1 : 1 ≤ tN (Psz P)) (n : Int32) (hn : tN n ≤ 8) : ∀ (fu td f f' : Nat) (LL : List Nat) (ms : Int32) (w1 : Nat → Int32) (T1 : pS) (u1 b1 f1 : Nat → Int32), rmo (tN (Psz P)) fu LL = true → td + fu = 720 → fu < f → fu + 1 < f' → (∀ j, j < 6 → u1 j = ar LL j) → (∀ j, j < 592 → w1 j = w j) → (ms = -1 ∨ ∀ j, j < 6 → b1 j = f1 j) → (F_X5_findBestTurn_L41 f (tN n) P Rw td ms T1 u1 b1).2.1 = (F_X6_order_L71 f' n w true ms w1 LL f1 fu).2.1 ∧ (∀ j, j < 6 → (F_X5_findBestTurn_L41 f (tN n) P Rw td ms T1 u1 b1).2.2.2.2 j = (F_X6_order_L71 f' n w true ms w1 LL f1 fu).2.2.2.2.1 j) ∧ ∀ j, j < 592 → (F_X6_order_L71 f' n w true ms w1 LL f1 fu).2.2.1 j = w j
  | 0, _, _, _, _, _, _, _, _, _, _, hr, _, _, _, _, _, _ => by cases hr
  | fu + 1, _, 0, _, _, _, _, _, _, _, _, _, _, h, _, _, _, _ => by omega
  | fu + 1, _, _ + 1, 0, _, _, _, _, _, _, _, _, _, _, h, _, _, _ => by omega
  | fu + 1, td, f + 1, f' + 1, LL, ms, w1, T1, u1, b1, f1, hr, htd, hf, hf', hu, hk, hb => by
    obtain ⟨p0, p1, p2, p4, pi⟩ := rp0 h.1.1
    have h6 := h.1.2.1.1.2
    rw [rmo, Bool.and_eq_true] at hr
    obtain ⟨hs, hr2⟩ := hr
    obtain ⟨s1, s2, s3⟩ := sameL_at hs
    have E := inLine_eq (T := T1) h hk h1 (ar_in s3 h6) hu hn
    rw [F_X5_findBestTurn_L41, F_X6_order_L71, if_neg (by omega), if_pos rfl, p0]
    simp only [let1, let2]
    rw [E.1]
    have B86 := fun g => L_o86 (ms := ms) (r := (F_X6_scoreInLine w1 (ar LL) (tN n)).1) (LL := LL) 7 0 g (by decide)
    have re := tN_eq E.2.1.1
    rw [← re] at B86 ⊢
    generalize F_X6_scoreInLine w1 (ar LL) (tN n) = Y at E B86 ⊢
    obtain ⟨r, w2⟩ := Y
    simp only at E B86 ⊢
    generalize hf2 : (F_X6_order_L86 7 ms LL r 0 f1).2 = f2
    have hB := B86 f1
    rw [hf2] at hB
    have RC := rise_cong hu h6
    have nx : (F_X5_riseTurn u1 (tN (Psz P))).1 = (F_X6_nextLine (ar LL) (tN (Psz P))).1 := by rw [RC.1, s1]
    have nu : ∀ j, j < 6 → (F_X5_riseTurn u1 (tN (Psz P))).2 j = ar (nrm (F_X6_nextLine (ar LL) (tN (Psz P))).2) j := fun j hj => by rw [RC.2 j hj, s2 j hj]
    rw [nx]
    generalize (F_X5_riseTurn u1 (tN (Psz P))).2 = u2 at nu ⊢
    generalize F_X6_nextLine (ar LL) (tN (Psz P)) = Z at nu hr2 ⊢
    obtain ⟨z, li⟩ := Z
    simp only at nu hr2 ⊢
    have fin : ∀ (ms' : Int32) (b' : Nat → Int32) (T' : pS), (∀ j, j < 6 → b' j = f2 j) → (if z = true then F_X5_findBestTurn_L41 f (tN n) P Rw (td + 1) ms' T' u2 b' else (td, ms', T', u2, b')).2.1 = (F_X6_order_L71 f' n w z ms' w2 (nrm li) f2 (fu + 1 - 1)).2.1 ∧ (∀ j, j < 6 → (if z = true then F_X5_findBestTurn_L41 f (tN n) P Rw (td + 1) ms' T' u2 b' else (td, ms', T', u2, b')).2.2.2.2 j = (F_X6_order_L71 f' n w z ms' w2 (nrm li) f2 (fu + 1 - 1)).2.2.2.2.1 j) ∧ ∀ j, j < 592 → (F_X6_order_L71 f' n w z ms' w2 (nrm li) f2 (fu + 1 - 1)).2.2.1 j = w j := by
      intro ms' b' T' hq
      rw [Nat.add_sub_cancel]
      cases z with
      | true =>
        rw [if_pos rfl] at hr2
        rw [if_pos rfl]
        exact L_ord h h1 n hn fu (td + 1) f f' (nrm li) ms' w2 T' u2 b' f2 hr2 (by omega) (by omega) (by omega) nu E.2.2 (Or.inr hq)
      | false =>
        rw [if_neg (by decide)]
        cases f' with
        | zero => omega
        | succ g =>
          rw [F_X6_order_L71, if_neg (by decide)]
          exact ⟨rfl, hq, E.2.2⟩
    by_cases d : r ≤ ms
    · rw [if_pos d, if_pos d]
      refine fin ms b1 _ (fun j hj => ?_)
      rw [hB j hj, if_pos d]
      rcases hb with q | q
      · exfalso
        rw [q] at d
        have d1 := Int32.le_iff_toInt_le.mp d
        have d2 := Int32.le_iff_toInt_le.mp E.2.1.1
        have e1 : (-1 : Int32).toInt = -1 := by decide
        have e0 : (0 : Int32).toInt = 0 := by decide
        omega
      · exact q j hj
    · rw [if_neg d, if_neg d]
      refine fin r _ _ (fun j hj => ?_)
      rw [hB j hj, if_neg d, if_pos (Nat.zero_le _), pk_cpy_in (Nat.zero_le _) (by omega), Nat.zero_add, Nat.sub_zero, hu j hj]
theorem L_o16 : ∀ (f k : Nat) (u0 : Nat → Int32), 6 - k < f → (∀ j, j < k → u0 j = nI j) → k ≤ 6 → ∀ j, j < 6 → (F_X5_findBestTurn_L16 f k u0).2 j = nI j
  | 0, _, _, h, _, _ => by omega
  | f + 1, k, u0, h, hu, hk => by
    rw [F_X5_findBestTurn_L16]
    by_cases c : 6 ≤ k
    · rw [if_pos c]
      intro j hj
      exact hu j (by omega)
    · rw [if_neg c]
      exact L_o16 f (k + 1) _ (by omega) (idl_step hu) (by omega)
theorem order0 {P : pS} {Rw : Nat → Int32} {Tr : pS} {u b : Nat → Int32} {n : Nat} (h0 : tN (Psz P) = 0) : (F_X5_findBestTurn_L41 721 n P Rw 0 (-1) Tr u b).2.1 = nI 0 := by
  rw [F_X5_findBestTurn_L41, if_neg (by decide)]
  simp only [let1, let2]
  have hI := lineUp_I (O := P) (T := Tr) (Od := u) h0 (by decide) (fun j hj => by omega)
  have hd : F_X2_isDone (F_X2_lineUp Tr P u) = true := by
    unfold F_X2_isDone
    rw [hI.2.2.2.1 rfl, if_pos (by decide)]
  have hp : (F_X2_playHits (F_X2_lineUp Tr P u) Rw n).1 = nI 0 := by
    unfold F_X2_playHits
    simp only [let3]
    rw [F_X2_playHits_L5]
    by_cases c : n ≤ 0
    · rw [if_pos c]
    · rw [if_neg c, if_neg (by decide)]
      simp only [let1]
      rw [hd, if_pos rfl]
  have hr : (F_X5_riseTurn u (tN (Psz P))).1 = false := by
    rw [h0]
    unfold F_X5_riseTurn
    simp only [let1]
    have e4 : F_X5_riseTurn_L4 7 u 0 = 0 := by
      rw [F_X5_riseTurn_L4, if_pos (show nI 0 - nI 2 < 0 from by decide)]
    rw [e4, if_neg (show ¬ 0 ≤ nI 0 - nI 2 from by decide)]
  rw [hp, if_neg (by decide), hr, if_neg (by decide)]
theorem order_eq {w su li fi : Nat → Int32} {P Tr : pS} {Rw : Nat → Int32} {No Ma Pa : rS} (h : relF w P Rw No Ma Pa) (Tu Be : Nat → Int32) (n k : Int32) : (F_X6_order w su li fi n k).1 = (F_X5_order P Rw su Tr Tu Be n k).1 ∧ (F_X6_order w su li fi n k).2.2.2.2 = (F_X5_order P Rw su Tr Tu Be n k).2.2.2.2 ∧ ∀ j, j < 592 → (F_X6_order w su li fi n k).2.1 j = w j := by
  obtain ⟨p0, p1, p2, p4, pi⟩ := rp0 h.1.1
  have hs := h.1.2.1.1
  have h6 := hs.2
  unfold F_X6_order F_X5_order F_X5_findBestTurn
  simp only [let2, let4, let5, let6]
  rw [iw n (a := 1) (b := 8) (lo := nI 1) (hi := nI 8) (by decide) (by decide), ref_bad, p0]
  by_cases c : F_X5_within n (nI 1) (nI 8) = true
  · rw [if_pos c, if_pos c]
    obtain ⟨c0, -, c2⟩ := within_nat (by decide) (by decide) c
    by_cases d : (-1 : Int32) ≤ k
    · rw [if_pos d, if_pos d]
      have U16 := L_o16 7 0 Tu (by decide) (fun j hj => by omega) (by decide)
      generalize (F_X5_findBestTurn_L16 7 0 Tu).2 = u0 at U16 ⊢
      by_cases z : tN (Psz P) = 0
      · rw [if_pos z]
        by_cases y : k = -1
        · rw [if_pos y, z, if_pos (by rw [y]; decide), if_neg (by rw [y]; decide)]
          exact ⟨(order0 z).symm, rfl, fun _ _ => rfl⟩
        · have k0 := ge_m1 d y
          rw [if_neg y, z, if_neg (fun q => by
            rw [tN_eq k0] at q
            have := (nI_ltI (tN_lt _) (by decide)).mp q
            omega)]
          exact ⟨rfl, rfl, fun _ _ => rfl⟩
      · rw [if_neg z]
        have A := L_ord h (by omega) n c2 720 0 721 722 [0, 1, 2, 3, 4, 5] (-1) w Tr u0 Be fi (rmo_ok (by omega) h6) rfl (by decide) (by decide) (fun j hj => by rw [U16 j hj]; exact idl_ar (l := fun j => nI j) (k := 6) (by decide) (fun _ _ => rfl) j hj) (fun _ _ => rfl) (Or.inl rfl)
        generalize F_X5_findBestTurn_L41 721 (tN n) P Rw 0 (-1) Tr u0 Be = Y at A ⊢
        generalize F_X6_order_L71 722 n w true (-1) w [0, 1, 2, 3, 4, 5] fi 720 = Z at A ⊢
        obtain ⟨A1, A2, A3⟩ := A
        by_cases y : k = -1
        · rw [if_pos y, if_pos (by rw [y]; exact Int32.lt_iff_toInt_lt.mpr (by rw [nI_toInt (tN_lt _), show (-1 : Int32).toInt = -1 from by decide]; omega)), if_neg (by rw [y]; decide)]
          exact ⟨A1.symm, rfl, A3⟩
        · have k0 := ge_m1 d y
          have kl : k < nI (tN (Psz P)) ↔ tN k < tN (Psz P) := by
            conv => lhs; rw [tN_eq k0]
            exact nI_ltI (tN_lt _) (tN_lt _)
          rw [if_neg y]
          by_cases x : tN (Psz P) ≤ tN k
          · rw [if_pos x, if_neg (fun q => by have := kl.mp q; omega)]
            exact ⟨rfl, rfl, A3⟩
          · rw [if_neg x, if_pos (kl.mpr (by omega)), if_pos k0]
            exact ⟨(A2 _ (by omega)).symm, rfl, A3⟩
    · rw [if_neg d, if_neg d]
      exact ⟨rfl, rfl, fun _ _ => rfl⟩
  · rw [if_neg c, if_neg c]
    exact ⟨rfl, rfl, fun _ _ => rfl⟩
