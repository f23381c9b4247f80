theorem L_sy11 {w : Nat → Int32} {P : pS} {Rw : Nat → Int32} {No Ma Pa : rS} (h : relF w P Rw No Ma Pa) {nx : Int32} (hwx : wfP (Pbo P, Psz P, Pkd P, Plg P, Pwh P, nx, Ppt P, Pbl P)) (n : Nat) (hn : n ≤ 4) : ∀ (a f row sm : Nat) (w1 : Nat → Int32), (∀ j, j < 592 → w1 j = w j) → row + a = 10 ^ n → a < f → (F_X6_sumBy_L11 f nx n row sm w1).2.1 = sm + sumN (fun i => 0 + scR n (upd (F_X6_tries w) 594 nx) (row + i)) a ∧ ∀ j, j < 592 → (F_X6_sumBy_L11 f nx n row sm w1).2.2 j = w j
  | _, 0, _, _, _, _, _, h => by omega
  | 0, f + 1, row, sm, w1, hk, e, _ => by
    rw [F_X6_sumBy_L11, if_pos (by omega)]
    exact ⟨rfl, hk⟩
  | a + 1, f + 1, row, sm, w1, hk, e, hf => by
    have hs := h.1.2.1.1
    have hR := relP_upn (b := nx) (tries_rel (w1 := w1) (fun j hj => hk j (by omega)) h.1.1 hs) hs
    have hR0 := relP_upn (b := nx) (tries_rel (w1 := w) (fun j hj => rfl) h.1.1 hs) hs
    have hb : inB (Pbl (Pbo P, Psz P, Pkd P, Plg P, Pwh P, nx, Ppt P, Pbl P)) 9999 := h.1.2.2.2.2
    have sc := scR_cong n (upd (F_X6_tries w1) 594 nx) (upd (F_X6_tries w) 594 nx) _ 9999 row hR hR0 hwx hb (by omega)
    have sl := scR_le n (upd (F_X6_tries w) 594 nx) _ 9999 row hR0 hwx hb (by omega)
    have K : ∀ j, j < 592 → (F_X6_scoreBy (upd (F_X6_tries w1) 594 nx) row n).2 j = w j := fun j hj => by rw [sb_keep hR hwx j hj, pk_un (by omega), tries_at, if_neg (by omega), hk j hj]
    have sh := sum_sh (fun row => 0 + scR n (upd (F_X6_tries w) 594 nx) row) row a
    rw [F_X6_sumBy_L11, if_neg (by omega)]
    simp only [let1, let2]
    rw [sh, scoreBy_R hn, sc, tN_nI (by omega), Nat.zero_add]
    have ih := L_sy11 h hwx n hn a f (row + 1) (sm + scR n (upd (F_X6_tries w) 594 nx) row) _ K (by omega) (by omega)
    refine ⟨?_, ih.2⟩
    rw [ih.1, Nat.add_assoc]
theorem sumBy_r {w : Nat → Int32} {P : pS} {Rw : Nat → Int32} {No Ma Pa : rS} (h : relF w P Rw No Ma Pa) {nx : Int32} (hwx : wfP (Pbo P, Psz P, Pkd P, Plg P, Pwh P, nx, Ppt P, Pbl P)) {w1 : Nat → Int32} (hk : ∀ j, j < 592 → w1 j = w j) {n : Nat} (hn : n ≤ 4) : (F_X6_sumBy w1 nx n).1 = nI (TR (fun g => g) n (upd (F_X6_tries w) 594 nx) 0) ∧ (∀ j, j < 592 → (F_X6_sumBy w1 nx n).2 j = w j) ∧ TR (fun g => g) n (upd (F_X6_tries w) 594 nx) 0 ≤ 560000 := by
  have p4 : 10 ^ n ≤ 10 ^ 4 := Nat.pow_le_pow_right (by decide) hn
  have L := L_sy11 h hwx n hn (10 ^ n) 10001 0 0 w1 hk (Nat.zero_add _) (by omega)
  have hs := h.1.2.1.1
  have hR0 := relP_upn (b := nx) (tries_rel (w1 := w) (fun j hj => rfl) h.1.1 hs) hs
  have hb : inB (Pbl (Pbo P, Psz P, Pkd P, Plg P, Pwh P, nx, Ppt P, Pbl P)) 9999 := h.1.2.2.2.2
  have up := TR_le (f := fun g => g) (n := n) (w := upd (F_X6_tries w) 594 nx) (b := 56) (fun row _ => by
    have sl := scR_le n (upd (F_X6_tries w) 594 nx) _ 9999 row hR0 hwx hb (by omega)
    show 0 + scR n (upd (F_X6_tries w) 594 nx) row ≤ 56
    omega)
  refine ⟨?_, ?_, by omega⟩
  · unfold F_X6_sumBy
    simp only [let3]
    rw [L.1, Nat.zero_add]
    refine congrArg nI ?_
    exact sumN_cong _ (fun i _ => by rw [Nat.zero_add i])
  · unfold F_X6_sumBy
    simp only [let3]
    exact L.2
theorem me5_0 (X : xS) (P : pS) (su : Nat → Int32) (L0 L1 L2 L3 L4 : pS) (W1 W2 W3 W4 Cs : Nat → Int32) (n : Int32) (c : F_X5_within n (nI 0) (nI 4) = true) (z0 : tN n = 0) : F_X5_mean X P su L0 L1 L2 L3 L4 W1 W2 W3 W4 Cs n = (nI 1, F_X5_keepFraction X (F_X0_sumOfGains (F_X0_spread_v0 L0 Cs P).2).toInt64 (nI 1).toInt64, su, (F_X0_spread_v0 L0 Cs P).1, L1, L2, L3, L4, W1, W2, W3, W4, (F_X0_spread_v0 L0 Cs P).2) := by
  unfold F_X5_mean
  rw [if_pos c, if_pos z0, let2_eq, let1_mk, let1_mk]
theorem me5_1 (X : xS) (P : pS) (su : Nat → Int32) (L0 L1 L2 L3 L4 : pS) (W1 W2 W3 W4 Cs : Nat → Int32) (n : Int32) (c : F_X5_within n (nI 0) (nI 4) = true) (z0 : ¬ tN n = 0) (z1 : tN n = 1) : F_X5_mean X P su L0 L1 L2 L3 L4 W1 W2 W3 W4 Cs n = (nI 1, F_X5_keepFraction X (F_X0_sumOfGains (F_X0_spread_v1 L0 L1 W1 Cs P).2.2.2).toInt64 (nI 10).toInt64, su, (F_X0_spread_v1 L0 L1 W1 Cs P).1, (F_X0_spread_v1 L0 L1 W1 Cs P).2.1, L2, L3, L4, (F_X0_spread_v1 L0 L1 W1 Cs P).2.2.1, W2, W3, W4, (F_X0_spread_v1 L0 L1 W1 Cs P).2.2.2) := by
  unfold F_X5_mean
  rw [if_pos c, if_neg z0, if_pos z1, let4_eq, let1_mk, let1_mk]
theorem me5_2 (X : xS) (P : pS) (su : Nat → Int32) (L0 L1 L2 L3 L4 : pS) (W1 W2 W3 W4 Cs : Nat → Int32) (n : Int32) (c : F_X5_within n (nI 0) (nI 4) = true) (z0 : ¬ tN n = 0) (z1 : ¬ tN n = 1) (z2 : tN n = 2) : F_X5_mean X P su L0 L1 L2 L3 L4 W1 W2 W3 W4 Cs n = (nI 1, F_X5_keepFraction X (F_X0_sumOfGains (F_X0_spread_v2 L0 L1 L2 W1 W2 Cs P).2.2.2.2.2).toInt64 (nI 100).toInt64, su, (F_X0_spread_v2 L0 L1 L2 W1 W2 Cs P).1, (F_X0_spread_v2 L0 L1 L2 W1 W2 Cs P).2.1, (F_X0_spread_v2 L0 L1 L2 W1 W2 Cs P).2.2.1, L3, L4, (F_X0_spread_v2 L0 L1 L2 W1 W2 Cs P).2.2.2.1, (F_X0_spread_v2 L0 L1 L2 W1 W2 Cs P).2.2.2.2.1, W3, W4, (F_X0_spread_v2 L0 L1 L2 W1 W2 Cs P).2.2.2.2.2) := by
  unfold F_X5_mean
  rw [if_pos c, if_neg z0, if_neg z1, if_pos z2, let6_eq, let1_mk, let1_mk]
theorem me5_3 (X : xS) (P : pS) (su : Nat → Int32) (L0 L1 L2 L3 L4 : pS) (W1 W2 W3 W4 Cs : Nat → Int32) (n : Int32) (c : F_X5_within n (nI 0) (nI 4) = true) (z0 : ¬ tN n = 0) (z1 : ¬ tN n = 1) (z2 : ¬ tN n = 2) (z3 : tN n = 3) : F_X5_mean X P su L0 L1 L2 L3 L4 W1 W2 W3 W4 Cs n = (nI 1, F_X5_keepFraction X (F_X0_sumOfGains (F_X0_spread_v3 L0 L1 L2 L3 W1 W2 W3 Cs P).2.2.2.2.2.2.2).toInt64 (nI 1000).toInt64, su, (F_X0_spread_v3 L0 L1 L2 L3 W1 W2 W3 Cs P).1, (F_X0_spread_v3 L0 L1 L2 L3 W1 W2 W3 Cs P).2.1, (F_X0_spread_v3 L0 L1 L2 L3 W1 W2 W3 Cs P).2.2.1, (F_X0_spread_v3 L0 L1 L2 L3 W1 W2 W3 Cs P).2.2.2.1, L4, (F_X0_spread_v3 L0 L1 L2 L3 W1 W2 W3 Cs P).2.2.2.2.1, (F_X0_spread_v3 L0 L1 L2 L3 W1 W2 W3 Cs P).2.2.2.2.2.1, (F_X0_spread_v3 L0 L1 L2 L3 W1 W2 W3 Cs P).2.2.2.2.2.2.1, W4, (F_X0_spread_v3 L0 L1 L2 L3 W1 W2 W3 Cs P).2.2.2.2.2.2.2) := by
  unfold F_X5_mean
  rw [if_pos c, if_neg z0, if_neg z1, if_neg z2, if_pos z3, let8_eq, let1_mk, let1_mk]
theorem me5_4 (X : xS) (P : pS) (su : Nat → Int32) (L0 L1 L2 L3 L4 : pS) (W1 W2 W3 W4 Cs : Nat → Int32) (n : Int32) (c : F_X5_within n (nI 0) (nI 4) = true) (z0 : ¬ tN n = 0) (z1 : ¬ tN n = 1) (z2 : ¬ tN n = 2) (z3 : ¬ tN n = 3) : F_X5_mean X P su L0 L1 L2 L3 L4 W1 W2 W3 W4 Cs n = (nI 1, F_X5_keepFraction X (F_X0_sumOfGains (F_X0_spread_v4 L0 L1 L2 L3 L4 W1 W2 W3 W4 Cs P).2.2.2.2.2.2.2.2.2).toInt64 (nI 10000).toInt64, su, (F_X0_spread_v4 L0 L1 L2 L3 L4 W1 W2 W3 W4 Cs P).1, (F_X0_spread_v4 L0 L1 L2 L3 L4 W1 W2 W3 W4 Cs P).2.1, (F_X0_spread_v4 L0 L1 L2 L3 L4 W1 W2 W3 W4 Cs P).2.2.1, (F_X0_spread_v4 L0 L1 L2 L3 L4 W1 W2 W3 W4 Cs P).2.2.2.1, (F_X0_spread_v4 L0 L1 L2 L3 L4 W1 W2 W3 W4 Cs P).2.2.2.2.1, (F_X0_spread_v4 L0 L1 L2 L3 L4 W1 W2 W3 W4 Cs P).2.2.2.2.2.1, (F_X0_spread_v4 L0 L1 L2 L3 L4 W1 W2 W3 W4 Cs P).2.2.2.2.2.2.1, (F_X0_spread_v4 L0 L1 L2 L3 L4 W1 W2 W3 W4 Cs P).2.2.2.2.2.2.2.1, (F_X0_spread_v4 L0 L1 L2 L3 L4 W1 W2 W3 W4 Cs P).2.2.2.2.2.2.2.2.1, (F_X0_spread_v4 L0 L1 L2 L3 L4 W1 W2 W3 W4 Cs P).2.2.2.2.2.2.2.2.2) := by
  unfold F_X5_mean
  rw [if_pos c, if_neg z0, if_neg z1, if_neg z2, if_neg z3, let10_eq, let1_mk, let1_mk]
theorem me6 {w su : Nat → Int32} {P : pS} {Rw : Nat → Int32} {No Ma Pa : rS} (h : relF w P Rw No Ma Pa) (ab be : Int64) (n : Int32) (c : F_X5_within n (nI 0) (nI 4) = true) : ∃ w2 : Nat → Int32, F_X6_mean w ab be su n = let3 (F_X6_told (TR (fun g => g) (tN n) (upd (F_X6_tries w) 594 (Pnx P)) 0) (10 ^ tN n)) (fun r a b => (r, w2, a, b, su)) ∧ (∀ j, j < 592 → w2 j = w j) ∧ TR (fun g => g) (tN n) (upd (F_X6_tries w) 594 (Pnx P)) 0 ≤ 560000 := by
  obtain ⟨c0, -, c2⟩ := within_nat (by decide) (by decide) c
  obtain ⟨p0, p1, p2, p4, pi⟩ := rp0 h.1.1
  have hw := h.1.2.1
  obtain ⟨r1, r2, r3⟩ := sumBy_r h (nx := Pnx P) hw (w1 := w) (fun _ _ => rfl) c2
  unfold F_X6_mean
  rw [iw n (a := 0) (b := 4) (lo := nI 0) (hi := nI 4) (by decide) (by decide), if_pos c, p2]
  generalize F_X6_sumBy w (Pnx P) (tN n) = Y at r1 r2 ⊢
  obtain ⟨y0, w2⟩ := Y
  rw [let2_mk]
  have r4 : y0 = _ := r1
  rw [r4, tN_nI (by omega)]
  exact ⟨w2, rfl, r2, r3⟩
theorem mean_eq {w su : Nat → Int32} {P : pS} {Rw : Nat → Int32} {No Ma Pa : rS} (h : relF w P Rw No Ma Pa) (X : xS) (L0 L1 L2 L3 L4 : pS) (W1 W2 W3 W4 Cs : Nat → Int32) (n : Int32) : ∃ u : pS × pS × pS × pS × pS × (Nat → Int32) × (Nat → Int32) × (Nat → Int32) × (Nat → Int32) × (Nat → Int32), ∃ X2 w2 su2 r, F_X5_mean X P su L0 L1 L2 L3 L4 W1 W2 W3 W4 Cs n = (r, X2, su2, u) ∧ F_X6_mean w (Xab X) (Xbe X) su n = (r, w2, Xab X2, Xbe X2, su2) ∧ Xtl X2 = Xtl X ∧ ∀ j, j < 592 → w2 j = w j := by
  by_cases c : F_X5_within n (nI 0) (nI 4) = true
  · obtain ⟨c0, -, c2⟩ := within_nat (by decide) (by decide) c
    obtain ⟨w2, e6, hk, up⟩ := me6 (su := su) h (Xab X) (Xbe X) n c
    have hw := h.1.2.1
    have hR : relP 592 (upd (F_X6_tries w) 594 (Pnx P)) P := relP_upn (b := Pnx P) (tries_rel (w1 := w) (fun _ _ => rfl) h.1.1 hw.1) hw.1
    have hb := h.1.2.2.2.2
    by_cases z0 : tN n = 0
    · have s := SP_0 (f := fun g => g) L0 Cs hR hw hb
      rw [z0] at up
      rw [z0] at e6
      exact ch_end (me5_0 X P su L0 L1 L2 L3 L4 W1 W2 W3 W4 Cs n c z0) e6 (sumOfGains_C s) (show nI 1 = nI (10 ^ 0) from by decide) (by omega) (by decide) (by decide) hk
    by_cases z1 : tN n = 1
    · have s := SP_1 (f := fun g => g) L0 L1 W1 Cs hR hw hb
      rw [z1] at up
      rw [z1] at e6
      exact ch_end (me5_1 X P su L0 L1 L2 L3 L4 W1 W2 W3 W4 Cs n c z0 z1) e6 (sumOfGains_C s) (show nI 10 = nI (10 ^ 1) from by decide) (by omega) (by decide) (by decide) hk
    by_cases z2 : tN n = 2
    · have s := SP_2 (f := fun g => g) L0 L1 L2 W1 W2 Cs hR hw hb
      rw [z2] at up
      rw [z2] at e6
      exact ch_end (me5_2 X P su L0 L1 L2 L3 L4 W1 W2 W3 W4 Cs n c z0 z1 z2) e6 (sumOfGains_C s) (show nI 100 = nI (10 ^ 2) from by decide) (by omega) (by decide) (by decide) hk
    by_cases z3 : tN n = 3
    · have s := SP_3 (f := fun g => g) L0 L1 L2 L3 W1 W2 W3 Cs hR hw hb
      rw [z3] at up
      rw [z3] at e6
      exact ch_end (me5_3 X P su L0 L1 L2 L3 L4 W1 W2 W3 W4 Cs n c z0 z1 z2 z3) e6 (sumOfGains_C s) (show nI 1000 = nI (10 ^ 3) from by decide) (by omega) (by decide) (by decide) hk
    have z4 : tN n = 4 := by omega
    have s := SP_4 (f := fun g => g) L0 L1 L2 L3 L4 W1 W2 W3 W4 Cs hR hw hb
    rw [z4] at up
    rw [z4] at e6
    exact ch_end (me5_4 X P su L0 L1 L2 L3 L4 W1 W2 W3 W4 Cs n c z0 z1 z2 z3) e6 (sumOfGains_C s) (show nI 10000 = nI (10 ^ 4) from by decide) (by omega) (by decide) (by decide) hk
  · unfold F_X6_mean F_X5_mean
    rw [iw n (a := 0) (b := 4) (lo := nI 0) (hi := nI 4) (by decide) (by decide), ref_bad, if_neg c, if_neg c, let2_eq, let2_eq]
    exact ⟨_, _, _, _, _, rfl, rfl, rfl, fun _ _ => rfl⟩
/-! whom to send in -/
abbrev tC (P Tr : pS) (nx : Int32) : pS := (Pbo P, Psz P, va_cpy (Pkd P) (Pkd Tr) 0 0 6, va_cpy (Plg P) (Plg Tr) 0 0 6, va_cpy (Pwh P) (Pwh Tr) 0 0 6, nx, Ppt P, Pbl P)
theorem L_send {w : Nat → Int32} {P : pS} {Rw : Nat → Int32} {No Ma Pa : rS} (h : relF w P Rw No Ma Pa) (Tr : pS) (n : Int32) (hn1 : 1 ≤ tN n) (hn : tN n ≤ 3) : ∀ (f i : Nat) (bs ms : Int32) (w1 : Nat → Int32) (T1 M0 M1 M2 M3 : pS) (V1 V2 V3 cs : Nat → Int32), (∀ j, j < 592 → w1 j = w j) → (∀ nx : Int32, (Pbo T1, Psz T1, Pkd T1, Plg T1, Pwh T1, nx, Ppt T1, Pbl T1) = tC P Tr nx) → (F_X5_send_L37 f n i bs ms T1 M0 M1 M2 M3 V1 V2 V3 cs).2.1 = (F_X6_send_L26 f n w i bs ms w1).2.1 ∧ ∀ j, j < 592 → (F_X6_send_L26 f n w i bs ms w1).2.2.2 j = w j
  | 0, _, _, _, _, _, _, _, _, _, _, _, _, _, hk, _ => ⟨rfl, hk⟩
  | f + 1, i, bs, ms, w1, T1, M0, M1, M2, M3, V1, V2, V3, cs, hk, hT => by
    obtain ⟨p0, p1, p2, p4, pi⟩ := rp0 h.1.1
    have hw := h.1.2.1
    have h6 := hw.1.2
    have eS : Psz T1 = Psz P := by
      have q := congrArg (fun q : pS => Psz q) (hT 0)
      exact q
    have eW : Pwh T1 = va_cpy (Pwh P) (Pwh Tr) 0 0 6 := by
      have q := congrArg (fun q : pS => Pwh q) (hT 0)
      exact q
    rw [F_X5_send_L37, F_X6_send_L26, hT]
    rw [eS, p0]
    by_cases c : tN (Psz P) ≤ i
    · rw [if_pos c, if_pos c]
      exact ⟨rfl, hk⟩
    · rw [if_neg c, if_neg c, eW, pk_cpy_in (Nat.zero_le _) (by omega), Nat.zero_add, Nat.sub_zero, hk (i + 17) (by omega), (pi i (by omega)).2.2]
      by_cases d : Pwh P i = 0
      · rw [if_pos d, if_pos d]
        have hwx : wfP (Pbo P, Psz P, Pkd P, Plg P, Pwh P, nI i, Ppt P, Pbl P) := ⟨hw.1, hw.2.1, Or.inr ⟨nI_pos' (by omega), by show tN (nI i) < tN (Psz P); rw [tN_nI (by omega)]; omega, by show Pwh P (tN (nI i)) = 0; rw [tN_nI (by omega)]; exact d⟩, hw.2.2.2⟩
        obtain ⟨r1, r2, r3⟩ := sumBy_r h (nx := nI i) hwx (w1 := w1) hk (n := tN n) (by omega)
        have hR0 : relP 592 (upd (F_X6_tries w) 594 (nI i)) (Pbo P, Psz P, Pkd P, Plg P, Pwh P, nI i, Ppt P, Pbl P) := relP_upn (b := nI i) (tries_rel (w1 := w) (fun _ _ => rfl) h.1.1 hw.1) hw.1
        have hR : relP 592 (upd (F_X6_tries w) 594 (nI i)) (tC P Tr (nI i)) := relP_cpy (T := Tr) hw.1 hR0
        have hw2 : wfP (tC P Tr (nI i)) := wfP_cpy (T := Tr) hwx
        have hb : inB (Pbl (tC P Tr (nI i))) 9999 := h.1.2.2.2.2
        have hT2 : ∀ nx : Int32, (Pbo (tC P Tr (nI i)), Psz (tC P Tr (nI i)), Pkd (tC P Tr (nI i)), Plg (tC P Tr (nI i)), Pwh (tC P Tr (nI i)), nx, Ppt (tC P Tr (nI i)), Pbl (tC P Tr (nI i))) = tC P Tr nx := fun _ => rfl
        simp only [let1, let2, let4, let6, let8]
        rw [r1, tN_nI (by omega)]
        generalize tC P Tr (nI i) = T2 at hR hw2 hb hT2 ⊢
        by_cases z1 : tN n = 1
        · rw [if_pos z1]
          have s := SP_1 (f := fun g => g) M0 M1 V1 cs hR hw2 hb
          rw [sumOfGains_C s, z1]
          rw [z1] at r2
          by_cases e : nI (TR (fun g => g) 1 (upd (F_X6_tries w) 594 (nI i)) 0) ≤ ms
          · rw [if_pos e, if_pos e]
            exact L_send h Tr n hn1 hn f (i + 1) bs ms _ _ _ _ _ _ _ _ _ _ r2 hT2
          · rw [if_neg e, if_neg e]
            exact L_send h Tr n hn1 hn f (i + 1) _ _ _ _ _ _ _ _ _ _ _ _ r2 hT2
        rw [if_neg z1]
        by_cases z2 : tN n = 2
        · rw [if_pos z2]
          have s := SP_2 (f := fun g => g) M0 M1 M2 V1 V2 cs hR hw2 hb
          rw [sumOfGains_C s, z2]
          rw [z2] at r2
          by_cases e : nI (TR (fun g => g) 2 (upd (F_X6_tries w) 594 (nI i)) 0) ≤ ms
          · rw [if_pos e, if_pos e]
            exact L_send h Tr n hn1 hn f (i + 1) bs ms _ _ _ _ _ _ _ _ _ _ r2 hT2
          · rw [if_neg e, if_neg e]
            exact L_send h Tr n hn1 hn f (i + 1) _ _ _ _ _ _ _ _ _ _ _ _ r2 hT2
        rw [if_neg z2]
        have z3 : tN n = 3 := by omega
        have s := SP_3 (f := fun g => g) M0 M1 M2 M3 V1 V2 V3 cs hR hw2 hb
        rw [sumOfGains_C s, z3]
        rw [z3] at r2
        by_cases e : nI (TR (fun g => g) 3 (upd (F_X6_tries w) 594 (nI i)) 0) ≤ ms
        · rw [if_pos e, if_pos e]
          exact L_send h Tr n hn1 hn f (i + 1) bs ms _ _ _ _ _ _ _ _ _ _ r2 hT2
        · rw [if_neg e, if_neg e]
          exact L_send h Tr n hn1 hn f (i + 1) _ _ _ _ _ _ _ _ _ _ _ _ r2 hT2
      · rw [if_neg d, if_neg d]
        exact L_send h Tr n hn1 hn f (i + 1) bs ms w1 T1 M0 M1 M2 M3 V1 V2 V3 cs hk hT
theorem send_eq {w su : Nat → Int32} {P : pS} {Rw : Nat → Int32} {No Ma Pa : rS} (h : relF w P Rw No Ma Pa) (L0 L1 L2 L3 : pS) (W1 W2 W3 Cs : Nat → Int32) (Tr : pS) (n : Int32) : (F_X6_send w su n).1 = (F_X5_send P su L0 L1 L2 L3 W1 W2 W3 Cs Tr n).1 ∧ (F_X6_send w su n).2.2 = (F_X5_send P su L0 L1 L2 L3 W1 W2 W3 Cs Tr n).2.1 ∧ ∀ j, j < 592 → (F_X6_send w su n).2.1 j = w j := by
  unfold F_X6_send F_X5_send
  simp only [let1, let2, let4, let12]
  rw [iw n (a := 1) (b := 3) (lo := nI 1) (hi := nI 3) (by decide) (by decide), ref_bad]
  by_cases c : F_X5_within n (nI 1) (nI 3) = true
  · rw [if_pos c, if_pos c]
    obtain ⟨c0, c1, c2⟩ := within_nat (by decide) (by decide) c
    have L := L_send h Tr n c1 c2 7 0 (-1) (-1) w (F_X2_copy Tr P) L0 L1 L2 L3 W1 W2 W3 Cs (fun _ _ => rfl) (fun _ => rfl)
    exact ⟨L.1.symm, rfl, L.2⟩
  · rw [if_neg c, if_neg c]
    exact ⟨rfl, rfl, fun _ _ => rfl⟩
