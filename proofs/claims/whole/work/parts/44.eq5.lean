/-! a batter more; notes, marks -/
theorem join_eq {r : Nat} {w : Nat → Int32} {P : pS} (hR : relP r w P) (hW : wfP P) (h5 : tN (Psz P) < 6) {k lg : Nat} (hk : k ≤ 5) (hl : lg ≤ 5) (hl1 : 1 ≤ lg) : (F_X2_join P (nI k) (nI lg)).1 = nI (tN (Psz P)) ∧ relP r (F_X6_addsBatter w r (nI k) (nI lg)) (F_X2_join P (nI k) (nI lg)).2 ∧ wfP (F_X2_join P (nI k) (nI lg)).2 ∧ Psz (F_X2_join P (nI k) (nI lg)).2 = nI (tN (Psz P) + 1) ∧ Ppt (F_X2_join P (nI k) (nI lg)).2 = Ppt P ∧ Pbl (F_X2_join P (nI k) (nI lg)).2 = Pbl P ∧ ∀ j, (j < r ∨ r + 23 ≤ j ∨ j = r + 3) → F_X6_addsBatter w r (nI k) (nI lg) j = w j := by
  obtain ⟨r0, r1, r2, r4, ri⟩ := hR
  obtain ⟨w1, w2, w3, w4⟩ := hW
  unfold F_X6_addsBatter F_X2_join
  simp only [let1]
  rw [isDone_r, if_pos h5, r0]
  generalize hn : tN (Psz P) = n at *
  have hsz : Psz P = nI n := by rw [← hn]; exact tN_eq w1.1
  have e2 : upd (upd (upd (upd w (r + n + 5) (nI k)) (r + n + 11) (nI lg)) (r + n + 17) (nI 0)) r (nI (n + 1)) (r + 2) = w (r + 2) := by
    rw [pk_un (by omega), pk_un (by omega), pk_un (by omega), pk_un (by omega)]
  rw [e2, r2]
  have tn1 : tN (nI (n + 1)) = n + 1 := tN_nI (by omega)
  have main : ∀ (nx : Int32) (P' : pS), P' = (Pbo P, nI (n + 1), upd (Pkd P) n (nI k), upd (Plg P) n (nI lg), upd (Pwh P) n (nI 0), nx, Ppt P, Pbl P) → (nx = -1 ∨ (0 ≤ nx ∧ tN nx < n + 1 ∧ upd (Pwh P) n (nI 0) (tN nx) = 0)) →
      relP r (upd (upd (upd (upd (upd w (r + n + 5) (nI k)) (r + n + 11) (nI lg)) (r + n + 17) (nI 0)) r (nI (n + 1))) (r + 2) nx) P' ∧ wfP P' := by
    intro nx P' hP' hnx
    subst hP'
    refine ⟨⟨?_, ?_, pk_us, ?_, fun i hi => ?_⟩, ⟨inB_nI (by omega) (by decide), w2, ?_, fun i hi => ?_⟩⟩
    · rw [pk_un (by omega), pk_us]
    · rw [pk_un (by omega), pk_un (by omega), pk_un (by omega), pk_un (by omega), pk_un (by omega)]; exact r1
    · rw [pk_un (by omega), pk_un (by omega), pk_un (by omega), pk_un (by omega), pk_un (by omega)]; exact r4
    · have hi' : i < tN (nI (n + 1)) := hi
      rw [tn1] at hi'
      refine ⟨?_, ?_, ?_⟩
      · show _ = upd (Pkd P) n (nI k) i
        rw [pk_un (by omega), pk_un (by omega), pk_un (by omega), pk_un (by omega)]
        by_cases z : i = n
        · subst z; rw [pk_us, pk_us]
        · rw [pk_un (by omega), pk_un z]; exact (ri i (by omega)).1
      · show _ = upd (Plg P) n (nI lg) i
        rw [pk_un (by omega), pk_un (by omega), pk_un (by omega)]
        by_cases z : i = n
        · subst z; rw [pk_us, pk_us]
        · rw [pk_un (by omega), pk_un (by omega), pk_un z]; exact (ri i (by omega)).2.1
      · show _ = upd (Pwh P) n (nI 0) i
        rw [pk_un (by omega), pk_un (by omega)]
        by_cases z : i = n
        · subst z; rw [pk_us, pk_us]
        · rw [pk_un (by omega), pk_un (by omega), pk_un (by omega), pk_un z]; exact (ri i (by omega)).2.2
    · rcases hnx with q | ⟨q1, q2, q3⟩
      · exact Or.inl q
      · exact Or.inr ⟨q1, by show tN nx < tN (nI (n + 1)); rw [tn1]; exact q2, q3⟩
    · have hi' : i < tN (nI (n + 1)) := hi
      rw [tn1] at hi'
      show inB (upd (Pkd P) n (nI k) i) 5 ∧ (inB (upd (Plg P) n (nI lg) i) 5 ∧ 1 ≤ tN (upd (Plg P) n (nI lg) i)) ∧ inB (upd (Pwh P) n (nI 0) i) 4
      by_cases z : i = n
      · subst z; rw [pk_us, pk_us, pk_us]; exact ⟨inB_nI hk (by decide), ⟨inB_nI hl (by decide), by rw [tN_nI (by omega)]; exact hl1⟩, inB_nI (by decide) (by decide)⟩
      · rw [pk_un z, pk_un z, pk_un z]; exact w4 i (by omega)
  have fr : ∀ (nx : Int32) (j : Nat), (j < r ∨ r + 23 ≤ j ∨ j = r + 3) → upd (upd (upd (upd (upd w (r + n + 5) (nI k)) (r + n + 11) (nI lg)) (r + n + 17) (nI 0)) r (nI (n + 1))) (r + 2) nx j = w j := by
    intro nx j hj
    rw [pk_un (by omega), pk_un (by omega), pk_un (by omega), pk_un (by omega), pk_un (by omega)]
  rcases w3 with q | ⟨q1, q2, q3⟩
  · rw [decide_eq_true q, if_neg (by rw [q]; decide)]
    simp only [if_true]
    obtain ⟨m1, m2⟩ := main (nI n) _ rfl (Or.inr ⟨nI_pos' (by omega), by rw [tN_nI (by omega)]; omega, by rw [tN_nI (by omega), pk_us]; rfl⟩)
    exact ⟨by trivial, m1, m2, by trivial, by trivial, by trivial, fr _⟩
  · have nn : ¬ Pnx P = -1 := fun z => by rw [z] at q1; exact absurd q1 (by decide)
    rw [decide_eq_false nn, if_pos q1]
    simp only [Bool.false_eq_true, if_false]
    obtain ⟨m1, m2⟩ := main (Pnx P) _ rfl (Or.inr ⟨q1, by omega, by rw [pk_un (by omega)]; exact q3⟩)
    exact ⟨by trivial, m1, m2, by trivial, by trivial, by trivial, fr _⟩
theorem batter_eq {w su : Nat → Int32} {P : pS} {Rw : Nat → Int32} {No Ma Pa : rS} (h : relF w P Rw No Ma Pa) (k lg : Int32) : (F_X6_batter w su k lg).1 = (F_X5_batter P Pa su k lg).1 ∧ (F_X6_batter w su k lg).2.2 = (F_X5_batter P Pa su k lg).2.2.2 ∧ relF (F_X6_batter w su k lg).2.1 (F_X5_batter P Pa su k lg).2.1 Rw No Ma (F_X5_batter P Pa su k lg).2.2.1 ∧ ∀ j, 148 ≤ j → (F_X6_batter w su k lg).2.1 j = w j := by
  unfold F_X6_batter F_X5_batter F_X5_isKind F_X4_empty_v9
  simp only [let1, let2]
  rw [iw k (a := 0) (b := 5) (lo := nI 0) (hi := nI 5) (by decide) (by decide), iw lg (a := 1) (b := 5) (lo := nI 1) (hi := nI 5) (by decide) (by decide), ref_bad, ref_full]
  by_cases c : F_X5_within k (nI 0) (nI 5) = true
  · rw [if_pos c, if_pos c]
    obtain ⟨c0, -, c2⟩ := within_nat (by decide) (by decide) c
    by_cases d : F_X5_within lg (nI 1) (nI 5) = true
    · rw [if_pos d, if_pos d]
      obtain ⟨d0, d1, d2⟩ := within_nat (by decide) (by decide) d
      obtain ⟨hB, hW, hN, hM, hU⟩ := h
      have hB0 := hB
      obtain ⟨hp, hw, h3, hb1, hb2⟩ := hB
      have s6 := hw.1.2
      have p0 : w 0 = Psz P := hp.1
      rw [p0]
      by_cases z : tN (Psz P) < 6
      · rw [if_pos z, if_neg (by omega)]
        obtain ⟨j1, j2, j3, j4, j5, j6, j7⟩ := join_eq (r := 0) hp hw z c2 d2 d1
        have hk : ∀ j, (23 ≤ j ∨ j = 3) → j ≠ 75 → upd (F_X6_addsBatter w 0 (nI (tN k)) (nI (tN lg))) 75 (nI 0) j = w j := fun j a b => by rw [pk_un b]; exact j7 j (by omega)
        have e0 : F_X6_addsBatter w 0 (nI (tN k)) (nI (tN lg)) 0 = nI (tN (Psz P) + 1) := by rw [j2.1, j4]
        refine ⟨?_, rfl, ⟨⟨?_, j3, ?_, by rw [j5]; exact hb1, by rw [j6]; exact hb2⟩, relW_keep (fun j a b => hk j (by omega) (by omega)) hW, relNo_keep (fun j a b => hk j (by omega) (by omega)) hN, relMa_keep (fun j a b => hk j (by omega) (by omega)) hM, relPa_empty (show upd (F_X6_addsBatter w 0 (nI (tN k)) (nI (tN lg))) 75 (nI 0) 75 = nI 0 from pk_us)⟩, fun j a => hk j (by omega) (by omega)⟩
        · show F_X6_addsBatter w 0 (nI (tN k)) (nI (tN lg)) 0 - nI 1 = _
          rw [e0, j1, pk_sub (by omega), Nat.add_sub_cancel]
        · have s7 := j3.1.2
          obtain ⟨a0, a1, a2, a4, ai⟩ := rp0 j2
          refine rp0' ⟨?_, ?_, ?_, ?_, fun i hi => ?_⟩
          · show upd (F_X6_addsBatter w 0 (nI (tN k)) (nI (tN lg))) 75 (nI 0) 0 = _
            rw [pk_un (by omega)]; exact a0
          · show upd (F_X6_addsBatter w 0 (nI (tN k)) (nI (tN lg))) 75 (nI 0) 1 = _
            rw [pk_un (by omega)]; exact a1
          · show upd (F_X6_addsBatter w 0 (nI (tN k)) (nI (tN lg))) 75 (nI 0) 2 = _
            rw [pk_un (by omega)]; exact a2
          · show upd (F_X6_addsBatter w 0 (nI (tN k)) (nI (tN lg))) 75 (nI 0) 4 = _
            rw [pk_un (by omega)]; exact a4
          · show upd (F_X6_addsBatter w 0 (nI (tN k)) (nI (tN lg))) 75 (nI 0) (i + 5) = _ ∧ upd (F_X6_addsBatter w 0 (nI (tN k)) (nI (tN lg))) 75 (nI 0) (i + 11) = _ ∧ upd (F_X6_addsBatter w 0 (nI (tN k)) (nI (tN lg))) 75 (nI 0) (i + 17) = _
            have hi' : i < tN (Psz (F_X2_join P (nI (tN k)) (nI (tN lg))).2) := hi
            rw [pk_un (by omega), pk_un (by omega), pk_un (by omega)]; exact ai i hi'
        · show upd (F_X6_addsBatter w 0 (nI (tN k)) (nI (tN lg))) 75 (nI 0) 3 = _
          rw [hk 3 (by omega) (by omega), h3, j5]
      · rw [if_neg z, if_pos (by omega)]
        exact ⟨rfl, rfl, ⟨hB0, hW, hN, hM, hU⟩, fun _ _ => rfl⟩
    · rw [if_neg d, if_neg d]
      exact ⟨rfl, rfl, h, fun _ _ => rfl⟩
  · rw [if_neg c, if_neg c]
    exact ⟨rfl, rfl, h, fun _ _ => rfl⟩
theorem upd_cong {f g : Nat → Int32} {a b i j : Nat} {v : Int32} (h : i = a ↔ j = b) (hf : ¬ j = b → f i = g j) : upd f a v i = upd g b v j := by
  by_cases z : j = b
  · rw [h.mpr z, z, pk_us, pk_us]
  · rw [pk_un (fun q => z (h.mp q)), pk_un z]; exact hf z
theorem put3 {c : Nat → Int32} {u : Nat} {v : Int32} (h : u < 18) : F_X4_put_v3 (c, nI u) v = (upd c u v, nI (u + 1)) := by
  unfold F_X4_put_v3
  show (if 18 ≤ tN (nI u) then _ else (upd c (tN (nI u)) v, nI (tN (nI u) + 1))) = _
  rw [tN_nI (by omega), if_neg (by omega)]
theorem put4 {c : Nat → Int32} {u : Nat} {v : Int32} (h : u < 24) : F_X4_put_v4 (c, nI u) v = (upd c u v, nI (u + 1)) := by
  unfold F_X4_put_v4
  show (if 24 ≤ tN (nI u) then _ else (upd c (tN (nI u)) v, nI (tN (nI u) + 1))) = _
  rw [tN_nI (by omega), if_neg (by omega)]
theorem put9 {c : Nat → Int32} {u : Nat} {v : Int32} (h : u < 72) : F_X4_put_v9 (c, nI u) v = (upd c u v, nI (u + 1)) := by
  unfold F_X4_put_v9
  show (if 72 ≤ tN (nI u) then _ else (upd c (tN (nI u)) v, nI (tN (nI u) + 1))) = _
  rw [tN_nI (by omega), if_neg (by omega)]
theorem note_eq {w su : Nat → Int32} {P : pS} {Rw : Nat → Int32} {No Ma Pa : rS} (h : relF w P Rw No Ma Pa) (t hi g : Int32) : (F_X6_note w su t hi g).1 = (F_X5_note No su t hi g).1 ∧ (F_X6_note w su t hi g).2.2 = (F_X5_note No su t hi g).2.2 ∧ relF (F_X6_note w su t hi g).2.1 P Rw (F_X5_note No su t hi g).2.1 Ma Pa ∧ ∀ j, 148 ≤ j → (F_X6_note w su t hi g).2.1 j = w j := by
  unfold F_X6_note F_X5_note F_X5_isHit F_X4_isFull_v3
  simp only [let1, let2]
  rw [iw t (a := 0) (b := 99) (lo := nI 0) (hi := nI 99) (by decide) (by decide), iw hi (a := 0) (b := 9) (lo := nI 0) (hi := nI 9) (by decide) (by decide), iw g (a := 0) (b := 20) (lo := nI 0) (hi := nI 20) (by decide) (by decide), ref_bad, ref_full]
  by_cases c : F_X5_within t (nI 0) (nI 99) = true
  · rw [if_pos c, if_pos c]
    obtain ⟨c0, -, c2⟩ := within_nat (by decide) (by decide) c
    by_cases d : F_X5_within hi (nI 0) (nI 9) = true
    · rw [if_pos d, if_pos d]
      obtain ⟨d0, -, d2⟩ := within_nat (by decide) (by decide) d
      by_cases e : F_X5_within g (nI 0) (nI 20) = true
      · rw [if_pos e, if_pos e]
        have h0 := h
        obtain ⟨hB, hW, ⟨n, n6, nu, n31, nk, nb⟩, hM, hU⟩ := h
        obtain ⟨ce, us⟩ := No
        have nu' : us = nI (3 * n) := nu
        subst nu'
        have t1 : tN (Rus (ce, nI (3 * n))) = 3 * n := tN_nI (by omega)
        have t2 : tN (w 31) = n := by rw [n31]; exact tN_nI (by omega)
        rw [t1, t2]
        by_cases f : n = 6
        · subst f
          rw [if_pos rfl]
          simp only [show ¬ (3 * 6 + 3 ≤ 18) by decide, if_false, if_true]
          exact ⟨by trivial, by trivial, h0, fun _ _ => by trivial⟩
        · have hf : (if 3 * n + 3 ≤ 18 then false else true) = false := if_pos (by omega)
          rw [if_neg f, hf]
          simp only [Bool.false_eq_true, if_false]
          rw [put3 (by omega), put3 (by omega), put3 (by omega)]
          unfold F_X4_size_v3
          have t3 : tN (Rus (upd (upd (upd ce (3 * n) (nI (tN t))) (3 * n + 1) (nI (tN hi))) (3 * n + 1 + 1) (nI (tN g)), nI (3 * n + 1 + 1 + 1))) = 3 * n + 3 := tN_nI (by omega)
          rw [t3, show (3 * n + 3) / 3 = n + 1 by omega]
          have hk : ∀ j, (j < 31 ∨ 50 ≤ j) → upd (upd (upd (upd w (3 * n + 32) (nI (tN t))) (3 * n + 33) (nI (tN hi))) (3 * n + 34) (nI (tN g))) 31 (nI (n + 1)) j = w j := fun j a => by
            rw [pk_un (by omega), pk_un (by omega), pk_un (by omega), pk_un (by omega)]
          refine ⟨by trivial, by trivial, ⟨relB_keep (fun j a => hk j (by omega)) hB, relW_keep (fun j a b => hk j (by omega)) hW, ⟨n + 1, by omega, rfl, pk_us, fun k q => ?_, fun e q => ?_⟩, relMa_keep (fun j a b => hk j (by omega)) hM, relPa_keep hB.2.1.1.2 (fun j a b => hk j (by omega)) hU⟩, fun j a => hk j (by omega)⟩
          · show upd (upd (upd (upd w (3 * n + 32) (nI (tN t))) (3 * n + 33) (nI (tN hi))) (3 * n + 34) (nI (tN g))) 31 (nI (n + 1)) (k + 32) = upd (upd (upd ce (3 * n) (nI (tN t))) (3 * n + 1) (nI (tN hi))) (3 * n + 1 + 1) (nI (tN g)) k
            rw [pk_un (by omega)]
            exact upd_cong (by omega) (fun z2 => upd_cong (by omega) (fun z1 => upd_cong (by omega) (fun z0 => nk k (by omega))))
          · show inB (upd (upd (upd ce (3 * n) (nI (tN t))) (3 * n + 1) (nI (tN hi))) (3 * n + 1 + 1) (nI (tN g)) (3 * e)) 99 ∧ inB (upd (upd (upd ce (3 * n) (nI (tN t))) (3 * n + 1) (nI (tN hi))) (3 * n + 1 + 1) (nI (tN g)) (3 * e + 1)) 9
            by_cases z : e = n
            · subst z
              rw [pk_un (by omega), pk_un (by omega), pk_us, pk_un (by omega), pk_us]
              exact ⟨inB_nI c2 (by decide), inB_nI d2 (by decide)⟩
            · rw [pk_un (by omega), pk_un (by omega), pk_un (by omega), pk_un (by omega), pk_un (by omega), pk_un (by omega)]
              exact nb e (by omega)
      · rw [if_neg e, if_neg e]
        exact ⟨rfl, rfl, h, fun _ _ => rfl⟩
    · rw [if_neg d, if_neg d]
      exact ⟨rfl, rfl, h, fun _ _ => rfl⟩
  · rw [if_neg c, if_neg c]
    exact ⟨rfl, rfl, h, fun _ _ => rfl⟩
theorem mark_eq {w su : Nat → Int32} {P : pS} {Rw : Nat → Int32} {No Ma Pa : rS} (h : relF w P Rw No Ma Pa) (i lg g x : Int32) : (F_X6_mark w su i lg g x).1 = (F_X5_mark P Ma su i lg g x).1 ∧ (F_X6_mark w su i lg g x).2.2 = (F_X5_mark P Ma su i lg g x).2.2 ∧ relF (F_X6_mark w su i lg g x).2.1 P Rw No (F_X5_mark P Ma su i lg g x).2.1 Pa ∧ ∀ j, 148 ≤ j → (F_X6_mark w su i lg g x).2.1 j = w j := by
  unfold F_X6_mark F_X5_mark F_X4_isFull_v4
  simp only [let1, let2]
  rw [isBatter_eq h.1.1.1 (rel_sz h).1, iw lg (a := 1) (b := 5) (lo := nI 1) (hi := nI 5) (by decide) (by decide), iw g (a := 0) (b := 20) (lo := nI 0) (hi := nI 20) (by decide) (by decide), iw x (a := 0) (b := 9) (lo := nI 0) (hi := nI 9) (by decide) (by decide), ref_bad, ref_full]
  by_cases c : F_X5_isBatter P i = true
  · rw [if_pos c, if_pos c]
    by_cases d : F_X5_within lg (nI 1) (nI 5) = true
    · rw [if_pos d, if_pos d]
      obtain ⟨d0, -, d2⟩ := within_nat (by decide) (by decide) d
      by_cases e : F_X5_within g (nI 0) (nI 20) = true
      · rw [if_pos e, if_pos e]
        obtain ⟨e0, -, e2⟩ := within_nat (by decide) (by decide) e
        by_cases y : F_X5_within x (nI 0) (nI 9) = true
        · rw [if_pos y, if_pos y]
          have h0 := h
          obtain ⟨hB, hW, hN, ⟨n, n6, nu, n50, nk, nb⟩, hU⟩ := h
          obtain ⟨ce, us⟩ := Ma
          have nu' : us = nI (4 * n) := nu
          subst nu'
          have t1 : tN (Rus (ce, nI (4 * n))) = 4 * n := tN_nI (by omega)
          have t2 : tN (w 50) = n := by rw [n50]; exact tN_nI (by omega)
          rw [t1, t2]
          by_cases f : n = 6
          · subst f
            rw [if_pos rfl]
            simp only [show ¬ (4 * 6 + 4 ≤ 24) by decide, if_false, if_true]
            exact ⟨by trivial, by trivial, h0, fun _ _ => by trivial⟩
          · have hf : (if 4 * n + 4 ≤ 24 then false else true) = false := if_pos (by omega)
            rw [if_neg f, hf]
            simp only [Bool.false_eq_true, if_false]
            rw [put4 (by omega), put4 (by omega), put4 (by omega), put4 (by omega)]
            unfold F_X4_size_v4
            have t3 : tN (Rus (upd (upd (upd (upd ce (4 * n) (nI (tN i))) (4 * n + 1) (nI (tN lg))) (4 * n + 1 + 1) (nI (tN g))) (4 * n + 1 + 1 + 1) (nI (tN x)), nI (4 * n + 1 + 1 + 1 + 1))) = 4 * n + 4 := tN_nI (by omega)
            rw [t3, show (4 * n + 4) / 4 = n + 1 by omega]
            have hk : ∀ j, (j < 50 ∨ 75 ≤ j) → upd (upd (upd (upd (upd w (4 * n + 51) (nI (tN i))) (4 * n + 52) (nI (tN lg))) (4 * n + 53) (nI (tN g))) (4 * n + 54) (nI (tN x))) 50 (nI (n + 1)) j = w j := fun j a => by
              rw [pk_un (by omega), pk_un (by omega), pk_un (by omega), pk_un (by omega), pk_un (by omega)]
            refine ⟨by trivial, by trivial, ⟨relB_keep (fun j a => hk j (by omega)) hB, relW_keep (fun j a b => hk j (by omega)) hW, relNo_keep (fun j a b => hk j (by omega)) hN, ⟨n + 1, by omega, rfl, pk_us, fun k q => ?_, fun e q => ?_⟩, relPa_keep hB.2.1.1.2 (fun j a b => hk j (by omega)) hU⟩, fun j a => hk j (by omega)⟩
            · show upd (upd (upd (upd (upd w (4 * n + 51) (nI (tN i))) (4 * n + 52) (nI (tN lg))) (4 * n + 53) (nI (tN g))) (4 * n + 54) (nI (tN x))) 50 (nI (n + 1)) (k + 51) = upd (upd (upd (upd ce (4 * n) (nI (tN i))) (4 * n + 1) (nI (tN lg))) (4 * n + 1 + 1) (nI (tN g))) (4 * n + 1 + 1 + 1) (nI (tN x)) k
              rw [pk_un (by omega)]
              exact upd_cong (by omega) (fun z3 => upd_cong (by omega) (fun z2 => upd_cong (by omega) (fun z1 => upd_cong (by omega) (fun z0 => nk k (by omega)))))
            · show inB (upd (upd (upd (upd ce (4 * n) (nI (tN i))) (4 * n + 1) (nI (tN lg))) (4 * n + 1 + 1) (nI (tN g))) (4 * n + 1 + 1 + 1) (nI (tN x)) (4 * e + 1)) 5 ∧ inB (upd (upd (upd (upd ce (4 * n) (nI (tN i))) (4 * n + 1) (nI (tN lg))) (4 * n + 1 + 1) (nI (tN g))) (4 * n + 1 + 1 + 1) (nI (tN x)) (4 * e + 2)) 20
              by_cases z : e = n
              · subst z
                rw [pk_un (by omega), pk_un (by omega), pk_us, pk_un (by omega), pk_us]
                exact ⟨inB_nI d2 (by decide), inB_nI e2 (by decide)⟩
              · rw [pk_un (by omega), pk_un (by omega), pk_un (by omega), pk_un (by omega), pk_un (by omega), pk_un (by omega), pk_un (by omega), pk_un (by omega)]
                exact nb e (by omega)
        · rw [if_neg y, if_neg y]
          exact ⟨rfl, rfl, h, fun _ _ => rfl⟩
      · rw [if_neg e, if_neg e]
        exact ⟨rfl, rfl, h, fun _ _ => rfl⟩
    · rw [if_neg d, if_neg d]
      exact ⟨rfl, rfl, h, fun _ _ => rfl⟩
  · rw [if_neg c, if_neg c]
    exact ⟨rfl, rfl, h, fun _ _ => rfl⟩
theorem forget_eq {w su : Nat → Int32} {P : pS} {Rw : Nat → Int32} {No Ma Pa : rS} (h : relF w P Rw No Ma Pa) (wh : Int32) : (F_X6_forget w su wh).1 = (F_X5_forget No Ma su wh).1 ∧ (F_X6_forget w su wh).2.2 = (F_X5_forget No Ma su wh).2.2.2 ∧ relF (F_X6_forget w su wh).2.1 P Rw (F_X5_forget No Ma su wh).2.1 (F_X5_forget No Ma su wh).2.2.1 Pa ∧ ∀ j, 148 ≤ j → (F_X6_forget w su wh).2.1 j = w j := by
  unfold F_X6_forget F_X5_forget F_X4_size_v3 F_X4_size_v4 F_X4_empty_v3 F_X4_empty_v4
  simp only [let1, let2]
  rw [iw wh (a := 0) (b := 1) (lo := nI 0) (hi := nI 1) (by decide) (by decide), ref_bad]
  by_cases c : F_X5_within wh (nI 0) (nI 1) = true
  · rw [if_pos c, if_pos c]
    obtain ⟨hB, hW, hN, hM, hU⟩ := h
    have hN0 := hN
    have hM0 := hM
    obtain ⟨n, n6, nu, n31, nk, nb⟩ := hN
    obtain ⟨a, a6, au, a50, ak, ab⟩ := hM
    have t1 : tN (Rus No) = 3 * n := by rw [nu]; exact tN_nI (by omega)
    have t2 : tN (Rus Ma) = 4 * a := by rw [au]; exact tN_nI (by omega)
    by_cases z : tN wh = 0
    · rw [if_pos z, if_pos z, t1, show 3 * n / 3 = n by omega]
      exact ⟨n31, rfl, ⟨relB_keep (fun j a => pk_un (by omega)) hB, relW_keep (fun j a b => pk_un (by omega)) hW, relNo_empty (show upd w 31 (nI 0) 31 = nI 0 from pk_us), relMa_keep (fun j a b => pk_un (by omega)) hM0, relPa_keep hB.2.1.1.2 (fun j a b => pk_un (by omega)) hU⟩, fun j a => pk_un (by omega)⟩
    · rw [if_neg z, if_neg z, t2, show 4 * a / 4 = a by omega]
      exact ⟨a50, rfl, ⟨relB_keep (fun j a => pk_un (by omega)) hB, relW_keep (fun j a b => pk_un (by omega)) hW, relNo_keep (fun j a b => pk_un (by omega)) hN0, relMa_empty (show upd w 50 (nI 0) 50 = nI 0 from pk_us), relPa_keep hB.2.1.1.2 (fun j a b => pk_un (by omega)) hU⟩, fun j a => pk_un (by omega)⟩
  · rw [if_neg c, if_neg c]
    exact ⟨rfl, rfl, h, fun _ _ => rfl⟩
