/-! hits, sends, undo -/
theorem relB_pts {v : Nat → Int32} {P : pS} {x : Int32} (hp : relP 0 v P) (hw : wfP P) (hb : inB (Pbl P) 9999) (hx : inB x 9999) : relB (upd v 3 x) (Pbo P, Psz P, Pkd P, Plg P, Pwh P, Pnx P, x, Pbl P) := by
  obtain ⟨p0, p1, p2, p4, pi⟩ := rp0 hp
  refine ⟨rp0' ⟨?_, ?_, ?_, ?_, fun i hi => ?_⟩, hw, pk_us, hx, hb⟩
  · rw [pk_un (by omega)]; exact p0
  · rw [pk_un (by omega)]; exact p1
  · rw [pk_un (by omega)]; exact p2
  · rw [pk_un (by omega)]; exact p4
  · rw [pk_un (by omega), pk_un (by omega), pk_un (by omega)]; exact pi i hi
theorem hits_eq {w su : Nat → Int32} {P : pS} {Rw : Nat → Int32} {No Ma Pa : rS} (h : relF w P Rw No Ma Pa) (hi : Int32) : (F_X6_hits w su hi).1 = (F_X5_hits P Pa su hi).1 ∧ (F_X6_hits w su hi).2.2 = (F_X5_hits P Pa su hi).2.2.2 ∧ relF (F_X6_hits w su hi).2.1 (F_X5_hits P Pa su hi).2.1 Rw No Ma (F_X5_hits P Pa su hi).2.2.1 ∧ ∀ j, 148 ≤ j → (F_X6_hits w su hi).2.1 j = w j := by
  unfold F_X6_hits F_X5_hits F_X5_isHit
  simp only [let1, let2]
  rw [iw hi (a := 0) (b := 9) (lo := nI 0) (hi := nI 9) (by decide) (by decide), ref_bad, ref_no]
  by_cases c : F_X5_within hi (nI 0) (nI 9) = true
  · rw [if_pos c, if_pos c]
    obtain ⟨c0, -, c2⟩ := within_nat (by decide) (by decide) c
    have hh := h
    obtain ⟨hB, hW, hN, hM, hU⟩ := h
    obtain ⟨hp, hw, h3, hb1, hb2⟩ := hB
    obtain ⟨p0, p1, p2, p4, pi⟩ := rp0 hp
    have s6 := hw.1.2
    rw [isDone_c hw, isDone_r, show (0 : Nat) + 2 = 2 from rfl, p2, p4]
    by_cases d : Pnx P = -1
    · rw [decide_eq_true d, if_pos rfl, if_pos rfl]
      exact ⟨rfl, rfl, hh, fun _ _ => rfl⟩
    · rw [decide_eq_false d]
      simp only [Bool.false_eq_true, if_false]
      by_cases e : Pbl P = nI 9999
      · rw [if_pos e, if_neg (by rw [e]; decide)]
        exact ⟨rfl, rfl, hh, fun _ _ => rfl⟩
      · have hb2' := hb2.2
        have be := tN_eq hb2.1
        have e2 : tN (Pbl P) < 9999 := by
          rcases Nat.lt_or_ge (tN (Pbl P)) 9999 with q | q
          · exact q
          · exact absurd (by rw [be, show tN (Pbl P) = 9999 by omega]) e
        have e1 : Pbl P < nI 9999 := by
          rw [be]; exact (nI_ltI (tN_lt _) (by decide)).mpr e2
        rw [if_neg e, if_pos e1]
        obtain ⟨m1, m2, m3⟩ := minds_eq ⟨hp, hw, h3, hb1, hb2⟩ hU
        have hpm : relP 0 (F_X6_minds w) P := rp0' ⟨by rw [m2 _ (by omega), p0], by rw [m2 _ (by omega), p1], by rw [m2 _ (by omega), p2], by rw [m2 _ (by omega), p4], fun i hi => by rw [m2 _ (by omega), m2 _ (by omega), m2 _ (by omega)]; exact pi i hi⟩
        have hE := ball_eq hpm hw (b := 9998) ⟨hb2.1, by omega⟩ (by decide) d (h := tN hi) (by omega)
        have hz := ball_at (P := P) (h := nI (tN hi)) (r := (F_X2_ball P (nI (tN hi))).1) (P' := (F_X2_ball P (nI (tN hi))).2) rfl
        have hnum := bats_num (w := F_X6_minds w) (R := 0) (h := nI (tN hi)) (r := (F_X6_bats (F_X6_minds w) 0 (nI (tN hi))).1) (w' := (F_X6_bats (F_X6_minds w) 0 (nI (tN hi))).2) rfl
        have qn := wf_next hw d
        have hat := (bats_at (w := F_X6_minds w) (R := 0) (h := nI (tN hi)) (r := (F_X6_bats (F_X6_minds w) 0 (nI (tN hi))).1) (w' := (F_X6_bats (F_X6_minds w) 0 (nI (tN hi))).2) rfl (by rw [m2 _ (by omega), p0]; exact hw.1) (by rw [m2 _ (by omega), show (0 : Nat) + 2 = 2 from rfl, p2]; exact ⟨qn.1, by omega⟩)).2
        generalize F_X6_bats (F_X6_minds w) 0 (nI (tN hi)) = Y at hE hnum hat ⊢
        generalize F_X2_ball P (nI (tN hi)) = Z at hE hz ⊢
        obtain ⟨y, v⟩ := Y
        obtain ⟨z, P'⟩ := Z
        obtain ⟨g1, g2, g3, g4, g5⟩ := hE
        simp only at g1 g2 g3 g4 g5 hz hnum hat ⊢
        subst g1
        have v3 : v (0 + 3) = Ppt P := by rw [hat 3 (by omega) (by omega) (Or.inl (by omega)), m2 _ (by omega), h3]
        have keep : ∀ (x : Int32) (Q : pS), relB (upd v 3 x) Q → Psz Q = Psz P → relF (upd v 3 x) Q Rw No Ma (F_X1_remember P Pa) ∧ ∀ j, 148 ≤ j → upd v 3 x j = w j := by
          intro x Q hQ hs
          have k1 : ∀ j, 23 ≤ j → upd v 3 x j = F_X6_minds w j := fun j hj => by rw [pk_un (by omega), hat j (by omega) (by omega) (Or.inr (by omega))]
          refine ⟨⟨hQ, relW_keep (fun j a b => by rw [k1 j (by omega), m2 j (by omega)]) hW, relNo_keep (fun j a b => by rw [k1 j (by omega), m2 j (by omega)]) hN, relMa_keep (fun j a b => by rw [k1 j (by omega), m2 j (by omega)]) hM, ?_⟩, fun j hj => by rw [k1 j (by omega), m3 j hj]⟩
          rw [hs]
          exact relPa_keep s6 (fun j a b => k1 j (by omega)) m1
        have pe := tN_eq hb1.1
        have pl := hb1.2
        have ye := tN_eq hnum.1
        have yl := hnum.2
        have sum : Ppt P + y = nI (tN (Ppt P) + tN y) := by rw [pe, ye, nI_add, tN_nI (tN_lt _), tN_nI (tN_lt _)]
        unfold F_X6_scores
        rw [v3, g5, sum]
        by_cases q : tN (Ppt P) + tN y ≤ 9999
        · rw [if_pos ((nI_leI (by omega) (by decide)).mpr q)]
          have B1 := relB_pts g2 g3 g4 (x := nI (tN (Ppt P) + tN y)) (inB_nI q (by decide))
          by_cases q2 : tN (Ppt P) + tN y < 9999
          · rw [if_pos ((nI_ltI (by omega) (by decide)).mpr q2)]
            have e5 : P' = (Pbo P', Psz P', Pkd P', Plg P', Pwh P', Pnx P', nI (tN (Ppt P) + tN y), Pbl P') := by rw [← sum, ← g5]
            rw [← e5] at B1
            have K := keep _ P' B1 hz
            exact ⟨rfl, rfl, K.1, K.2⟩
          · rw [if_neg (fun z => q2 ((nI_ltI (by omega) (by decide)).mp z))]
            have q3 : tN (Ppt P) + tN y = 9999 := by omega
            rw [q3] at B1 ⊢
            have K := keep _ _ B1 hz
            exact ⟨rfl, rfl, K.1, K.2⟩
        · rw [if_neg (fun z => q ((nI_leI (by omega) (by decide)).mp z)), if_neg (fun z => q (Nat.le_of_lt ((nI_ltI (by omega) (by decide)).mp z)))]
          have B1 := relB_pts g2 g3 g4 (x := nI 9999) (inB_nI (by decide) (by decide))
          have K := keep _ _ B1 hz
          exact ⟨rfl, rfl, K.1, K.2⟩
  · rw [if_neg c, if_neg c]
    exact ⟨rfl, rfl, h, fun _ _ => rfl⟩
theorem sends_eq {w su : Nat → Int32} {P : pS} {Rw : Nat → Int32} {No Ma Pa : rS} (h : relF w P Rw No Ma Pa) (i : Int32) : (F_X6_sends w su i).1 = (F_X5_sends P Pa su i).1 ∧ (F_X6_sends w su i).2.2 = (F_X5_sends P Pa su i).2.2.2 ∧ relF (F_X6_sends w su i).2.1 (F_X5_sends P Pa su i).2.1 Rw No Ma (F_X5_sends P Pa su i).2.2.1 ∧ ∀ j, 148 ≤ j → (F_X6_sends w su i).2.1 j = w j := by
  have hh := h
  obtain ⟨hB, hW, hN, hM, hU⟩ := h
  obtain ⟨hp, hw, h3, hb1, hb2⟩ := hB
  obtain ⟨p0, p1, p2, p4, pi⟩ := rp0 hp
  have s6 := hw.1.2
  unfold F_X6_sends F_X5_sends
  simp only [let1, let2]
  rw [isBatter_eq p0 hw.1.1, ref_bad, ref_no]
  by_cases c : F_X5_isBatter P i = true
  · rw [if_pos c, if_pos c]
    obtain ⟨i0, i1⟩ := isBatter2 rfl c hw.1
    rw [(pi _ i1).2.2, p2]
    by_cases d : Pwh P (tN i) = 0
    · rw [if_pos d, if_pos d]
      by_cases e : Pnx P = nI (tN i)
      · rw [if_pos e, if_pos e]
        exact ⟨rfl, rfl, hh, fun _ _ => rfl⟩
      · rw [if_neg e, if_neg e]
        obtain ⟨m1, m2, m3⟩ := minds_eq ⟨hp, hw, h3, hb1, hb2⟩ hU
        have k1 : ∀ j, j ≠ 2 → upd (F_X6_minds w) 2 (nI (tN i)) j = F_X6_minds w j := fun j hj => pk_un hj
        have k2 : ∀ j, j ≠ 2 → j < 75 → upd (F_X6_minds w) 2 (nI (tN i)) j = w j := fun j hj h2 => by rw [k1 j hj, m2 j h2]
        have ti : tN (nI (tN i)) = tN i := tN_nI (tN_lt _)
        refine ⟨rfl, rfl, ⟨⟨rp0' ⟨?_, ?_, show upd (F_X6_minds w) 2 (nI (tN i)) 2 = nI (tN i) from pk_us, ?_, fun k hk => ?_⟩, ⟨hw.1, hw.2.1, Or.inr ⟨nI_pos' (tN_lt _), ?_, ?_⟩, hw.2.2.2⟩, ?_, hb1, hb2⟩, relW_keep (fun j a b => k2 j (by omega) (by omega)) hW, relNo_keep (fun j a b => k2 j (by omega) (by omega)) hN, relMa_keep (fun j a b => k2 j (by omega) (by omega)) hM, relPa_keep s6 (fun j a b => k1 j (by omega)) m1⟩, fun j hj => by
          show upd (F_X6_minds w) 2 (nI (tN i)) j = w j
          rw [k1 j (by omega), m3 j hj]⟩
        · show upd (F_X6_minds w) 2 (nI (tN i)) 0 = _
          rw [k2 _ (by omega) (by omega)]; exact p0
        · show upd (F_X6_minds w) 2 (nI (tN i)) 1 = _
          rw [k2 _ (by omega) (by omega)]; exact p1
        · show upd (F_X6_minds w) 2 (nI (tN i)) 4 = _
          rw [k2 _ (by omega) (by omega)]; exact p4
        · have hk' : k < tN (Psz P) := hk
          show upd (F_X6_minds w) 2 (nI (tN i)) (k + 5) = _ ∧ upd (F_X6_minds w) 2 (nI (tN i)) (k + 11) = _ ∧ upd (F_X6_minds w) 2 (nI (tN i)) (k + 17) = _
          rw [k2 _ (by omega) (by omega), k2 _ (by omega) (by omega), k2 _ (by omega) (by omega)]; exact pi k hk'
        · show tN (nI (tN i)) < tN (Psz P)
          rw [ti]; exact i1
        · show Pwh P (tN (nI (tN i))) = 0
          rw [ti]; exact d
        · show upd (F_X6_minds w) 2 (nI (tN i)) 3 = _
          rw [k2 _ (by omega) (by omega)]; exact h3
    · rw [if_neg d, if_neg d]
      exact ⟨rfl, rfl, hh, fun _ _ => rfl⟩
  · rw [if_neg c, if_neg c]
    exact ⟨rfl, rfl, hh, fun _ _ => rfl⟩
theorem L_u82 (w : Nat → Int32) (u : Nat) (hu : tN (w 75) - 1 = u) : ∀ (n i : Nat) (w2 : Nat → Int32), 6 - i < n → ∀ j, (F_X6_undo_L82 n w i w2).2 j = if i + 17 ≤ j ∧ j < 23 then w2 (9 * u + (j - 17) + 79) else w2 j
  | 0, _, _, h => by omega
  | n + 1, i, w2, h => by
    intro j
    rw [F_X6_undo_L82, hu]
    by_cases c : 6 ≤ i
    · rw [if_pos c, if_neg (by omega)]
    · rw [if_neg c, L_u82 w u hu n (i + 1) _ (by omega) j]
      by_cases z : i + 1 + 17 ≤ j ∧ j < 23
      · rw [if_pos z, if_pos (by omega), pk_un (by omega)]
      · rw [if_neg z]
        by_cases d : j = i + 17
        · rw [d, if_pos (by omega), pk_us, show i + 17 - 17 = i by omega]
        · rw [pk_un d, if_neg (by omega)]
theorem L_g17 (Pa : rS) : ∀ (n k : Nat) (w1 : Nat → Int32), 6 - k < n → ∀ j, (F_X1_goBack_L17 n Pa k w1).2 j = if k ≤ j ∧ j < 6 then F_X4_cell_v9 Pa ((tN (Rus Pa) / 9) - 1) j else w1 j
  | 0, _, _, h => by omega
  | n + 1, k, w1, h => by
    intro j
    rw [F_X1_goBack_L17]
    by_cases c : 6 ≤ k
    · rw [if_pos c, if_neg (by omega)]
    · rw [if_neg c]
      simp only [let1]
      rw [L_g17 Pa n (k + 1) _ (by omega) j]
      by_cases z : k + 1 ≤ j ∧ j < 6
      · rw [if_pos z, if_pos (by omega)]
      · rw [if_neg z]
        by_cases d : j = k
        · rw [d, if_pos (by omega), pk_us]
        · rw [pk_un d, if_neg (by omega)]
theorem undo_eq {w su : Nat → Int32} {P : pS} {Rw : Nat → Int32} {No Ma Pa : rS} (h : relF w P Rw No Ma Pa) : (F_X6_undo w su).1 = (F_X5_undo P Pa su).1 ∧ (F_X6_undo w su).2.2 = (F_X5_undo P Pa su).2.2.2 ∧ relF (F_X6_undo w su).2.1 (F_X5_undo P Pa su).2.1 Rw No Ma (F_X5_undo P Pa su).2.2.1 ∧ ∀ j, 148 ≤ j → (F_X6_undo w su).2.1 j = w j := by
  have hh := h
  obtain ⟨hB, hW, hN, hM, hU⟩ := h
  obtain ⟨hp, hw, h3, hb1, hb2⟩ := hB
  obtain ⟨p0, p1, p2, p4, pi⟩ := rp0 hp
  have s6 := hw.1.2
  obtain ⟨u, u8, uu, u75, ue⟩ := hU
  have hu : tN (w 75) = u := by rw [u75]; exact tN_nI (by omega)
  have hr : tN (Rus Pa) = 9 * u := by rw [uu]; exact tN_nI (by omega)
  have hd : tN (Rus Pa) / 9 = u := by rw [hr]; omega
  unfold F_X6_undo F_X5_undo F_X4_size_v9
  simp only [let1, let2]
  rw [hu, hd, ref_no]
  by_cases c : u = 0
  · rw [if_pos c, if_pos (by rw [c]; rfl)]
    exact ⟨rfl, rfl, hh, fun _ _ => rfl⟩
  · rw [if_neg c, if_neg (fun z => c ((qn_eq0 (by omega)).mp z))]
    obtain ⟨v, hv⟩ : ∃ v, v = u - 1 := ⟨_, rfl⟩
    have hvu : v + 1 = u := by omega
    have L := L_u82 w v (by rw [hu]; omega) 7 0 (upd (upd (upd (upd w 75 (nI (u - 1))) 2 (w (9 * (u - 1) + 76))) 3 (w (9 * (u - 1) + 77))) 4 (w (9 * (u - 1) + 78))) (by decide)
    rw [← hv] at L ⊢
    unfold F_X1_goBack F_X4_size_v9 F_X4_dropLast_v9
    simp only [let1, let2]
    rw [hd, pk_sub (show 1 ≤ u by omega), if_pos (nI_pos' (by omega)), hr, pk_sub (show 9 ≤ 9 * u by omega)]
    have G := L_g17 Pa 7 0 (Pwh P) (by decide)
    have cell : ∀ k, k < 9 → F_X4_cell_v9 Pa v k = Rce Pa (9 * v + k) := fun k hk => by
      unfold F_X4_cell_v9
      rw [hr, if_neg (by omega)]
    rw [hd, ← hv] at G
    rw [← hv, cell 6 (by omega), cell 7 (by omega), cell 8 (by omega)]
    obtain ⟨a1, a2, a3, a4, a5, a6, a7⟩ := ue v (by omega)
    generalize (F_X6_undo_L82 7 w 0 (upd (upd (upd (upd w 75 (nI v)) 2 (w (9 * v + 76))) 3 (w (9 * v + 77))) 4 (w (9 * v + 78)))).2 = w2 at L ⊢
    generalize (F_X1_goBack_L17 7 Pa 0 (Pwh P)).2 = c2 at G ⊢
    have drop : (if nI 0 < nI (9 * u - 9) then (Rce Pa, nI (9 * u - 9)) else (Rce Pa, nI 0)) = (Rce Pa, nI (9 * v)) := by
      have e : 9 * u - 9 = 9 * v := by omega
      rw [e]
      by_cases z : v = 0
      · subst z; rw [if_neg (by decide)]
      · rw [if_pos ((nI_ltI (by decide) (by omega)).mpr (by omega))]
    rw [drop]
    have B : ∀ j, (j < 17 ∨ 23 ≤ j) → w2 j = if j = 4 then w (9 * v + 78) else if j = 3 then w (9 * v + 77) else if j = 2 then w (9 * v + 76) else if j = 75 then nI v else w j := fun j hj => by
      rw [L j, if_neg (by omega)]; rfl
    have Bn : ∀ j, j ≠ 2 → j ≠ 3 → j ≠ 4 → j ≠ 75 → (j < 17 ∨ 23 ≤ j) → w2 j = w j := fun j n2 n3 n4 n5 hj => by
      rw [B j hj, if_neg n4, if_neg n3, if_neg n2, if_neg n5]
    have B4 : w2 4 = Rce Pa (9 * v + 8) := by rw [B 4 (by omega), if_pos rfl, a3]
    have B3 : w2 3 = Rce Pa (9 * v + 7) := by rw [B 3 (by omega), if_neg (by omega), if_pos rfl, a2]
    have B2 : w2 2 = Rce Pa (9 * v + 6) := by rw [B 2 (by omega), if_neg (by omega), if_neg (by omega), if_pos rfl, a1]
    have Bw : ∀ i, i < tN (Psz P) → w2 (i + 17) = Rce Pa (9 * v + i) ∧ c2 i = Rce Pa (9 * v + i) := fun i hi => by
      rw [L (i + 17), if_pos (by omega), pk_un (by omega), pk_un (by omega), pk_un (by omega), pk_un (by omega), show i + 17 - 17 = i by omega, G i, if_pos (by omega), cell i (by omega)]
      exact ⟨(a4 i hi).1, rfl⟩
    refine ⟨B4, by trivial, ⟨⟨rp0' ⟨?_, ?_, B2, B4, fun k hk => ?_⟩, ⟨hw.1, hw.2.1, ?_, fun i hi => ⟨(hw.2.2.2 i hi).1, (hw.2.2.2 i hi).2.1, ?_⟩⟩, B3, a6, a7⟩, relW_keep (fun j a b => Bn j (by omega) (by omega) (by omega) (by omega) (by omega)) hW, relNo_keep (fun j a b => Bn j (by omega) (by omega) (by omega) (by omega) (by omega)) hN, relMa_keep (fun j a b => Bn j (by omega) (by omega) (by omega) (by omega) (by omega)) hM, ⟨v, by omega, rfl, ?_, fun e he => ?_⟩⟩, fun j hj => Bn j (by omega) (by omega) (by omega) (by omega) (by omega)⟩
    · show w2 0 = Psz P
      rw [Bn _ (by omega) (by omega) (by omega) (by omega) (by omega)]; exact p0
    · show w2 1 = Pbo P
      rw [Bn _ (by omega) (by omega) (by omega) (by omega) (by omega)]; exact p1
    · have hk' : k < tN (Psz P) := hk
      show w2 (k + 5) = Pkd P k ∧ w2 (k + 11) = Plg P k ∧ w2 (k + 17) = c2 k
      rw [Bn _ (by omega) (by omega) (by omega) (by omega) (by omega), Bn _ (by omega) (by omega) (by omega) (by omega) (by omega), (Bw k hk').1, (Bw k hk').2]
      exact ⟨(pi k hk').1, (pi k hk').2.1, rfl⟩
    · show Rce Pa (9 * v + 6) = -1 ∨ (0 ≤ Rce Pa (9 * v + 6) ∧ tN (Rce Pa (9 * v + 6)) < tN (Psz P) ∧ c2 (tN (Rce Pa (9 * v + 6))) = 0)
      rcases a5 with q | ⟨q1, q2, q3⟩
      · exact Or.inl q
      · exact Or.inr ⟨q1, q2, by rw [(Bw _ q2).2]; exact q3⟩
    · have hi' : i < tN (Psz P) := hi
      show inB (c2 i) 4
      rw [(Bw i hi').2]; exact (a4 i hi').2
    · show w2 75 = nI v
      rw [B 75 (by omega), if_neg (by omega), if_neg (by omega), if_neg (by omega), if_pos rfl]
    · obtain ⟨b1, b2, b3, b4, b5⟩ := ue e (by omega)
      refine ⟨?_, ?_, ?_, fun i hi => ?_, b5⟩
      · rw [Bn _ (by omega) (by omega) (by omega) (by omega) (by omega)]; exact b1
      · rw [Bn _ (by omega) (by omega) (by omega) (by omega) (by omega)]; exact b2
      · rw [Bn _ (by omega) (by omega) (by omega) (by omega) (by omega)]; exact b3
      · rw [Bn _ (by omega) (by omega) (by omega) (by omega) (by omega)]; exact b4 i hi
