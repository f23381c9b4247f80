/-! calls that change a field -/
theorem relB_keep {v v' : Nat → Int32} {P : pS} (hk : ∀ j, j < 23 → v' j = v j) (h : relB v P) : relB v' P := by
  obtain ⟨hp, hw, h3, hb⟩ := h
  obtain ⟨p0, p1, p2, p4, pi⟩ := rp0 hp
  have s6 := hw.1.2
  refine ⟨rp0' ⟨by rw [hk _ (by omega), p0], by rw [hk _ (by omega), p1], by rw [hk _ (by omega), p2], by rw [hk _ (by omega), p4], fun i hi => ?_⟩, hw, by rw [hk _ (by omega), h3], hb⟩
  rw [hk _ (by omega), hk _ (by omega), hk _ (by omega)]; exact pi i hi
theorem relW_keep {v v' Rw : Nat → Int32} (hk : ∀ j, 23 ≤ j → j < 31 → v' j = v j) (h : relW v Rw) : relW v' Rw := fun k q => by rw [hk _ (by omega) (by omega)]; exact h k q
theorem relNo_keep {v v' : Nat → Int32} {R : rS} (hk : ∀ j, 31 ≤ j → j < 50 → v' j = v j) (h : relNo v R) : relNo v' R := by
  obtain ⟨n, n6, nu, n31, nk, nb⟩ := h
  exact ⟨n, n6, nu, by rw [hk _ (by omega) (by omega), n31], fun k q => by rw [hk _ (by omega) (by omega)]; exact nk k q, nb⟩
theorem relMa_keep {v v' : Nat → Int32} {R : rS} (hk : ∀ j, 50 ≤ j → j < 75 → v' j = v j) (h : relMa v R) : relMa v' R := by
  obtain ⟨n, n6, nu, n31, nk, nb⟩ := h
  exact ⟨n, n6, nu, by rw [hk _ (by omega) (by omega), n31], fun k q => by rw [hk _ (by omega) (by omega)]; exact nk k q, nb⟩
theorem relPa_keep {v v' : Nat → Int32} {R : rS} {n0 : Nat} (h6 : n0 ≤ 6) (hk : ∀ j, 75 ≤ j → j < 148 → v' j = v j) (h : relPa v n0 R) : relPa v' n0 R := by
  obtain ⟨u, u8, uu, u75, ue⟩ := h
  refine ⟨u, u8, uu, by rw [hk _ (by omega) (by omega), u75], fun e q => ?_⟩
  obtain ⟨m1, m2, m3, m4, m5⟩ := ue e q
  refine ⟨by rw [hk _ (by omega) (by omega), m1], by rw [hk _ (by omega) (by omega), m2], by rw [hk _ (by omega) (by omega), m3], fun i hi => ?_, m5⟩
  rw [hk _ (by omega) (by omega)]; exact m4 i hi
theorem relPa_empty {v : Nat → Int32} {n0 : Nat} {c : Nat → Int32} (h : v 75 = nI 0) : relPa v n0 (c, nI 0) := ⟨0, by decide, rfl, h, fun e q => by omega⟩
theorem relNo_empty {v : Nat → Int32} {c : Nat → Int32} (h : v 31 = nI 0) : relNo v (c, nI 0) := ⟨0, by decide, rfl, h, fun k q => by omega, fun e q => by omega⟩
theorem relMa_empty {v : Nat → Int32} {c : Nat → Int32} (h : v 50 = nI 0) : relMa v (c, nI 0) := ⟨0, by decide, rfl, h, fun k q => by omega, fun e q => by omega⟩
theorem part_eq (X : xS) (su : Nat → Int32) (wh : Int32) : F_X6_part (Xab X) (Xbe X) su wh = F_X5_part X su wh := by
  unfold F_X6_part F_X5_part
  simp only [let1, let2]
  rw [ref_bad]
  by_cases c : F_X5_within wh (nI 0) (nI 1) = true
  · rw [if_pos c]
    obtain ⟨c0, -, c2⟩ := within_nat (by decide) (by decide) c
    have e := tN_eq c0
    have : tN wh = 0 ∨ tN wh = 1 := by omega
    rcases this with z | z
    · rw [if_pos z, if_pos (by rw [e, z]; rfl)]
    · have n0 : ¬ wh = 0 := fun q => by rw [q] at z; exact absurd z (by decide)
      have n1 : wh = nI 1 := by rw [e, z]
      have n2 : ¬ tN wh = 0 := by omega
      rw [if_neg n0, if_pos n1, if_neg n2]
  · rw [if_neg c]
    have n0 : ¬ wh = 0 := fun z => c (by rw [z]; decide)
    have n1 : ¬ wh = nI 1 := fun z => c (by rw [z]; decide)
    rw [if_neg n0, if_neg n1]
theorem type_eq (X : xS) (tx su : Nat → Int32) (c0 : Int32) (hb : inB (Xtl X) 150) : F_X6_type tx (Xtl X) su c0 = ((F_X5_type X tx su c0).1, (F_X5_type X tx su c0).2.2.1, Xtl (F_X5_type X tx su c0).2.1, (F_X5_type X tx su c0).2.2.2) ∧ Xab (F_X5_type X tx su c0).2.1 = Xab X ∧ Xbe (F_X5_type X tx su c0).2.1 = Xbe X ∧ inB (Xtl (F_X5_type X tx su c0).2.1) 150 ∧ ((∀ j, j < tN (Xtl X) → inB (tx j) 127) → ∀ j, j < tN (Xtl (F_X5_type X tx su c0).2.1) → inB ((F_X5_type X tx su c0).2.2.1 j) 127) := by
  unfold F_X6_type F_X5_type
  simp only [let1, let2]
  rw [iw c0 (a := 0) (b := 127) (lo := nI 0) (hi := nI 127) (by decide) (by decide), ref_bad, ref_full]
  by_cases c : F_X5_within c0 (nI 0) (nI 127) = true
  · rw [if_pos c, if_pos c]
    obtain ⟨q0, -, q2⟩ := within_nat (by decide) (by decide) c
    have hb2 := hb.2
    by_cases d : tN (Xtl X) < 150
    · rw [if_pos d, if_neg (by omega)]
      refine ⟨rfl, rfl, rfl, inB_nI (by omega) (by decide), fun h j hj => ?_⟩
      have hj' : j < tN (nI (tN (Xtl X) + 1)) := hj
      rw [tN_nI (by omega)] at hj'
      show inB (upd tx (tN (Xtl X)) (nI (tN c0)) j) 127
      by_cases z : j = tN (Xtl X)
      · rw [z, pk_us]; exact inB_nI q2 (by decide)
      · rw [pk_un z]; exact h j (by omega)
    · rw [if_neg d, if_pos (by omega)]
      exact ⟨rfl, rfl, rfl, hb, fun h => h⟩
  · rw [if_neg c, if_neg c]
    exact ⟨rfl, rfl, rfl, hb, fun h => h⟩
theorem row_eq {w su : Nat → Int32} {P : pS} {Rw : Nat → Int32} {No Ma Pa : rS} (h : relF w P Rw No Ma Pa) (k hi : Int32) : (F_X6_row w su k hi).1 = (F_X5_row Rw su k hi).1 ∧ (F_X6_row w su k hi).2.2 = (F_X5_row Rw su k hi).2.2 ∧ relF (F_X6_row w su k hi).2.1 P (F_X5_row Rw su k hi).2.1 No Ma Pa ∧ ∀ j, 148 ≤ j → (F_X6_row w su k hi).2.1 j = w j := by
  unfold F_X6_row F_X5_row F_X5_isHit
  simp only [let1, let2]
  rw [iw k (a := 0) (b := 7) (lo := nI 0) (hi := nI 7) (by decide) (by decide), iw hi (a := 0) (b := 9) (lo := nI 0) (hi := nI 9) (by decide) (by decide), ref_bad]
  by_cases c : F_X5_within k (nI 0) (nI 7) = true
  · rw [if_pos c, if_pos c]
    obtain ⟨c0, -, c2⟩ := within_nat (by decide) (by decide) c
    by_cases d : F_X5_within hi (nI 0) (nI 9) = true
    · rw [if_pos d, if_pos d]
      obtain ⟨d0, -, d2⟩ := within_nat (by decide) (by decide) d
      obtain ⟨hB, hW, hN, hM, hU⟩ := h
      refine ⟨(hW _ (by omega)).1, rfl, ⟨relB_keep (fun j hj => pk_un (by omega)) hB, fun j hj => ?_, relNo_keep (fun j h1 h2 => pk_un (by omega)) hN, relMa_keep (fun j h1 h2 => pk_un (by omega)) hM, relPa_keep hB.2.1.1.2 (fun j h1 h2 => pk_un (by omega)) hU⟩, fun j hj => pk_un (by omega)⟩
      show upd w (tN k + 23) (nI (tN hi)) (j + 23) = upd Rw (tN k) (nI (tN hi)) j ∧ inB (upd Rw (tN k) (nI (tN hi)) j) 9
      by_cases z : j = tN k
      · rw [z, pk_us, pk_us]; exact ⟨rfl, inB_nI d2 (by decide)⟩
      · rw [pk_un (by omega), pk_un z]; exact hW j hj
    · rw [if_neg d, if_neg d]
      exact ⟨rfl, rfl, h, fun _ _ => rfl⟩
  · rw [if_neg c, if_neg c]
    exact ⟨rfl, rfl, h, fun _ _ => rfl⟩
theorem bowler_eq {w su : Nat → Int32} {P : pS} {Rw : Nat → Int32} {No Ma Pa : rS} (h : relF w P Rw No Ma Pa) (k : Int32) : (F_X6_bowler w su k).1 = (F_X5_bowler P Pa su k).1 ∧ (F_X6_bowler w su k).2.2 = (F_X5_bowler P Pa su k).2.2.2 ∧ relF (F_X6_bowler w su k).2.1 (F_X5_bowler P Pa su k).2.1 Rw No Ma (F_X5_bowler P Pa su k).2.2.1 ∧ ∀ j, 148 ≤ j → (F_X6_bowler w su k).2.1 j = w j := by
  unfold F_X6_bowler F_X5_bowler F_X5_isKind F_X4_empty_v9
  simp only [let1, let2]
  rw [iw k (a := 0) (b := 5) (lo := nI 0) (hi := nI 5) (by decide) (by decide), ref_bad]
  by_cases c : F_X5_within k (nI 0) (nI 5) = true
  · rw [if_pos c, if_pos c]
    obtain ⟨c0, -, c2⟩ := within_nat (by decide) (by decide) c
    obtain ⟨hB, hW, hN, hM, hU⟩ := h
    obtain ⟨hp, hw, h3, hb⟩ := hB
    obtain ⟨p0, p1, p2, p4, pi⟩ := rp0 hp
    have s6 := hw.1.2
    refine ⟨p1, rfl, ⟨⟨rp0' ⟨?_, ?_, ?_, ?_, fun i hi => ?_⟩, ⟨hw.1, inB_nI c2 (by decide), hw.2.2.1, hw.2.2.2⟩, ?_, hb⟩, relW_keep (fun j h1 h2 => ?_) hW, relNo_keep (fun j h1 h2 => ?_) hN, relMa_keep (fun j h1 h2 => ?_) hM, relPa_empty (show upd (upd w 1 (nI (tN k))) 75 (nI 0) 75 = nI 0 from pk_us)⟩, fun j hj => ?_⟩
    · show upd (upd w 1 (nI (tN k))) 75 (nI 0) 0 = _
      rw [pk_un (by omega), pk_un (by omega)]; exact p0
    · show upd (upd w 1 (nI (tN k))) 75 (nI 0) 1 = _
      rw [pk_un (by omega), pk_us]
    · show upd (upd w 1 (nI (tN k))) 75 (nI 0) 2 = _
      rw [pk_un (by omega), pk_un (by omega)]; exact p2
    · show upd (upd w 1 (nI (tN k))) 75 (nI 0) 4 = _
      rw [pk_un (by omega), pk_un (by omega)]; exact p4
    · have hi' : i < tN (Psz P) := hi
      show upd (upd w 1 (nI (tN k))) 75 (nI 0) (i + 5) = _ ∧ upd (upd w 1 (nI (tN k))) 75 (nI 0) (i + 11) = _ ∧ upd (upd w 1 (nI (tN k))) 75 (nI 0) (i + 17) = _
      rw [pk_un (by omega), pk_un (by omega), pk_un (by omega), pk_un (by omega), pk_un (by omega), pk_un (by omega)]; exact pi i hi'
    · show upd (upd w 1 (nI (tN k))) 75 (nI 0) 3 = _
      rw [pk_un (by omega), pk_un (by omega)]; exact h3
    · show upd (upd w 1 (nI (tN k))) 75 (nI 0) j = _
      rw [pk_un (by omega), pk_un (by omega)]
    · show upd (upd w 1 (nI (tN k))) 75 (nI 0) j = _
      rw [pk_un (by omega), pk_un (by omega)]
    · show upd (upd w 1 (nI (tN k))) 75 (nI 0) j = _
      rw [pk_un (by omega), pk_un (by omega)]
    · show upd (upd w 1 (nI (tN k))) 75 (nI 0) j = _
      rw [pk_un (by omega), pk_un (by omega)]
  · rw [if_neg c, if_neg c]
    exact ⟨rfl, rfl, h, fun _ _ => rfl⟩
theorem L_emp (R : Nat) : ∀ (n k : Nat) (w1 : Nat → Int32), 148 - k < n → ∀ j, (F_X6_empties_L2 n R k w1).2 j = if R + k ≤ j ∧ j < R + 148 then nI 0 else w1 j
  | 0, _, _, h => by omega
  | n + 1, k, w1, h => by
    intro j
    rw [F_X6_empties_L2]
    by_cases c : 148 ≤ k
    · rw [if_pos c, if_neg (by omega)]
    · rw [if_neg c, L_emp R n (k + 1) _ (by omega) j]
      by_cases d : j = R + k
      · rw [d, if_neg (by omega), if_pos (by omega), pk_us]
      · rw [pk_un d]
        by_cases z : R + (k + 1) ≤ j ∧ j < R + 148
        · rw [if_pos z, if_pos (by omega)]
        · rw [if_neg z, if_neg (by omega)]
theorem emp_at (w : Nat → Int32) (R j : Nat) : F_X6_empties w R j = if R ≤ j ∧ j < R + 148 then nI 0 else w j := L_emp R 149 0 w (by decide) j
theorem L_beg (R : Nat) : ∀ (n k : Nat) (w1 : Nat → Int32), 8 - k < n → ∀ j, (F_X6_begins_L25 n R k w1).2 j = if R + k + 23 ≤ j ∧ j < R + 31 then nI 5 else w1 j
  | 0, _, _, h => by omega
  | n + 1, k, w1, h => by
    intro j
    rw [F_X6_begins_L25]
    by_cases c : 8 ≤ k
    · rw [if_pos c, if_neg (by omega)]
    · rw [if_neg c, L_beg R n (k + 1) _ (by omega) j]
      by_cases d : j = R + k + 23
      · rw [d, if_neg (by omega), if_pos (by omega), pk_us]
      · rw [pk_un d]
        by_cases z : R + (k + 1) + 23 ≤ j ∧ j < R + 31
        · rw [if_pos z, if_pos (by omega)]
        · rw [if_neg z, if_neg (by omega)]
theorem beg_at (w : Nat → Int32) (R : Nat) (kd : Int32) (j : Nat) : F_X6_begins w R kd j = if R + 23 ≤ j ∧ j < R + 31 then nI 5 else if j = R + 2 then -1 else if j = R + 1 then kd else if R ≤ j ∧ j < R + 148 then nI 0 else w j := by
  unfold F_X6_begins
  simp only [let1, let2]
  rw [L_beg R 9 0 _ (by decide) j, Nat.add_zero]
  by_cases c : R + 23 ≤ j ∧ j < R + 31
  · rw [if_pos c, if_pos c]
  · rw [if_neg c, if_neg c]
    by_cases d : j = R + 2
    · rw [if_pos d, d, pk_us]
    · rw [if_neg d, pk_un d]
      by_cases e : j = R + 1
      · rw [if_pos e, e, pk_us]
      · rw [if_neg e, pk_un e, emp_at]
theorem L_fl8 (v : Int32) : ∀ (n k : Nat) (f : Nat → Int32), 8 - k < n → ∀ j, j < 8 → (F_J7_fill_53178_v8_L5 n v k f).2 j = if k ≤ j then v else f j
  | 0, _, _, h => by omega
  | n + 1, k, f, h => by
    intro j hj
    rw [F_J7_fill_53178_v8_L5]
    by_cases c : 8 ≤ k
    · rw [if_pos c, if_neg (by omega)]
    · rw [if_neg c, L_fl8 v n (k + 1) _ (by omega) j hj]
      by_cases d : j = k
      · rw [d, if_neg (by omega), if_pos (by omega), pk_us]
      · rw [pk_un d]
        by_cases z : k + 1 ≤ j
        · rw [if_pos z, if_pos (by omega)]
        · rw [if_neg z, if_neg (by omega)]
theorem fl8_at (f : Nat → Int32) (v : Int32) {j : Nat} (hj : j < 8) : F_J7_fill_53178_v8 f v j = v := by
  unfold F_J7_fill_53178_v8
  simp only [let2]
  rw [L_fl8 v 9 0 f (by decide) j hj, if_pos (Nat.zero_le j)]
/-- a new field -/
theorem relF_new {v : Nat → Int32} {kd : Int32} {k : Nat} (hk : k ≤ 5) (he : kd = nI k) (hv : ∀ j, j < 148 → v j = if 23 ≤ j ∧ j < 31 then nI 5 else if j = 2 then -1 else if j = 1 then kd else nI 0) {f1 f2 f3 Rw c1 c2 c3 : Nat → Int32} (hR : ∀ k, k < 8 → Rw k = nI 5) : relF v (kd, nI 0, f1, f2, f3, -1, nI 0, nI 0) Rw (c1, nI 0) (c2, nI 0) (c3, nI 0) := by
  have z0 : tN (nI 0) = 0 := by decide
  refine ⟨⟨rp0' ⟨?_, ?_, ?_, ?_, fun i hi => ?_⟩, ⟨inB_nI (by decide) (by decide), by show inB kd 5; rw [he]; exact inB_nI hk (by decide), Or.inl rfl, fun i hi => ?_⟩, ?_, inB_nI (by decide) (by decide), inB_nI (by decide) (by decide)⟩, fun j hj => ?_, relNo_empty ?_, relMa_empty ?_, relPa_empty ?_⟩
  · rw [hv 0 (by decide)]; rfl
  · rw [hv 1 (by decide)]; rfl
  · rw [hv 2 (by decide)]; rfl
  · rw [hv 4 (by decide)]; rfl
  · have : i < tN (nI 0) := hi
    omega
  · have : i < tN (nI 0) := hi
    omega
  · rw [hv 3 (by decide)]; rfl
  · rw [hv _ (by omega), if_pos (by omega), hR j hj]; exact ⟨rfl, inB_nI (by decide) (by decide)⟩
  · rw [hv 31 (by decide)]; rfl
  · rw [hv 50 (by decide)]; rfl
  · rw [hv 75 (by decide)]; rfl
theorem field_eq {w su : Nat → Int32} {P : pS} {Rw : Nat → Int32} {No Ma Pa : rS} (h : relF w P Rw No Ma Pa) (k : Int32) : (F_X6_field w su k).1 = (F_X5_field P Rw No Ma Pa su k).1 ∧ (F_X6_field w su k).2.2 = (F_X5_field P Rw No Ma Pa su k).2.2.2.2.2.2 ∧ relF (F_X6_field w su k).2.1 (F_X5_field P Rw No Ma Pa su k).2.1 (F_X5_field P Rw No Ma Pa su k).2.2.1 (F_X5_field P Rw No Ma Pa su k).2.2.2.1 (F_X5_field P Rw No Ma Pa su k).2.2.2.2.1 (F_X5_field P Rw No Ma Pa su k).2.2.2.2.2.1 ∧ ∀ j, 148 ≤ j → (F_X6_field w su k).2.1 j = w j := by
  unfold F_X6_field F_X5_field F_X5_isKind F_X1_begin F_X4_empty_v9 F_X4_empty_v4 F_X4_empty_v3 F_X2_begin
  simp only [let1, let2, let5]
  rw [iw k (a := 0) (b := 5) (lo := nI 0) (hi := nI 5) (by decide) (by decide), ref_bad]
  by_cases c : F_X5_within k (nI 0) (nI 5) = true
  · rw [if_pos c, if_pos c]
    obtain ⟨c0, -, c2⟩ := within_nat (by decide) (by decide) c
    obtain ⟨p0, p1, p2, p4, pi⟩ := rp0 h.1.1
    refine ⟨p0, rfl, relF_new c2 rfl (fun j hj => ?_) (fun j hj => fl8_at Rw (nI 5) hj), fun j hj => ?_⟩
    · show F_X6_begins w 0 (nI (tN k)) j = _
      rw [beg_at]
      simp only [Nat.zero_add]
      by_cases a : 23 ≤ j ∧ j < 31
      · rw [if_pos a, if_pos a]
      · rw [if_neg a, if_neg a]
        by_cases b : j = 2
        · rw [if_pos b, if_pos b]
        · rw [if_neg b, if_neg b]
          by_cases d : j = 1
          · rw [if_pos d, if_pos d]
          · rw [if_neg d, if_neg d, if_pos ⟨Nat.zero_le _, hj⟩]
    · show F_X6_begins w 0 _ j = w j
      rw [beg_at, if_neg (by omega), if_neg (by omega), if_neg (by omega), if_neg (by omega)]
  · rw [if_neg c, if_neg c]
    exact ⟨rfl, rfl, h, fun _ _ => rfl⟩
