/-! what there is: count, digest, image, from -/
theorem L_areAt {w : Nat → Int32} {P : pS} (p0 : w 0 = Psz P) (pi : ∀ i, i < tN (Psz P) → w (i + 17) = Pwh P i) (lo hi : Int32) : ∀ (f k c0 : Nat), F_X6_areAt_L5 f lo hi w k c0 = F_X2_howManyAt_L5 f lo hi P k c0
  | 0, _, _ => rfl
  | f + 1, k, c0 => by
    rw [F_X6_areAt_L5, F_X2_howManyAt_L5, p0]
    by_cases c : tN (Psz P) ≤ k
    · rw [if_pos c, if_pos c]
    · rw [if_neg c, if_neg c, pi k (by omega), iw (Pwh P k) (lo := lo) (hi := hi) rfl rfl, L_areAt p0 pi lo hi f, L_areAt p0 pi lo hi f]
theorem areAt_eq {w : Nat → Int32} {P : pS} (p0 : w 0 = Psz P) (pi : ∀ i, i < tN (Psz P) → w (i + 17) = Pwh P i) (lo hi : Int32) : F_X6_areAt w lo hi = F_X2_howManyAt P lo hi := by
  unfold F_X6_areAt F_X2_howManyAt
  rw [L_areAt p0 pi]
theorem size3 {v : Nat → Int32} {R : rS} (h : relNo v R) : v 31 = F_X4_size_v3 R ∧ tN (Rus R) = 3 * tN (v 31) := by
  obtain ⟨n, n6, nu, n31, -⟩ := h
  unfold F_X4_size_v3
  rw [nu, tN_nI (by omega), show 3 * n / 3 = n by omega, n31, tN_nI (by omega)]
  exact ⟨rfl, rfl⟩
theorem size4 {v : Nat → Int32} {R : rS} (h : relMa v R) : v 50 = F_X4_size_v4 R ∧ tN (Rus R) = 4 * tN (v 50) := by
  obtain ⟨n, n6, nu, n31, -⟩ := h
  unfold F_X4_size_v4
  rw [nu, tN_nI (by omega), show 4 * n / 4 = n by omega, n31, tN_nI (by omega)]
  exact ⟨rfl, rfl⟩
theorem size9 {v : Nat → Int32} {n0 : Nat} {R : rS} (h : relPa v n0 R) : v 75 = F_X4_size_v9 R := by
  obtain ⟨n, n6, nu, n31, -⟩ := h
  unfold F_X4_size_v9
  rw [nu, tN_nI (by omega), show 9 * n / 9 = n by omega, n31]
theorem countOf_eq {w su : Nat → Int32} {P : pS} {Rw : Nat → Int32} {No Ma Pa : rS} (h : relF w P Rw No Ma Pa) (X : xS) {t : Nat} (ht : t ≤ 11) : F_X5_count X P No Ma Pa su (nI t) = (F_X6_countOf w (Xtl X) (nI t), su) := by
  obtain ⟨p0, p1, p2, p4, pi⟩ := rp0 h.1.1
  have pw : ∀ i, i < tN (Psz P) → w (i + 17) = Pwh P i := fun i hi => (pi i hi).2.2
  have h3 := h.1.2.2.1
  unfold F_X5_count F_X6_countOf
  simp only [let1, let2]
  rw [areAt_eq p0 pw, areAt_eq p0 pw, areAt_eq p0 pw, p0, p1, p2, h3, p4, (size3 h.2.2.1).1, (size4 h.2.2.2.1).1, size9 h.2.2.2.2]
  by_cases c0 : nI t = nI 0
  · rw [if_pos c0, if_pos c0]
  rw [if_neg c0, if_neg c0]
  by_cases c1 : nI t = nI 1
  · rw [if_pos c1, if_pos c1]
  rw [if_neg c1, if_neg c1]
  by_cases c2 : nI t = nI 2
  · rw [if_pos c2, if_pos c2]
  rw [if_neg c2, if_neg c2]
  by_cases c3 : nI t = nI 3
  · rw [if_pos c3, if_pos c3]
  rw [if_neg c3, if_neg c3]
  by_cases c4 : nI t = nI 4
  · rw [if_pos c4, if_pos c4]
  rw [if_neg c4, if_neg c4]
  by_cases c5 : nI t = nI 5
  · rw [if_pos c5, if_pos c5]
  rw [if_neg c5, if_neg c5]
  by_cases c6 : nI t = nI 6
  · rw [if_pos c6, if_pos c6]
  rw [if_neg c6, if_neg c6]
  by_cases c7 : nI t = nI 7
  · rw [if_pos c7, if_pos c7]
  rw [if_neg c7, if_neg c7]
  by_cases c8 : nI t = nI 8
  · rw [if_pos c8, if_pos c8]
  rw [if_neg c8, if_neg c8]
  by_cases c9 : nI t = nI 9
  · rw [if_pos c9, if_pos c9]
  rw [if_neg c9, if_neg c9]
  by_cases c10 : nI t = nI 10
  · rw [if_pos c10, if_pos c10]
  rw [if_neg c10, if_neg c10]
  have n : ∀ k, ¬ nI t = nI k → t ≠ k := fun k q z => q (by rw [z])
  have a0 := n 0 c0
  have a1 := n 1 c1
  have a2 := n 2 c2
  have a3 := n 3 c3
  have a4 := n 4 c4
  have a5 := n 5 c5
  have a6 := n 6 c6
  have a7 := n 7 c7
  have a8 := n 8 c8
  have a9 := n 9 c9
  have a10 := n 10 c10
  rw [if_pos (show nI t = nI 11 from by rw [show t = 11 by omega])]
theorem count_eq {w su : Nat → Int32} {P : pS} {Rw : Nat → Int32} {No Ma Pa : rS} (h : relF w P Rw No Ma Pa) (X : xS) (wh : Int32) : F_X6_count w (Xtl X) su wh = F_X5_count X P No Ma Pa su wh := by
  unfold F_X6_count
  simp only [let1, let2]
  rw [iw wh (a := 0) (b := 11) (lo := nI 0) (hi := nI 11) (by decide) (by decide)]
  by_cases c : F_X5_within wh (nI 0) (nI 11) = true
  · rw [if_pos c]
    obtain ⟨c0, -, c2⟩ := within_nat (by decide) (by decide) c
    have e := tN_eq c0
    rw [e, tN_nI (tN_lt _), countOf_eq h X c2]
  · rw [if_neg c]
    have n : ∀ k, k ≤ 11 → ¬ wh = nI k := fun k hk z => c (by
      rw [z, within_iff]
      exact ⟨(nI_leI (by decide) (by omega)).mpr (Nat.zero_le _), (nI_leI (by omega) (by decide)).mpr hk⟩)
    unfold F_X5_count
    simp only [let1, let2]
    rw [if_neg (n 0 (by decide)), if_neg (n 1 (by decide)), if_neg (n 2 (by decide)), if_neg (n 3 (by decide)), if_neg (n 4 (by decide)), if_neg (n 5 (by decide)), if_neg (n 6 (by decide)), if_neg (n 7 (by decide)), if_neg (n 8 (by decide)), if_neg (n 9 (by decide)), if_neg (n 10 (by decide)), if_neg (n 11 (by decide)), ref_bad]
theorem L_dg6 {w : Nat → Int32} {P : pS} {Rw : Nat → Int32} {No Ma Pa : rS} (h : relF w P Rw No Ma Pa) (X : xS) : ∀ (f k : Nat) (h1 : Int64) (su : Nat → Int32), (F_X5_digest_L6 f X P No Ma Pa k h1 su).2.1 = (F_X6_digest_L9 f w (Xtl X) k h1).2 ∧ (F_X5_digest_L6 f X P No Ma Pa k h1 su).2.2 = su
  | 0, _, _, _ => ⟨rfl, rfl⟩
  | f + 1, k, h1, su => by
    rw [F_X5_digest_L6, F_X6_digest_L9]
    by_cases c : 12 ≤ k
    · rw [if_pos c, if_pos c]; exact ⟨rfl, rfl⟩
    · rw [if_neg c, if_neg c, countOf_eq h X (by omega)]
      simp only [let1, let2]
      exact L_dg6 h X f (k + 1) _ su
theorem told3 {P : pS} {i : Nat} (hs : inB (Psz P) 6) (hi : i < tN (Psz P)) : F_X2_told P (nI i) (nI 0) = Pkd P i ∧ F_X2_told P (nI i) (nI 1) = Plg P i ∧ F_X2_told P (nI i) (nI 2) = Pwh P i := by
  have h6 := hs.2
  have c : F_X5_within (nI i) (nI 0) (nI (tN (Psz P)) - nI 1) = true := by
    rw [pk_sub (by omega), within_iff]
    exact ⟨(nI_leI (by decide) (by omega)).mpr (Nat.zero_le _), (nI_leI (by omega) (by omega)).mpr (by omega)⟩
  unfold F_X2_told
  rw [if_pos c, if_pos c, if_pos c, tN_nI (by omega)]
  refine ⟨?_, ?_, ?_⟩
  · rw [if_pos (by decide)]
  · rw [if_neg (by decide), if_pos rfl]
  · rw [if_neg (by decide), if_neg (by decide)]
theorem let3_eq {α1 α2 α3 γ : Type} (p : α1 × α2 × α3) (k : α1 → α2 → α3 → γ) : let3 p k = k p.1 p.2.1 p.2.2 := rfl
theorem d50 (n : Nat) (P : pS) (i w0 : Nat) (h3 : Int64) (hw : ¬ 2 < w0) : F_X5_digest_L50 (n + 1) P i w0 h3 = F_X5_digest_L50 n P i (w0 + 1) (F_X6_mix h3 (F_X2_told P (nI i) (nI w0)).toInt64) := by
  rw [F_X5_digest_L50, if_neg hw, let1_mk, F_X6_mix]
theorem d50e (n : Nat) (P : pS) (i : Nat) (h3 : Int64) : F_X5_digest_L50 (n + 1) P i 3 h3 = (3, h3) := by
  rw [F_X5_digest_L50, if_pos (by decide)]
theorem d50a {P : pS} {i : Nat} (h3 : Int64) (hs : inB (Psz P) 6) (hi : i < tN (Psz P)) : (F_X5_digest_L50 4 P i 0 h3).2 = F_X6_mix (F_X6_mix (F_X6_mix h3 (Pkd P i).toInt64) (Plg P i).toInt64) (Pwh P i).toInt64 := by
  obtain ⟨t0, t1, t2⟩ := told3 hs hi
  have e : F_X5_digest_L50 (3 + 1) P i 0 h3 = (3, F_X6_mix (F_X6_mix (F_X6_mix h3 (F_X2_told P (nI i) (nI 0)).toInt64) (F_X2_told P (nI i) (nI 1)).toInt64) (F_X2_told P (nI i) (nI 2)).toInt64) := by
    rw [d50 3 P i 0 h3 (by decide), d50 2 P i 1 _ (by decide), d50 1 P i 2 _ (by decide), d50e 0 P i]
  rw [t0, t1, t2] at e
  exact congrArg Prod.snd e
theorem L_dg33 {w : Nat → Int32} {P : pS} (p0 : w 0 = Psz P) (hs : inB (Psz P) 6) (pi : ∀ i, i < tN (Psz P) → w (i + 5) = Pkd P i ∧ w (i + 11) = Plg P i ∧ w (i + 17) = Pwh P i) : ∀ (f i : Nat) (h1 : Int64), (F_X5_digest_L33 f P i h1).2 = (F_X6_digest_L33 f w i h1).2
  | 0, _, _ => rfl
  | f + 1, i, h1 => by
    rw [F_X5_digest_L33, F_X6_digest_L33, p0]
    by_cases c : tN (Psz P) ≤ i
    · rw [if_pos c, if_pos c]
    · obtain ⟨q0, q1, q2⟩ := pi i (by omega)
      have e := d50a h1 hs (i := i) (by omega)
      generalize F_X5_digest_L50 4 P i 0 h1 = Z at e ⊢
      rw [if_neg c, if_neg c, let2_eq, let1_mk, let1_mk, let1_mk, e, q0, q1, q2]
      exact L_dg33 p0 hs pi f (i + 1) _
theorem L_dg91 {w Rw : Nat → Int32} (hW : relW w Rw) : ∀ (f k : Nat) (h1 : Int64), (F_X5_digest_L91 f Rw k h1).2 = (F_X6_mixes_L2 f 23 8 w k h1).2
  | 0, _, _ => rfl
  | f + 1, k, h1 => by
    rw [F_X5_digest_L91, F_X6_mixes_L2]
    by_cases c : 8 ≤ k
    · rw [if_pos c, if_pos c]
    · rw [if_neg c, if_neg c]
      simp only [let1]
      rw [Nat.add_comm 23 k, (hW k (by omega)).1]
      exact L_dg91 hW f (k + 1) _
theorem L_dgm3 {w : Nat → Int32} {R : rS} (fr n : Nat) (hn : tN (Rus R) = n) (hk : ∀ k, k < n → w (fr + k) = Rce R k) : ∀ (f f' k : Nat) (h1 : Int64), n - k < f → n - k < f' → (F_X4_digestFrom_v3_L2 f R k h1).2 = (F_X6_mixes_L2 f' fr n w k h1).2
  | 0, _, _, _, h, _ => by omega
  | _ + 1, 0, _, _, _, h => by omega
  | f + 1, f' + 1, k, h1, a, b => by
    rw [F_X4_digestFrom_v3_L2, F_X6_mixes_L2, hn]
    by_cases c : n ≤ k
    · rw [if_pos c, if_pos c]
    · rw [if_neg c, if_neg c]
      simp only [let1]
      rw [hk k (by omega)]
      exact L_dgm3 fr n hn hk f f' (k + 1) _ (by omega) (by omega)
theorem L_dgm4 {w : Nat → Int32} {R : rS} (fr n : Nat) (hn : tN (Rus R) = n) (hk : ∀ k, k < n → w (fr + k) = Rce R k) : ∀ (f f' k : Nat) (h1 : Int64), n - k < f → n - k < f' → (F_X4_digestFrom_v4_L2 f R k h1).2 = (F_X6_mixes_L2 f' fr n w k h1).2
  | 0, _, _, _, h, _ => by omega
  | _ + 1, 0, _, _, _, h => by omega
  | f + 1, f' + 1, k, h1, a, b => by
    rw [F_X4_digestFrom_v4_L2, F_X6_mixes_L2, hn]
    by_cases c : n ≤ k
    · rw [if_pos c, if_pos c]
    · rw [if_neg c, if_neg c]
      simp only [let1]
      rw [hk k (by omega)]
      exact L_dgm4 fr n hn hk f f' (k + 1) _ (by omega) (by omega)
theorem mixes_eq (w : Nat → Int32) (hh : Int64) (fr n : Nat) : F_X6_mixes w hh fr n = (F_X6_mixes_L2 (n + 1) fr n w 0 hh).2 := by
  rw [F_X6_mixes, let2_eq]
theorem mixes8 (w : Nat → Int32) (hh : Int64) : F_X6_mixes w hh 23 8 = (F_X6_mixes_L2 9 23 8 w 0 hh).2 := mixes_eq w hh 23 8
theorem df3_eq (R : rS) (h : Int64) : F_X4_digestFrom_v3 R h = (F_X4_digestFrom_v3_L2 19 R 0 h).2 := by
  rw [F_X4_digestFrom_v3, let2_eq]
theorem df4_eq (R : rS) (h : Int64) : F_X4_digestFrom_v4 R h = (F_X4_digestFrom_v4_L2 25 R 0 h).2 := by
  rw [F_X4_digestFrom_v4, let2_eq]
theorem dig6 (w : Nat → Int32) (td : Int32) (ab be : Int64) : (F_X6_digest w td ab be).1 = F_X6_mix (F_X6_mix (F_X6_mixes w (F_X6_mixes w (F_X6_mixes w (F_X6_digest_L33 7 w 0 (F_X6_digest_L9 13 w td 0 1873).2).2 23 8) 32 (3 * tN (w 31))) 51 (4 * tN (w 50))) ab) be := by
  rw [F_X6_digest, let2_eq, let2_eq, let1_mk, let1_mk, let1_mk, let1_mk, let1_mk]
theorem dig5 (X : xS) (P : pS) (Rw : Nat → Int32) (No Ma Pa : rS) (su : Nat → Int32) : F_X5_digest X P Rw No Ma Pa su = (31 * (31 * (F_X4_digestFrom_v4 Ma (F_X4_digestFrom_v3 No (F_X5_digest_L91 9 Rw 0 (F_X5_digest_L33 7 P 0 (F_X5_digest_L6 13 X P No Ma Pa 0 1873 su).2.1).2).2)) + Xab X) + Xbe X, (F_X5_digest_L6 13 X P No Ma Pa 0 1873 su).2.2) := by
  rw [F_X5_digest, let3_eq, let2_eq, let2_eq, let1_mk, let1_mk]
theorem digest_eq {w su : Nat → Int32} {P : pS} {Rw : Nat → Int32} {No Ma Pa : rS} (h : relF w P Rw No Ma Pa) (X : xS) : (F_X6_digest w (Xtl X) (Xab X) (Xbe X)).1 = (F_X5_digest X P Rw No Ma Pa su).1 ∧ (F_X5_digest X P Rw No Ma Pa su).2 = su := by
  obtain ⟨p0, p1, p2, p4, pi⟩ := rp0 h.1.1
  have hs := rel_sz h
  obtain ⟨n, n6, nu, n31, nk, nb⟩ := h.2.2.1
  obtain ⟨a, a6, au, a50, ak, ab⟩ := h.2.2.2.1
  have t1 : tN (Rus No) = 3 * n := by rw [nu]; exact tN_nI (by omega)
  have t2 : tN (Rus Ma) = 4 * a := by rw [au]; exact tN_nI (by omega)
  have L6 := L_dg6 h X 13 0 1873 su
  have m1 : tN (w 31) = n := by rw [n31]; exact tN_nI (by omega)
  have m2 : tN (w 50) = a := by rw [a50]; exact tN_nI (by omega)
  rw [dig6, dig5]
  refine ⟨?_, L6.2⟩
  rw [m1, m2, L6.1]
  generalize (F_X6_digest_L9 13 w (Xtl X) 0 1873).2 = h1
  have q1 := L_dg33 p0 hs pi 7 0 h1
  generalize (F_X6_digest_L33 7 w 0 h1).2 = h2 at q1 ⊢
  generalize F_X5_digest_L33 7 P 0 h1 = Z1 at q1 ⊢
  rw [q1]
  have q2 := L_dg91 h.2.1 9 0 h2
  rw [← mixes8] at q2
  generalize F_X6_mixes w h2 23 8 = h3 at q2 ⊢
  generalize F_X5_digest_L91 9 Rw 0 h2 = Z2 at q2 ⊢
  rw [q2]
  have q3 := L_dgm3 (w := w) 32 (3 * n) t1 (fun k hk => by rw [Nat.add_comm 32 k]; exact nk k hk) 19 (3 * n + 1) 0 h3 (by omega) (by omega)
  rw [← df3_eq, ← mixes_eq] at q3
  rw [q3]
  generalize F_X6_mixes w h3 32 (3 * n) = h4
  have q4 := L_dgm4 (w := w) 51 (4 * a) t2 (fun k hk => by rw [Nat.add_comm 51 k]; exact ak k hk) 25 (4 * a + 1) 0 h4 (by omega) (by omega)
  rw [← df4_eq, ← mixes_eq] at q4
  rw [q4, F_X6_mix, F_X6_mix]
/-! images -/
theorem L_cp2 (fr to : Nat) (hd : fr + 148 ≤ to ∨ to + 148 ≤ fr) : ∀ (n k : Nat) (w1 : Nat → Int32), 148 - k < n → ∀ j, (F_X6_copy_L2 n fr to k w1).2 j = if to + k ≤ j ∧ j < to + 148 then w1 (fr + (j - to)) else w1 j
  | 0, _, _, h => by omega
  | n + 1, k, w1, h => by
    intro j
    rw [F_X6_copy_L2]
    by_cases c : 148 ≤ k
    · rw [if_pos c, if_neg (by omega)]
    · rw [if_neg c, L_cp2 fr to hd n (k + 1) _ (by omega) j]
      by_cases z : to + (k + 1) ≤ j ∧ j < to + 148
      · rw [if_pos z, if_pos (by omega), pk_un (by omega)]
      · rw [if_neg z]
        by_cases d : j = to + k
        · rw [d, if_pos (by omega), pk_us, show to + k - to = k by omega]
        · rw [pk_un d, if_neg (by omega)]
theorem copy_at (w : Nat → Int32) (fr to : Nat) (hd : fr + 148 ≤ to ∨ to + 148 ≤ fr) (j : Nat) : F_X6_copy w fr to j = if to ≤ j ∧ j < to + 148 then w (fr + (j - to)) else w j := by
  unfold F_X6_copy
  simp only [let2]
  exact L_cp2 fr to hd 149 0 w (by decide) j
theorem cp3 (R : rS) {O : rS} (h : inB (Rus O) 18) : Rus (F_X4_copy_v3 R O) = Rus O ∧ ∀ k, k < tN (Rus O) → Rce (F_X4_copy_v3 R O) k = Rce O k := by
  unfold F_X4_copy_v3
  have l := h.2
  rw [if_neg (fun z => by have := (nI_ltI (by decide) (by omega)).mp z; omega)]
  refine ⟨(tN_eq h.1).symm, fun k hk => ?_⟩
  show va_cpy (Rce O) (Rce R) 0 0 (tN (Rus O)) k = Rce O k
  rw [pk_cpy_in (Nat.zero_le _) (by omega), Nat.zero_add, Nat.sub_zero]
theorem cp4 (R : rS) {O : rS} (h : inB (Rus O) 24) : Rus (F_X4_copy_v4 R O) = Rus O ∧ ∀ k, k < tN (Rus O) → Rce (F_X4_copy_v4 R O) k = Rce O k := by
  unfold F_X4_copy_v4
  have l := h.2
  rw [if_neg (fun z => by have := (nI_ltI (by decide) (by omega)).mp z; omega)]
  refine ⟨(tN_eq h.1).symm, fun k hk => ?_⟩
  show va_cpy (Rce O) (Rce R) 0 0 (tN (Rus O)) k = Rce O k
  rw [pk_cpy_in (Nat.zero_le _) (by omega), Nat.zero_add, Nat.sub_zero]
theorem cp9 (R : rS) {O : rS} (h : inB (Rus O) 72) : Rus (F_X4_copy_v9 R O) = Rus O ∧ ∀ k, k < tN (Rus O) → Rce (F_X4_copy_v9 R O) k = Rce O k := by
  unfold F_X4_copy_v9
  have l := h.2
  rw [if_neg (fun z => by have := (nI_ltI (by decide) (by omega)).mp z; omega)]
  refine ⟨(tN_eq h.1).symm, fun k hk => ?_⟩
  show va_cpy (Rce O) (Rce R) 0 0 (tN (Rus O)) k = Rce O k
  rw [pk_cpy_in (Nat.zero_le _) (by omega), Nat.zero_add, Nat.sub_zero]
theorem relF_copy {v : Nat → Int32} {P : pS} {Rw : Nat → Int32} {No Ma Pa : rS} (h : relF v P Rw No Ma Pa) (P2 : pS) (Rw2 : Nat → Int32) (No2 Ma2 Pa2 : rS) : relF v (F_X1_copy P2 Rw2 No2 Ma2 Pa2 P Rw No Ma Pa).1 (F_X1_copy P2 Rw2 No2 Ma2 Pa2 P Rw No Ma Pa).2.1 (F_X1_copy P2 Rw2 No2 Ma2 Pa2 P Rw No Ma Pa).2.2.1 (F_X1_copy P2 Rw2 No2 Ma2 Pa2 P Rw No Ma Pa).2.2.2.1 (F_X1_copy P2 Rw2 No2 Ma2 Pa2 P Rw No Ma Pa).2.2.2.2 := by
  unfold F_X1_copy F_X2_copy
  simp only [let1]
  have cp : ∀ {f g : Nat → Int32} {n i : Nat}, i < n → va_cpy f g 0 0 n i = f i := fun hi => by rw [pk_cpy_in (Nat.zero_le _) (by omega), Nat.zero_add, Nat.sub_zero]
  exact relF_cong h ⟨rfl, rfl, rfl, rfl, rfl, fun i hi => ⟨cp hi, cp hi, cp hi⟩⟩ (fun k hk => cp hk) (cp3 No2 (rel_no h)) (cp4 Ma2 (rel_ma h)) (cp9 Pa2 (rel_pa h))
/-- an image's place -/
abbrev imW (i : Nat) (w : Nat → Int32) : Nat → Int32 := fun j => w (148 * i + 148 + j)
theorem image_w {w : Nat → Int32} {i : Nat} : (∀ j, j < 148 → imW i (F_X6_copy w 0 (148 * i + 148)) j = w j) ∧ ∀ j, (j < 148 * i + 148 ∨ 148 * i + 296 ≤ j) → F_X6_copy w 0 (148 * i + 148) j = w j := by
  refine ⟨fun j hj => ?_, fun j hj => ?_⟩
  · show F_X6_copy w 0 (148 * i + 148) (148 * i + 148 + j) = w j
    rw [copy_at w 0 _ (by omega), if_pos (by omega)]
    exact congrArg w (by omega)
  · rw [copy_at w 0 _ (by omega), if_neg (by omega)]
theorem from_w {w : Nat → Int32} {i : Nat} : (∀ j, j < 148 → F_X6_copy w (148 * i + 148) 0 j = imW i w j) ∧ ∀ j, 148 ≤ j → F_X6_copy w (148 * i + 148) 0 j = w j := by
  refine ⟨fun j hj => ?_, fun j hj => ?_⟩
  · rw [copy_at w _ 0 (by omega), if_pos (by omega), Nat.sub_zero]
  · rw [copy_at w _ 0 (by omega), if_neg (by omega)]
