/-! the class's numbers are the reference's: the kinds -/
theorem iw (x : Int32) {a b : Int64} {lo hi : Int32} (ha : a = lo.toInt64) (hb : b = hi.toInt64) : F_X6_in x.toInt64 a b = F_X5_within x lo hi := by
  subst ha; subst hb
  rw [Bool.eq_iff_iff, in_32, within_iff]
theorem le3_lt4 (x : Int32) : x ≤ nI 3 ↔ x < nI 4 := by
  rw [Int32.le_iff_toInt_le, Int32.lt_iff_toInt_lt, nI_toInt (by decide), nI_toInt (by decide)]; omega
theorem ref_bad (Rf : Nat → Int32) : F_X5_refuse Rf (-2) = F_X6_bad Rf (-2) := by
  unfold F_X5_refuse F_X6_bad
  rw [if_pos (by decide), show tN ((-2 : Int32) - (-2)) = 0 from by decide]
theorem ref_no (Rf : Nat → Int32) : F_X5_refuse Rf (-3) = F_X6_no Rf := by
  unfold F_X5_refuse F_X6_no
  rw [if_pos (by decide), show tN ((-2 : Int32) - (-3)) = 1 from by decide]
theorem ref_full (Rf : Nat → Int32) : F_X5_refuse Rf (-4) = F_X6_full Rf := by
  unfold F_X5_refuse F_X6_full
  rw [if_pos (by decide), show tN ((-2 : Int32) - (-4)) = 2 from by decide]
theorem q_sw (x : Int32) {q : Nat} (hq : q < 2 ^ 31) : (if nI q ≤ nI 3 then x + nI q else x + nI 3) = (if nI q < nI 3 then x + nI q else x + nI 3) := by
  by_cases c : q < 3
  · rw [if_pos ((nI_leI hq (by decide)).mpr (by omega)), if_pos ((nI_ltI hq (by decide)).mpr c)]
  · by_cases d : q = 3
    · subst d; rw [if_pos (by decide), if_neg (by decide)]
    · rw [if_neg (fun z => absurd ((nI_leI hq (by decide)).mp z) (by omega)), if_neg (fun z => c ((nI_ltI hq (by decide)).mp z))]
theorem hw_eq (kd : Int32) {h t : Nat} (hh : h < 10) (ht : t < 2 ^ 31) : F_X6_comesTo kd (nI h) (nI t) = F_X5_hitWorth kd (nI h) (nI t) := by
  have r2 := pk_rem (a := t) (d := 2) ht (by decide) (by decide)
  have r4 := pk_rem (a := t) (d := 4) ht (by decide) (by decide)
  have d20 := pk_div (a := t) (d := 20) ht (by decide) (by decide)
  have hq : t / 20 < 2 ^ 31 := by omega
  unfold F_X6_comesTo F_X5_hitWorth F_X6_slow
  rw [r2, r4, d20]
  have e2 : t % 2 = 0 ∨ t % 2 = 1 := by omega
  have a0 : nI h + nI 0 = nI h := nI_add h 0
  by_cases k1 : kd = nI 1
  · simp only [if_pos k1, ite_self]
    exact (show ∀ h, h < 10 → F_X6_fast (nI h) = if nI 0 < nI h - nI 1 then nI h - nI 1 else nI 0 from by decide) h hh
  by_cases k2 : kd = nI 2
  · simp only [if_neg k1, if_pos k2, ite_self]
    rcases e2 with e | e
    · rw [e, if_pos (by decide : nI 0 = 0)]; exact a0
    · rw [e, if_neg (by decide : ¬ nI 1 = 0)]
  by_cases k3 : kd = nI 3
  · simp only [if_neg k1, if_neg k2, if_pos k3, ite_self]
  by_cases k4 : kd = nI 4
  · simp only [if_neg k1, if_neg k2, if_neg k3, if_pos k4, ite_self]
    exact (show ∀ h, h < 10 → (if nI h < nI 7 then F_X6_fast (nI h) else F_X6_fast (nI h) - nI 2) = (if nI 0 < nI h - nI 1 then (if nI h < nI 7 then nI h - nI 1 else nI h - nI 1 - nI 2) else (if nI h < nI 7 then nI 0 else nI 0 - nI 2)) from by decide) h hh
  by_cases k5 : kd = nI 5
  · simp only [if_neg k1, if_neg k2, if_neg k3, if_neg k4, if_pos k5, ite_self]
    rcases e2 with e | e
    · rw [e, if_pos (by decide : nI 0 = 0), a0]; exact q_sw _ hq
    · rw [e, if_neg (by decide : ¬ nI 1 = 0)]; exact q_sw _ hq
  · simp only [if_neg k1, if_neg k2, if_neg k3, if_neg k4, if_neg k5, ite_self]
theorem ct_in (kd : Int32) {h t : Nat} (hh : h < 10) (ht : t < 2 ^ 31) : inB (F_X6_comesTo kd (nI h) (nI t)) 13 := by
  have r2 := pk_rem (a := t) (d := 2) ht (by decide) (by decide)
  have d20 := pk_div (a := t) (d := 20) ht (by decide) (by decide)
  have hq : t / 20 < 2 ^ 31 := by omega
  have hf : ∀ h, h < 10 → inB (F_X6_fast (nI h)) 13 := fun h hh => (show ∀ h, h < 10 → (0 ≤ F_X6_fast (nI h) ∧ tN (F_X6_fast (nI h)) ≤ 13) from by decide) h hh
  unfold F_X6_comesTo F_X6_slow
  rw [r2, d20]
  split
  · exact hf h hh
  · split
    · rw [nI_add]; exact inB_nI (by omega) (by decide)
    · split
      · split
        · exact inB_nI (by decide) (by decide)
        · exact inB_nI (by omega) (by decide)
      · split
        · split
          · exact hf h hh
          · rename_i c
            exact (show ∀ h, h < 10 → ¬ nI h < nI 7 → (0 ≤ F_X6_fast (nI h) - nI 2 ∧ tN (F_X6_fast (nI h) - nI 2) ≤ 13) from by decide) h hh c
        · split
          · split
            · rename_i c
              have := (nI_leI hq (by decide)).mp c
              rw [nI_add, nI_add]; exact inB_nI (by omega) (by decide)
            · rw [nI_add, nI_add]; exact inB_nI (by omega) (by decide)
          · exact inB_nI (by omega) (by decide)
set_option maxRecDepth 100000 in
theorem pr_eq : ∀ kd, kd < 6 → ∀ l, l < 6 → ∀ g, g < 21 → F_X6_runsBy (nI kd) (nI l) (nI g) = F_X5_postsRun (nI kd) (nI l) (nI g) := by decide +kernel
set_option maxRecDepth 100000 in
theorem pr_in0 : ∀ kd, kd < 6 → ∀ l, l < 6 → ∀ g, g < 21 → (0 ≤ F_X5_postsRun (nI kd) (nI l) (nI g) ∧ tN (F_X5_postsRun (nI kd) (nI l) (nI g)) ≤ 6) := by decide +kernel
/-! who bats next -/
def scn (wh : Nat → Int32) (n : Nat) : Nat → Nat → Option Nat
  | 0, _ => none
  | s + 1, i => if wh ((i + 1) % n) = 0 then some ((i + 1) % n) else scn wh n s ((i + 1) % n)
def oN (o : Option Nat) (d : Int32) : Int32 := match o with
  | some j => nI j
  | none => d
theorem scn_snoc (wh : Nat → Int32) (n : Nat) : ∀ (s i : Nat), scn wh n (s + 1) i = match scn wh n s i with
    | some j => some j
    | none => if wh ((i + s + 1) % n) = 0 then some ((i + s + 1) % n) else none
  | 0, i => by simp [scn]
  | s + 1, i => by
    rw [scn]
    by_cases c : wh ((i + 1) % n) = 0
    · rw [if_pos c, show scn wh n (s + 1) i = some ((i + 1) % n) from by rw [scn, if_pos c]]
    · rw [if_neg c, scn_snoc wh n s ((i + 1) % n), show scn wh n (s + 1) i = scn wh n s ((i + 1) % n) from by rw [scn, if_neg c]]
      have e : ((i + 1) % n + s + 1) % n = (i + (s + 1) + 1) % n := by
        rw [Nat.add_assoc, Nat.mod_add_mod]
        congr 1
        omega
      rw [e]
theorem scn_in (wh : Nat → Int32) {n : Nat} (h0 : 0 < n) : ∀ (s i j : Nat), scn wh n s i = some j → j < n ∧ wh j = 0
  | 0, _, _, h => by cases h
  | s + 1, i, j, h => by
    rw [scn] at h
    by_cases c : wh ((i + 1) % n) = 0
    · rw [if_pos c] at h; cases h; exact ⟨Nat.mod_lt _ h0, c⟩
    · rw [if_neg c] at h; exact scn_in wh h0 s _ j h
theorem scn_cong {wh wh' : Nat → Int32} {n : Nat} (h0 : 0 < n) (h : ∀ j, j < n → wh j = wh' j) : ∀ (s i : Nat), scn wh n s i = scn wh' n s i
  | 0, _ => rfl
  | s + 1, i => by rw [scn, scn, h _ (Nat.mod_lt _ h0), scn_cong h0 h s]
theorem L24_eq (w : Nat → Int32) (R m n : Nat) (hm : tN (w (R + 2)) = m) (hn : tN (w R) = n) (h0 : 0 < n) (wh : Nat → Int32) (hw : ∀ j, j < n → w (R + j + 17) = wh j) : ∀ (f k : Nat) (fd : Int32), k < f → (F_X6_nextOf_L24 f R w k fd).2 = oN (scn wh n k m) fd
  | 0, _, _, h => by omega
  | f + 1, 0, fd, _ => by rw [F_X6_nextOf_L24, if_pos (by omega)]; rfl
  | f + 1, k + 1, fd, h => by
    rw [F_X6_nextOf_L24, if_neg (by omega), hm, hn, hw _ (Nat.mod_lt _ h0), scn_snoc wh n, show k + 1 - 1 = k from rfl]
    have e : (m + (k + 1)) = m + k + 1 := by omega
    rw [e]
    by_cases c : wh ((m + k + 1) % n) = 0
    · rw [if_pos c, if_pos c, L24_eq w R m n hm hn h0 wh hw f k _ (by omega)]
      cases scn wh n k m <;> rfl
    · rw [if_neg c, if_neg c, L24_eq w R m n hm hn h0 wh hw f k _ (by omega)]
      cases scn wh n k m <;> rfl
theorem nextOf_eq (w : Nat → Int32) (R m n : Nat) (hm : tN (w (R + 2)) = m) (hn : tN (w R) = n) (h0 : 0 < n) (h6 : n ≤ 6) (wh : Nat → Int32) (hw : ∀ j, j < n → w (R + j + 17) = wh j) : F_X6_nextOf w R = upd w (R + 2) (oN (scn wh n n m) (-1)) := by
  unfold F_X6_nextOf
  rw [let2, hn, L24_eq w R m n hm hn h0 wh hw 7 n (-1) (by omega)]
theorem L7_eq (P : pS) (n : Nat) (hn : tN (Psz P) = n) : ∀ (f s k i : Nat), s < f → k + s = n → i < n → match scn (Pwh P) n s i with
    | some j => F_X2_passBat_L7 f P k i = .inr (Pbo P, Psz P, Pkd P, Plg P, Pwh P, nI j, Ppt P, Pbl P)
    | none => ∃ z, F_X2_passBat_L7 f P k i = .inl z
  | 0, _, _, _, h, _, _ => by omega
  | f + 1, 0, k, i, _, hk, _ => by
    rw [F_X2_passBat_L7, hn, if_pos (by omega)]
    exact ⟨_, rfl⟩
  | f + 1, s + 1, k, i, h, hk, hi => by
    rw [F_X2_passBat_L7, hn, if_neg (by omega), scn]
    by_cases d : n ≤ i + 1
    · have e : (i + 1) % n = 0 := by rw [show i + 1 = n by omega, Nat.mod_self]
      rw [if_pos d, e]
      by_cases c : Pwh P 0 = 0
      · rw [if_pos c, if_pos c]
      · rw [if_neg c, if_neg c]; exact L7_eq P n hn f s (k + 1) 0 (by omega) (by omega) (by omega)
    · have e : (i + 1) % n = i + 1 := Nat.mod_eq_of_lt (by omega)
      rw [if_neg d, e]
      by_cases c : Pwh P (i + 1) = 0
      · rw [if_pos c, if_pos c]
      · rw [if_neg c, if_neg c]; exact L7_eq P n hn f s (k + 1) (i + 1) (by omega) (by omega) (by omega)
theorem passBat_eq (P : pS) (m n : Nat) (hm : tN (Pnx P) = m) (hn : tN (Psz P) = n) (hlt : m < n) (h6 : n ≤ 6) : F_X2_passBat P = (Pbo P, Psz P, Pkd P, Plg P, Pwh P, oN (scn (Pwh P) n n m) (-1), Ppt P, Pbl P) := by
  unfold F_X2_passBat
  have h := L7_eq P n hn 7 n 0 m (by omega) (by omega) hlt
  rw [hm]
  cases hs : scn (Pwh P) n n m with
  | some j => rw [hs] at h; rw [h]; rfl
  | none =>
    rw [hs] at h
    obtain ⟨⟨z1, z2⟩, hz⟩ := h
    rw [hz]; rfl
