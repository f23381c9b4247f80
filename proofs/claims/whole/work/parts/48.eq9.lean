/-! who it is: is, look, kinds, ask -/
theorem and_idem (s M : Int32) : s &&& M &&& M = s &&& M := by
  rw [Int32.and_assoc, Int32.and_self]
abbrev mK (kd : Nat) : Int32 := (((nI 1) <<< ((nI kd) &&& 31)) ^^^ ((-1)))
theorem cell3 {R : rS} {n j k : Nat} (hr : tN (Rus R) = 3 * n) (hj : j < n) (hk : k < 3) : F_X4_cell_v3 R j k = Rce R (3 * j + k) := by
  unfold F_X4_cell_v3
  rw [hr, if_neg (by omega)]
theorem cell4 {R : rS} {n j k : Nat} (hr : tN (Rus R) = 4 * n) (hj : j < n) (hk : k < 4) : F_X4_cell_v4 R j k = Rce R (4 * j + k) := by
  unfold F_X4_cell_v4
  rw [hr, if_neg (by omega)]
theorem L_i13 {w : Nat → Int32} {No : rS} {n : Nat} (n6 : n ≤ 6) (nu : Rus No = nI (3 * n)) (n31 : w 31 = nI n) (nk : ∀ k, k < 3 * n → w (k + 32) = Rce No k) (nb : ∀ e, e < n → inB (Rce No (3 * e)) 99 ∧ inB (Rce No (3 * e + 1)) 9) (kd : Nat) : ∀ (f k : Nat) (s : Int32), n - k < f → (F_X6_is_L13 f w kd k s).2 = match F_X5_fitsNotes_L2 f (nI kd) No k with
    | .inl _ => s
    | .inr _ => s &&& mK kd
  | 0, _, _, h => by omega
  | f + 1, k, s, h => by
    have hr : tN (Rus No) = 3 * n := by rw [nu]; exact tN_nI (by omega)
    rw [F_X6_is_L13, F_X5_fitsNotes_L2, n31, tN_nI (by omega), hr, show 3 * n / 3 = n by omega]
    simp only [let1]
    by_cases c : n ≤ k
    · rw [if_pos c, if_pos c]
    · rw [if_neg c, if_neg c, cell3 hr (by omega) (by decide), cell3 hr (by omega) (by decide), cell3 hr (by omega) (by decide)]
      have e0 : w (3 * k + 32) = Rce No (3 * k + 0) := nk (3 * k) (by omega)
      have e1 : w (3 * k + 33) = Rce No (3 * k + 1) := nk (3 * k + 1) (by omega)
      have e2 : w (3 * k + 34) = Rce No (3 * k + 2) := nk (3 * k + 2) (by omega)
      obtain ⟨b1, b2⟩ := nb k (by omega)
      obtain ⟨t, ht, te⟩ := nI_small b1
      obtain ⟨g, hg, ge⟩ := nI_small b2
      rw [e0, e1, e2, show Rce No (3 * k + 0) = nI t from te, ge, hw_eq (nI kd) (by omega) (by omega)]
      by_cases d : F_X5_hitWorth (nI kd) (nI g) (nI t) = Rce No (3 * k + 2)
      · rw [if_pos d, if_pos d]
        exact L_i13 n6 nu n31 nk nb kd f (k + 1) s (by omega)
      · rw [if_neg d, if_neg d, L_i13 n6 nu n31 nk nb kd f (k + 1) _ (by omega)]
        cases F_X5_fitsNotes_L2 f (nI kd) No (k + 1) with
        | inl _ => rfl
        | inr _ => exact and_idem s (mK kd)
theorem L_f2 {k : Int32} {No : rS} : ∀ (f j : Nat) (b : Bool), F_X5_fitsNotes_L2 f k No j = .inr b → b = false
  | 0, _, _, h => by cases h
  | f + 1, j, b, h => by
    rw [F_X5_fitsNotes_L2] at h
    simp only [let1] at h
    split at h
    · cases h
    · split at h
      · exact L_f2 f (j + 1) b h
      · cases h; rfl
theorem i13_eq {w : Nat → Int32} {No : rS} (h : relNo w No) (kd : Nat) (s : Int32) : (F_X6_is_L13 7 w kd 0 s).2 = if F_X5_fitsNotes No (nI kd) = true then s else s &&& mK kd := by
  obtain ⟨n, n6, nu, n31, nk, nb⟩ := h
  rw [L_i13 n6 nu n31 nk nb kd 7 0 s (by omega)]
  unfold F_X5_fitsNotes
  cases hc : F_X5_fitsNotes_L2 7 (nI kd) No 0 with
  | inl j => rfl
  | inr b =>
    have := L_f2 7 0 b hc
    subst this
    rfl
def orL (z : Nat → Bool) : Nat → Nat → Int32 → Int32
  | 0, _, b => b
  | f + 1, kd, b => if z kd = true then orL z f (kd + 1) (b ||| ((nI 1) <<< ((nI kd) &&& 31))) else orL z f (kd + 1) b
def anL (z : Nat → Bool) : Nat → Nat → Int32 → Int32
  | 0, _, b => b
  | f + 1, kd, b => anL z f (kd + 1) (if z kd = true then b else b &&& mK kd)
theorem six_eq (z : Nat → Bool) : anL z 6 0 (nI 63) = orL z 6 0 (nI 0) := by
  simp only [anL, orL]
  generalize z 0 = z0
  generalize z (0 + 1) = z1
  generalize z (0 + 1 + 1) = z2
  generalize z (0 + 1 + 1 + 1) = z3
  generalize z (0 + 1 + 1 + 1 + 1) = z4
  generalize z (0 + 1 + 1 + 1 + 1 + 1) = z5
  revert z0 z1 z2 z3 z4 z5
  decide +kernel
theorem L_i5 {w : Nat → Int32} {z : Nat → Bool} (hz : ∀ kd s, (F_X6_is_L13 7 w kd 0 s).2 = if z kd = true then s else s &&& mK kd) : ∀ (f kd : Nat) (s : Int32), kd + f = 6 → (F_X6_is_L5 (f + 1) w kd s).2 = anL z f kd s
  | 0, kd, s, h => by rw [F_X6_is_L5, if_pos (by omega)]; rfl
  | f + 1, kd, s, h => by
    rw [F_X6_is_L5, if_neg (by omega)]
    simp only [let2]
    rw [hz, L_i5 hz f (kd + 1) _ (by omega)]
    rfl
theorem L_i4 {No : rS} : ∀ (f kd : Nat) (s : Int32), kd + f = 6 → (F_X5_is_L4 (f + 1) No kd s).2 = orL (fun k => F_X5_fitsNotes No (nI k)) f kd s
  | 0, kd, s, h => by rw [F_X5_is_L4, if_pos (by omega)]; rfl
  | f + 1, kd, s, h => by
    rw [F_X5_is_L4, if_neg (by omega)]
    simp only [let1]
    rw [orL]
    by_cases c : F_X5_fitsNotes No (nI kd) = true
    · rw [if_pos c, if_pos c, L_i4 f (kd + 1) _ (by omega)]
    · rw [if_neg c, if_neg c, L_i4 f (kd + 1) _ (by omega)]
theorem is_eq {w : Nat → Int32} {No : rS} (h : relNo w No) : F_X6_is w = F_X5_is No := by
  unfold F_X6_is F_X5_is
  simp only [let2]
  rw [L_i5 (z := fun k => F_X5_fitsNotes No (nI k)) (fun kd s => i13_eq h kd s) 6 0 _ rfl, L_i4 6 0 _ rfl]
  exact six_eq _
/-! how many are alike -/
theorem has_iff (s : Int32) (k : Nat) : F_X6_has s (nI k) = true ↔ ((s >>> ((nI k) &&& 31)) &&& (nI 1)) = (nI 1) := by
  unfold F_X6_has
  by_cases c : ((s >>> ((nI k) &&& 31)) &&& (nI 1)) = (nI 1)
  · rw [if_pos c]; exact ⟨fun _ => c, fun _ => rfl⟩
  · rw [if_neg c]; exact ⟨fun z => (by cases z), fun z => absurd z c⟩
theorem L_l39 (r : Int32) (cd a : Nat) (Se : Nat → Int32) (ha : a < 6) (hS : ∀ k, k < 6 → F_X6_comesTo (nI k) (nI (cd % 10)) (nI (cd / 10)) = Se k) : ∀ (f b n0 : Nat), F_X6_look_L39 f r cd a b n0 = F_X5_mostAlike_L16 f r Se a b n0
  | 0, _, _ => rfl
  | f + 1, b, n0 => by
    rw [F_X6_look_L39, F_X5_mostAlike_L16]
    by_cases c : 6 ≤ b
    · rw [if_pos c, if_pos c]
    · rw [if_neg c, if_neg c, hS a ha, hS b (by omega), L_l39 r cd a Se ha hS f, L_l39 r cd a Se ha hS f]
      by_cases d : F_X6_has r (nI a) = true
      · rw [if_pos d, if_pos ((has_iff r a).mp d)]
        by_cases e : F_X6_has r (nI b) = true
        · rw [if_pos e, if_pos ((has_iff r b).mp e)]
        · rw [if_neg e, if_neg (fun z => e ((has_iff r b).mpr z))]
      · rw [if_neg d, if_neg (fun z => d ((has_iff r a).mpr z))]
theorem L_a67 (i r : Int32) (w : Nat → Int32) (g a : Nat) (Se : Nat → Int32) (ha : a < 6) (hS : ∀ k, k < 6 → F_X6_runsBy (nI k) (w (tN i + 11)) (nI g) = Se k) : ∀ (f b n0 : Nat), F_X6_ask_L67 f i w r g a b n0 = F_X5_mostAlike_L16 f r Se a b n0
  | 0, _, _ => rfl
  | f + 1, b, n0 => by
    rw [F_X6_ask_L67, F_X5_mostAlike_L16]
    by_cases c : 6 ≤ b
    · rw [if_pos c, if_pos c]
    · rw [if_neg c, if_neg c, hS a ha, hS b (by omega), L_a67 i r w g a Se ha hS f, L_a67 i r w g a Se ha hS f]
      by_cases d : F_X6_has r (nI a) = true
      · rw [if_pos d, if_pos ((has_iff r a).mp d)]
        by_cases e : F_X6_has r (nI b) = true
        · rw [if_pos e, if_pos ((has_iff r b).mp e)]
        · rw [if_neg e, if_neg (fun z => e ((has_iff r b).mpr z))]
      · rw [if_neg d, if_neg (fun z => d ((has_iff r a).mpr z))]
theorem L_16le (r : Int32) (Se : Nat → Int32) (a : Nat) : ∀ (f b n0 : Nat), (F_X5_mostAlike_L16 f r Se a b n0).2 ≤ n0 + (6 - b)
  | 0, _, _ => Nat.le_add_right _ _
  | f + 1, b, n0 => by
    rw [F_X5_mostAlike_L16]
    have h1 := L_16le r Se a f (b + 1) (n0 + 1)
    have h2 := L_16le r Se a f (b + 1) n0
    by_cases c : 6 ≤ b
    · rw [if_pos c]; exact Nat.le_add_right _ _
    · rw [if_neg c]
      split
      · split
        · split <;> omega
        · omega
      · omega
/-- the greatest number of a row that is told by T -/
def mxL (T : Nat → Nat) : Nat → Nat → Nat → Nat
  | 0, _, mo => mo
  | f + 1, a, mo => mxL T f (a + 1) (if T a ≤ mo then mo else T a)
theorem mxL_le (T : Nat → Nat) (hT : ∀ a, T a ≤ 6) : ∀ (f a mo : Nat), mo ≤ 6 → mxL T f a mo ≤ 6
  | 0, _, _, h => h
  | f + 1, a, mo, h => by
    rw [mxL]
    refine mxL_le T hT f (a + 1) _ ?_
    split
    · exact h
    · exact hT a
theorem mxL_cong {T T' : Nat → Nat} (h : ∀ a, a < 6 → T a = T' a) : ∀ (f a mo : Nat), a + f ≤ 6 → mxL T f a mo = mxL T' f a mo
  | 0, _, _, _ => rfl
  | f + 1, a, mo, q => by
    rw [mxL, mxL, h a (by omega), mxL_cong h f (a + 1) _ (by omega)]
theorem L_mA (r : Int32) (Se : Nat → Int32) : ∀ (f a mo : Nat), a + f = 6 → mo ≤ 6 → (F_X5_mostAlike_L4 (f + 1) r Se a mo).2 = mxL (fun a => (F_X5_mostAlike_L16 7 r Se a 0 0).2) f a mo
  | 0, a, mo, h, _ => by rw [F_X5_mostAlike_L4, if_pos (by omega)]; rfl
  | f + 1, a, mo, h, hm => by
    rw [F_X5_mostAlike_L4, if_neg (by omega), mxL]
    simp only [let2]
    have hl := L_16le r Se a 7 0 0
    generalize (F_X5_mostAlike_L16 7 r Se a 0 0).2 = t at hl ⊢
    by_cases c : t ≤ mo
    · rw [if_pos c, if_neg (fun z => by have := (nI_ltI (by omega) (by omega)).mp z; omega)]
      exact L_mA r Se f (a + 1) mo (by omega) hm
    · rw [if_neg c, if_pos ((nI_ltI (by omega) (by omega)).mpr (by omega))]
      exact L_mA r Se f (a + 1) t (by omega) (by omega)
theorem L_l26 (r : Int32) (cd : Nat) : ∀ (f a mo : Nat), a + f = 6 → (F_X6_look_L26 (f + 1) r cd a mo).2 = mxL (fun a => (F_X6_look_L39 7 r cd a 0 0).2) f a mo
  | 0, a, mo, h => by rw [F_X6_look_L26, if_pos (by omega)]; rfl
  | f + 1, a, mo, h => by
    rw [F_X6_look_L26, if_neg (by omega), mxL]
    simp only [let2]
    by_cases c : (F_X6_look_L39 7 r cd a 0 0).2 ≤ mo
    · rw [if_pos c, if_pos c]; exact L_l26 r cd f (a + 1) mo (by omega)
    · rw [if_neg c, if_neg c]; exact L_l26 r cd f (a + 1) _ (by omega)
theorem L_a54 (i r : Int32) (w : Nat → Int32) (g : Nat) : ∀ (f a mo : Nat), a + f = 6 → (F_X6_ask_L54 (f + 1) i w r g a mo).2 = mxL (fun a => (F_X6_ask_L67 7 i w r g a 0 0).2) f a mo
  | 0, a, mo, h => by rw [F_X6_ask_L54, if_pos (by omega)]; rfl
  | f + 1, a, mo, h => by
    rw [F_X6_ask_L54, if_neg (by omega), mxL]
    simp only [let2]
    by_cases c : (F_X6_ask_L67 7 i w r g a 0 0).2 ≤ mo
    · rw [if_pos c, if_pos c]; exact L_a54 i r w g f (a + 1) mo (by omega)
    · rw [if_neg c, if_neg c]; exact L_a54 i r w g f (a + 1) _ (by omega)
theorem look_mo (r : Int32) (cd : Nat) (Se : Nat → Int32) (hS : ∀ k, k < 6 → F_X6_comesTo (nI k) (nI (cd % 10)) (nI (cd / 10)) = Se k) : F_X5_mostAlike Se r = nI (F_X6_look_L26 7 r cd 0 0).2 ∧ (F_X6_look_L26 7 r cd 0 0).2 ≤ 6 := by
  unfold F_X5_mostAlike
  simp only [let2]
  have e : (F_X6_look_L26 7 r cd 0 0).2 = mxL (fun a => (F_X5_mostAlike_L16 7 r Se a 0 0).2) 6 0 0 := by
    rw [L_l26 r cd 6 0 0 rfl]
    exact mxL_cong (fun a ha => by rw [L_l39 r cd a Se ha hS]) 6 0 0 (by decide)
  rw [e, L_mA r Se 6 0 0 rfl (by decide)]
  exact ⟨rfl, mxL_le _ (fun a => by have := L_16le r Se a 7 0 0; omega) 6 0 0 (by decide)⟩
theorem ask_mo (i r : Int32) (w : Nat → Int32) (g : Nat) (Se : Nat → Int32) (hS : ∀ k, k < 6 → F_X6_runsBy (nI k) (w (tN i + 11)) (nI g) = Se k) : F_X5_mostAlike Se r = nI (F_X6_ask_L54 7 i w r g 0 0).2 ∧ (F_X6_ask_L54 7 i w r g 0 0).2 ≤ 6 := by
  unfold F_X5_mostAlike
  simp only [let2]
  have e : (F_X6_ask_L54 7 i w r g 0 0).2 = mxL (fun a => (F_X5_mostAlike_L16 7 r Se a 0 0).2) 6 0 0 := by
    rw [L_a54 i r w g 6 0 0 rfl]
    exact mxL_cong (fun a ha => by rw [L_a67 i r w g a Se ha hS]) 6 0 0 (by decide)
  rw [e, L_mA r Se 6 0 0 rfl (by decide)]
  exact ⟨rfl, mxL_le _ (fun a => by have := L_16le r Se a 7 0 0; omega) 6 0 0 (by decide)⟩
theorem L_l27 (pl : Nat) : ∀ (f kd : Nat) (s : Nat → Int32), 6 - kd < f → ∀ j, j < 6 → (F_X5_look_L27 f pl kd s).2 j = if kd ≤ j then F_X5_hitWorth (nI j) (nI (pl % 10)) (nI (pl / 10)) else s j
  | 0, _, _, h => by omega
  | f + 1, kd, s, h => by
    intro j hj
    rw [F_X5_look_L27]
    by_cases c : 6 ≤ kd
    · rw [if_pos c, if_neg (by omega)]
    · rw [if_neg c, L_l27 pl f (kd + 1) _ (by omega) j hj]
      by_cases d : j = kd
      · rw [d, if_neg (by omega), if_pos (by omega), pk_us]
      · rw [pk_un d]
        by_cases z : kd + 1 ≤ j
        · rw [if_pos z, if_pos (by omega)]
        · rw [if_neg z, if_neg (by omega)]
theorem L_a44 (i : Int32) (P : pS) (g : Nat) : ∀ (f kd : Nat) (s : Nat → Int32), 6 - kd < f → ∀ j, j < 6 → (F_X5_ask_L44 f i P g kd s).2 j = if kd ≤ j then F_X5_postsRun (nI j) (Plg P (tN i)) (nI g) else s j
  | 0, _, _, h => by omega
  | f + 1, kd, s, h => by
    intro j hj
    rw [F_X5_ask_L44]
    by_cases c : 6 ≤ kd
    · rw [if_pos c, if_neg (by omega)]
    · rw [if_neg c, L_a44 i P g f (kd + 1) _ (by omega) j hj]
      by_cases d : j = kd
      · rw [d, if_neg (by omega), if_pos (by omega), pk_us]
      · rw [pk_un d]
        by_cases z : kd + 1 ≤ j
        · rw [if_pos z, if_pos (by omega)]
        · rw [if_neg z, if_neg (by omega)]
theorem look_one (r : Int32) {cd : Nat} (hc : cd < 100) (s1 : Nat → Int32) : F_X5_mostAlike (F_X5_look_L27 7 cd 0 s1).2 r = nI (F_X6_look_L26 7 r cd 0 0).2 ∧ (F_X6_look_L26 7 r cd 0 0).2 ≤ 6 :=
  look_mo r cd _ (fun k hk => by rw [L_l27 cd 7 0 s1 (by decide) k hk, if_pos (Nat.zero_le _)]; exact hw_eq (nI k) (Nat.mod_lt _ (by decide)) (by omega))
theorem L_look (r : Int32) (hr : ¬ r = 0) : ∀ (f cd : Nat) (bs fw : Int32) (s1 : Nat → Int32), (F_X5_look_L13 f r cd bs fw s1).2.1 = (F_X6_look_L13 f r cd bs fw).2.1
  | 0, _, _, _, _ => rfl
  | f + 1, cd, bs, fw, s1 => by
    rw [F_X5_look_L13, F_X6_look_L13]
    by_cases c : 100 ≤ cd
    · rw [if_pos c, if_pos c]
    · rw [if_neg c, if_neg c, if_neg hr]
      simp only [let1, let2]
      rw [(look_one r (by omega) s1).1]
      by_cases d : fw ≤ nI (F_X6_look_L26 7 r cd 0 0).2
      · rw [if_pos d, if_pos d]; exact L_look r hr f (cd + 1) bs fw _
      · rw [if_neg d, if_neg d]; exact L_look r hr f (cd + 1) _ _ _
theorem look_eq {w : Nat → Int32} {No : rS} (h : relNo w No) (Se : Nat → Int32) : F_X6_look w = (F_X5_look No Se).1 := by
  unfold F_X6_look F_X5_look
  simp only [let1, let3, let4]
  rw [is_eq h]
  generalize F_X5_is No = r
  by_cases c : r = 0
  · rw [if_pos c, F_X5_look_L13, if_neg (by decide), if_pos c]
  · rw [if_neg c, F_X5_look_L13, F_X6_look_L13, if_neg (by decide), if_neg (by decide), if_neg c]
    simp only [let1, let2]
    have hl := look_one r (cd := 0) (by decide) Se
    rw [hl.1, if_neg (fun z => by
      rw [show (1000000 : Int32) = nI 1000000 from rfl, nI_leI (by decide) (by omega)] at z
      omega), if_neg (fun z => by
      rw [nI_leI (by decide) (by omega)] at z
      omega)]
    exact (L_look r c 100 1 _ _ _).symm
/-! marks -/
theorem L_w14 {w : Nat → Int32} {Ma : rS} {n : Nat} (n6 : n ≤ 6) (nu : Rus Ma = nI (4 * n)) (n50 : w 50 = nI n) (nk : ∀ k, k < 4 * n → w (k + 51) = Rce Ma k) (nb : ∀ e, e < n → inB (Rce Ma (4 * e + 1)) 5 ∧ inB (Rce Ma (4 * e + 2)) 20) (i : Int32) (kd : Nat) (hkd : kd < 6) : ∀ (f k : Nat) (s : Int32), n - k < f → (F_X6_whatOf_L14 f i w kd k s).2 = match F_X5_fitsMarks_L2 f i (nI kd) Ma k with
    | .inl _ => s
    | .inr _ => s &&& mK kd
  | 0, _, _, h => by omega
  | f + 1, k, s, h => by
    have hr : tN (Rus Ma) = 4 * n := by rw [nu]; exact tN_nI (by omega)
    rw [F_X6_whatOf_L14, F_X5_fitsMarks_L2, n50, tN_nI (by omega), hr, show 4 * n / 4 = n by omega]
    simp only [let1]
    by_cases c : n ≤ k
    · rw [if_pos c, if_pos c]
    · rw [if_neg c, if_neg c, cell4 hr (by omega) (by decide), cell4 hr (by omega) (by decide), cell4 hr (by omega) (by decide), cell4 hr (by omega) (by decide)]
      have e0 : w (4 * k + 51) = Rce Ma (4 * k + 0) := nk (4 * k) (by omega)
      have e1 : w (4 * k + 52) = Rce Ma (4 * k + 1) := nk (4 * k + 1) (by omega)
      have e2 : w (4 * k + 53) = Rce Ma (4 * k + 2) := nk (4 * k + 2) (by omega)
      have e3 : w (4 * k + 54) = Rce Ma (4 * k + 3) := nk (4 * k + 3) (by omega)
      obtain ⟨b1, b2⟩ := nb k (by omega)
      obtain ⟨t, ht, te⟩ := nI_small b1
      obtain ⟨g, hg, ge⟩ := nI_small b2
      rw [e0, e1, e2, e3, te, ge, pr_eq kd hkd t (by omega) g (by omega)]
      by_cases y : Rce Ma (4 * k + 0) = i
      · rw [if_pos y, if_pos y]
        by_cases d : F_X5_postsRun (nI kd) (nI t) (nI g) = Rce Ma (4 * k + 3)
        · rw [if_pos d, if_pos d]
          exact L_w14 n6 nu n50 nk nb i kd hkd f (k + 1) s (by omega)
        · rw [if_neg d, if_neg d, L_w14 n6 nu n50 nk nb i kd hkd f (k + 1) _ (by omega)]
          cases F_X5_fitsMarks_L2 f i (nI kd) Ma (k + 1) with
          | inl _ => rfl
          | inr _ => exact and_idem s (mK kd)
      · rw [if_neg y, if_neg y]
        exact L_w14 n6 nu n50 nk nb i kd hkd f (k + 1) s (by omega)
theorem L_f2m {i k : Int32} {Ma : rS} : ∀ (f j : Nat) (b : Bool), F_X5_fitsMarks_L2 f i k Ma j = .inr b → b = false
  | 0, _, _, h => by cases h
  | f + 1, j, b, h => by
    rw [F_X5_fitsMarks_L2] at h
    simp only [let1] at h
    split at h
    · cases h
    · split at h
      · split at h
        · exact L_f2m f (j + 1) b h
        · cases h; rfl
      · exact L_f2m f (j + 1) b h
theorem w14_eq {w : Nat → Int32} {Ma : rS} (h : relMa w Ma) (i : Int32) {kd : Nat} (hk : kd < 6) (s : Int32) : (F_X6_whatOf_L14 7 i w kd 0 s).2 = if F_X5_fitsMarks Ma i (nI kd) = true then s else s &&& mK kd := by
  obtain ⟨n, n6, nu, n31, nk, nb⟩ := h
  rw [L_w14 n6 nu n31 nk nb i kd hk 7 0 s (by omega)]
  unfold F_X5_fitsMarks
  cases hc : F_X5_fitsMarks_L2 7 i (nI kd) Ma 0 with
  | inl j => rfl
  | inr b =>
    have := L_f2m 7 0 b hc
    subst this
    rfl
theorem L_w5 {w : Nat → Int32} {i : Int32} {z : Nat → Bool} (hz : ∀ kd s, kd < 6 → (F_X6_whatOf_L14 7 i w kd 0 s).2 = if z kd = true then s else s &&& mK kd) : ∀ (f kd : Nat) (s : Int32), kd + f = 6 → (F_X6_whatOf_L5 (f + 1) i w kd s).2 = anL z f kd s
  | 0, kd, s, h => by rw [F_X6_whatOf_L5, if_pos (by omega)]; rfl
  | f + 1, kd, s, h => by
    rw [F_X6_whatOf_L5, if_neg (by omega)]
    simp only [let2]
    rw [hz _ _ (by omega), L_w5 hz f (kd + 1) _ (by omega)]
    rfl
theorem L_b4 {Ma : rS} {i : Int32} : ∀ (f kd : Nat) (s : Int32), kd + f = 6 → (F_X5_battersThatFit_L4 (f + 1) i Ma kd s).2 = orL (fun k => F_X5_fitsMarks Ma i (nI k)) f kd s
  | 0, kd, s, h => by rw [F_X5_battersThatFit_L4, if_pos (by omega)]; rfl
  | f + 1, kd, s, h => by
    rw [F_X5_battersThatFit_L4, if_neg (by omega)]
    simp only [let1]
    rw [orL]
    by_cases c : F_X5_fitsMarks Ma i (nI kd) = true
    · rw [if_pos c, if_pos c, L_b4 f (kd + 1) _ (by omega)]
    · rw [if_neg c, if_neg c, L_b4 f (kd + 1) _ (by omega)]
theorem whatOf_eq {w : Nat → Int32} {Ma : rS} (h : relMa w Ma) (i : Int32) : F_X6_whatOf w i = F_X5_battersThatFit Ma i := by
  unfold F_X6_whatOf F_X5_battersThatFit
  simp only [let2]
  rw [L_w5 (z := fun k => F_X5_fitsMarks Ma i (nI k)) (fun kd s hk => w14_eq h i hk s) 6 0 _ rfl, L_b4 6 0 _ rfl]
  exact six_eq _
theorem kinds_eq {w su : Nat → Int32} {P : pS} {Rw : Nat → Int32} {No Ma Pa : rS} (h : relF w P Rw No Ma Pa) (i : Int32) : F_X6_kinds w su i = F_X5_kinds P Ma su i := by
  obtain ⟨p0, p1, p2, p4, pi⟩ := rp0 h.1.1
  have hs := rel_sz h
  unfold F_X6_kinds F_X5_kinds
  simp only [let1, let2]
  rw [isBatter_eq p0 hs.1, ref_bad]
  by_cases c : F_X5_isBatter P i = true
  · rw [if_pos c, if_pos c]
    obtain ⟨i0, i1⟩ := isBatter2 rfl c hs
    rw [← tN_eq i0, whatOf_eq h.2.2.2.1]
  · rw [if_neg c, if_neg c]
theorem ask_one {w : Nat → Int32} {P : pS} (r i : Int32) {g : Nat} (hg : g < 21) (hw : w (tN i + 11) = Plg P (tN i)) (hl : inB (Plg P (tN i)) 5) (s1 : Nat → Int32) : F_X5_mostAlike (F_X5_ask_L44 7 i P g 0 s1).2 r = nI (F_X6_ask_L54 7 i w r g 0 0).2 ∧ (F_X6_ask_L54 7 i w r g 0 0).2 ≤ 6 :=
  ask_mo i r w g _ (fun k hk => by
    obtain ⟨t, ht, te⟩ := nI_small hl
    rw [L_a44 i P g 7 0 s1 (by decide) k hk, if_pos (Nat.zero_le _), hw, te]
    exact pr_eq k hk t (by omega) g hg)
theorem L_ask {w : Nat → Int32} {P : pS} (r i : Int32) (hr : ¬ r = 0) (hw : w (tN i + 11) = Plg P (tN i)) (hl : inB (Plg P (tN i)) 5) : ∀ (f g : Nat) (bs fw : Int32) (s1 : Nat → Int32), (F_X5_ask_L30 f i P r g bs fw s1).2.1 = (F_X6_ask_L41 f i w r g bs fw).2.1
  | 0, _, _, _, _ => rfl
  | f + 1, g, bs, fw, s1 => by
    rw [F_X5_ask_L30, F_X6_ask_L41]
    by_cases c : 20 < g
    · rw [if_pos c, if_pos c]
    · rw [if_neg c, if_neg c, if_neg hr]
      simp only [let1, let2]
      rw [(ask_one r i (by omega) hw hl s1).1]
      by_cases d : fw ≤ nI (F_X6_ask_L54 7 i w r g 0 0).2
      · rw [if_pos d, if_pos d]; exact L_ask r i hr hw hl f (g + 1) bs fw _
      · rw [if_neg d, if_neg d]; exact L_ask r i hr hw hl f (g + 1) _ _ _
theorem ask_eq {w su : Nat → Int32} {P : pS} {Rw : Nat → Int32} {No Ma Pa : rS} (h : relF w P Rw No Ma Pa) (Se : Nat → Int32) (i : Int32) : (F_X6_ask w su i).1 = (F_X5_ask P Ma su Se i).1 ∧ (F_X6_ask w su i).2 = (F_X5_ask P Ma su Se i).2.2 := by
  obtain ⟨p0, p1, p2, p4, pi⟩ := rp0 h.1.1
  have hs := rel_sz h
  unfold F_X6_ask F_X5_ask
  simp only [let1, let2, let3, let4]
  rw [isBatter_eq p0 hs.1, ref_bad]
  by_cases c : F_X5_isBatter P i = true
  · rw [if_pos c, if_pos c]
    obtain ⟨i0, i1⟩ := isBatter2 rfl c hs
    rw [whatOf_eq h.2.2.2.1]
    generalize F_X5_battersThatFit Ma (nI (tN i)) = r
    by_cases d : r = 0
    · rw [if_pos d, F_X5_ask_L30, if_neg (by decide), if_pos d]
      exact ⟨rfl, rfl⟩
    · rw [if_neg d, F_X5_ask_L30, F_X6_ask_L41, if_neg (by decide), if_neg (by decide), if_neg d]
      simp only [let1, let2]
      have hl := ask_one r i (g := 1) (by decide) (pi _ i1).2.1 (h.1.2.1.2.2.2 _ i1).2.1.1 Se
      rw [hl.1, if_neg (fun z => by
        rw [show (1000000 : Int32) = nI 1000000 from rfl, nI_leI (by decide) (by omega)] at z
        omega), if_neg (fun z => by
        rw [nI_leI (by decide) (by omega)] at z
        omega)]
      exact ⟨(L_ask r i d (pi _ i1).2.1 (h.1.2.1.2.2.2 _ i1).2.1.1 20 2 _ _ _).symm, by trivial⟩
  · rw [if_neg c, if_neg c]
    exact ⟨rfl, rfl⟩
