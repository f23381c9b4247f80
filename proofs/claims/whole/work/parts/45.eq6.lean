/-! what may be undone -/
theorem L_m14 : ∀ (n k : Nat) (w1 : Nat → Int32), 63 - k < n → ∀ j, (F_X6_minds_L14 n k w1).2 j = if k + 76 ≤ j ∧ j < 139 then w1 (j + 9) else w1 j
  | 0, _, _, h => by omega
  | n + 1, k, w1, h => by
    intro j
    rw [F_X6_minds_L14]
    by_cases c : 63 ≤ k
    · rw [if_pos c, if_neg (by omega)]
    · rw [if_neg c, L_m14 n (k + 1) _ (by omega) j]
      by_cases z : k + 1 + 76 ≤ j ∧ j < 139
      · rw [if_pos z, if_pos (by omega), pk_un (by omega)]
      · rw [if_neg z]
        by_cases d : j = k + 76
        · rw [d, if_pos (by omega), pk_us]
        · rw [pk_un d, if_neg (by omega)]
theorem L_m114 (w : Nat → Int32) (u : Nat) (hu : tN (w 75) = u) : ∀ (n i : Nat) (w2 : Nat → Int32), 6 - i < n → ∀ j, (F_X6_minds_L114 n w i w2).2 j = if 9 * u + i + 79 ≤ j ∧ j < 9 * u + 85 then w2 (j - (9 * u + 79) + 17) else w2 j
  | 0, _, _, h => by omega
  | n + 1, i, w2, h => by
    intro j
    rw [F_X6_minds_L114, hu]
    by_cases c : 6 ≤ i
    · rw [if_pos c, if_neg (by omega)]
    · rw [if_neg c, L_m114 w u hu n (i + 1) _ (by omega) j]
      by_cases z : 9 * u + (i + 1) + 79 ≤ j ∧ j < 9 * u + 85
      · rw [if_pos z, if_pos (by omega), pk_un (by omega)]
      · rw [if_neg z]
        by_cases d : j = 9 * u + i + 79
        · rw [d, if_pos (by omega), pk_us]
          congr 1; omega
        · rw [pk_un d, if_neg (by omega)]
theorem L_m114b (w : Nat → Int32) (u : Nat) (hu : tN (w 75) - 1 = u) : ∀ (n i : Nat) (w2 : Nat → Int32), 6 - i < n → ∀ j, (F_X6_minds_L114b n w i w2).2 j = if 9 * u + i + 79 ≤ j ∧ j < 9 * u + 85 then w2 (j - (9 * u + 79) + 17) else w2 j
  | 0, _, _, h => by omega
  | n + 1, i, w2, h => by
    intro j
    rw [F_X6_minds_L114b, hu]
    by_cases c : 6 ≤ i
    · rw [if_pos c, if_neg (by omega)]
    · rw [if_neg c, L_m114b w u hu n (i + 1) _ (by omega) j]
      by_cases z : 9 * u + (i + 1) + 79 ≤ j ∧ j < 9 * u + 85
      · rw [if_pos z, if_pos (by omega), pk_un (by omega)]
      · rw [if_neg z]
        by_cases d : j = 9 * u + i + 79
        · rw [d, if_pos (by omega), pk_us]
          congr 1; omega
        · rw [pk_un d, if_neg (by omega)]
/-- the moment that is kept, at place u; v: what stood before it -/
def mindQ (w v m : Nat → Int32) (u : Nat) : Prop := m 75 = nI (u + 1) ∧ m (9 * u + 76) = w 2 ∧ m (9 * u + 77) = w 3 ∧ m (9 * u + 78) = w 4 ∧ (∀ i, i < 6 → m (9 * u + i + 79) = w (i + 17)) ∧ (∀ j, 76 ≤ j → j < 9 * u + 76 → m j = v j) ∧ (∀ j, j < 75 → m j = w j) ∧ ∀ j, 148 ≤ j → m j = w j
theorem mind_all (w v : Nat → Int32) (u : Nat) (hu : u < 8) (hv : ∀ j, (j < 75 ∨ 148 ≤ j) → v j = w j) (m : Nat → Int32) (hm : ∀ j, m j = if j = 75 then nI (u + 1) else if 9 * u + 79 ≤ j ∧ j < 9 * u + 85 then v (j - (9 * u + 79) + 17) else if j = 9 * u + 78 then v 4 else if j = 9 * u + 77 then v 3 else if j = 9 * u + 76 then v 2 else v j) : mindQ w v m u := by
  refine ⟨by rw [hm, if_pos rfl], ?_, ?_, ?_, fun i hi => ?_, fun j a b => ?_, fun j a => ?_, fun j a => ?_⟩
  · rw [hm, if_neg (by omega), if_neg (by omega), if_neg (by omega), if_neg (by omega), if_pos rfl, hv _ (by omega)]
  · rw [hm, if_neg (by omega), if_neg (by omega), if_neg (by omega), if_pos rfl, hv _ (by omega)]
  · rw [hm, if_neg (by omega), if_neg (by omega), if_pos rfl, hv _ (by omega)]
  · rw [hm, if_neg (by omega), if_pos (by omega), hv _ (by omega)]
    congr 1; omega
  · rw [hm, if_neg (by omega), if_neg (by omega), if_neg (by omega), if_neg (by omega), if_neg (by omega)]
  · rw [hm, if_neg (by omega), if_neg (by omega), if_neg (by omega), if_neg (by omega), if_neg (by omega), hv _ (by omega)]
  · rw [hm, if_neg (by omega), if_neg (by omega), if_neg (by omega), if_neg (by omega), if_neg (by omega), hv _ (by omega)]
theorem upd3 (v : Nat → Int32) (u : Nat) (a b c : Int32) (j : Nat) : upd (upd (upd v (9 * u + 76) a) (9 * u + 77) b) (9 * u + 78) c j = if j = 9 * u + 78 then c else if j = 9 * u + 77 then b else if j = 9 * u + 76 then a else v j := rfl
theorem minds_low (w : Nat → Int32) (u : Nat) (hu : tN (w 75) = u) (h8 : u < 8) : mindQ w w (F_X6_minds w) u := by
  refine mind_all w w u h8 (fun j _ => rfl) _ (fun j => ?_)
  unfold F_X6_minds
  simp only [let2]
  rw [hu, if_neg (by omega)]
  by_cases c : j = 75
  · rw [c, if_pos rfl, pk_us]
  · rw [pk_un c, if_neg c, L_m114 w u hu 7 0 _ (by decide) j, Nat.add_zero]
    by_cases d : 9 * u + 79 ≤ j ∧ j < 9 * u + 85
    · rw [if_pos d, if_pos d, upd3, if_neg (by omega), if_neg (by omega), if_neg (by omega)]
    · rw [if_neg d, if_neg d, upd3]
theorem minds_full (w : Nat → Int32) (hu : tN (w 75) = 8) : mindQ w (fun j => if 76 ≤ j ∧ j < 139 then w (j + 9) else w j) (F_X6_minds w) 7 := by
  have h14 := L_m14 64 0 w (by decide)
  refine mind_all w _ 7 (by decide) (fun j hj => if_neg (by omega)) _ (fun j => ?_)
  unfold F_X6_minds
  simp only [let2]
  rw [if_pos hu]
  generalize (F_X6_minds_L14 64 0 w).2 = w1 at h14 ⊢
  simp only [Nat.zero_add] at h14
  rw [hu]
  have g : ∀ j, j < 75 → w1 j = (if 76 ≤ j ∧ j < 139 then w (j + 9) else w j) := fun j _ => h14 j
  by_cases c : j = 75
  · rw [c, if_pos rfl, pk_us]
  · rw [pk_un c, if_neg c, L_m114b w 7 (by rw [hu]) 7 0 _ (by decide) j, Nat.add_zero]
    by_cases d : 9 * 7 + 79 ≤ j ∧ j < 9 * 7 + 85
    · rw [if_pos d, if_pos d, upd3 _ 7, if_neg (by omega), if_neg (by omega), if_neg (by omega), pk_un (by omega), h14]
    · rw [if_neg d, if_neg d, upd3 _ 7]
      by_cases e1 : j = 9 * 7 + 78
      · rw [if_pos e1, if_pos e1, h14]
      · rw [if_neg e1, if_neg e1]
        by_cases e2 : j = 9 * 7 + 77
        · rw [if_pos e2, if_pos e2, h14]
        · rw [if_neg e2, if_neg e2]
          by_cases e3 : j = 9 * 7 + 76
          · rw [if_pos e3, if_pos e3, h14]
          · rw [if_neg e3, if_neg e3, pk_un c, h14]
/-- the class keeps it so -/
def remQ (P : pS) (c c' : Nat → Int32) (u : Nat) : Prop := (∀ i, i < 6 → c' (9 * u + i) = Pwh P i) ∧ c' (9 * u + 6) = Pnx P ∧ c' (9 * u + 7) = Ppt P ∧ c' (9 * u + 8) = Pbl P ∧ ∀ j, j < 9 * u → c' j = c j
theorem L_rem (P : pS) (u : Nat) (hu : u < 8) : ∀ (f k : Nat) (c : Nat → Int32), 6 - k < f → k ≤ 6 → ∃ c', (F_X1_remember_L19 f P k (c, nI (9 * u + k))).2 = (c', nI (9 * u + 6)) ∧ (∀ i, k ≤ i → i < 6 → c' (9 * u + i) = Pwh P i) ∧ ∀ j, j < 9 * u + k → c' j = c j
  | 0, _, _, h, _ => by omega
  | f + 1, k, c, h, hk => by
    rw [F_X1_remember_L19]
    by_cases d : 6 ≤ k
    · rw [if_pos d]
      have : k = 6 := by omega
      subst this
      exact ⟨c, rfl, fun i a b => by omega, fun _ _ => rfl⟩
    · rw [if_neg d]
      simp only [let1]
      rw [put9 (by omega)]
      obtain ⟨c', e, h1, h2⟩ := L_rem P u hu f (k + 1) (upd c (9 * u + k) (Pwh P k)) (by omega) (by omega)
      refine ⟨c', e, fun i a b => ?_, fun j hj => ?_⟩
      · by_cases z : i = k
        · rw [z, h2 _ (by omega), pk_us]
        · exact h1 i (by omega) b
      · rw [h2 j (by omega), pk_un (by omega)]
theorem L_remb (P : pS) (u : Nat) (hu : u < 8) : ∀ (f k : Nat) (c : Nat → Int32), 6 - k < f → k ≤ 6 → ∃ c', (F_X1_remember_L19b f P k (c, nI (9 * u + k))).2 = (c', nI (9 * u + 6)) ∧ (∀ i, k ≤ i → i < 6 → c' (9 * u + i) = Pwh P i) ∧ ∀ j, j < 9 * u + k → c' j = c j
  | 0, _, _, h, _ => by omega
  | f + 1, k, c, h, hk => by
    rw [F_X1_remember_L19b]
    by_cases d : 6 ≤ k
    · rw [if_pos d]
      have : k = 6 := by omega
      subst this
      exact ⟨c, rfl, fun i a b => by omega, fun _ _ => rfl⟩
    · rw [if_neg d]
      simp only [let1]
      rw [put9 (by omega)]
      obtain ⟨c', e, h1, h2⟩ := L_remb P u hu f (k + 1) (upd c (9 * u + k) (Pwh P k)) (by omega) (by omega)
      refine ⟨c', e, fun i a b => ?_, fun j hj => ?_⟩
      · by_cases z : i = k
        · rw [z, h2 _ (by omega), pk_us]
        · exact h1 i (by omega) b
      · rw [h2 j (by omega), pk_un (by omega)]
theorem rem_end (P : pS) (u : Nat) (hu : u < 8) (c c' : Nat → Int32) (h1 : ∀ i, i < 6 → c' (9 * u + i) = Pwh P i) (h2 : ∀ j, j < 9 * u → c' j = c j) : ∃ c2, F_X4_put_v9 (F_X4_put_v9 (F_X4_put_v9 (c', nI (9 * u + 6)) (Pnx P)) (Ppt P)) (Pbl P) = (c2, nI (9 * (u + 1))) ∧ remQ P c c2 u := by
  rw [put9 (by omega), put9 (by omega), put9 (by omega)]
  refine ⟨_, by rw [show 9 * u + 6 + 1 + 1 + 1 = 9 * (u + 1) by omega], fun i hi => ?_, ?_, ?_, ?_, fun j hj => ?_⟩
  · rw [pk_un (by omega), pk_un (by omega), pk_un (by omega)]; exact h1 i hi
  · rw [pk_un (by omega), pk_un (by omega), pk_us]
  · rw [pk_un (by omega), pk_us]
  · exact pk_us
  · rw [pk_un (by omega), pk_un (by omega), pk_un (by omega)]; exact h2 j hj
theorem rem_low (P : pS) (u : Nat) (hu : u < 8) (c : Nat → Int32) : ∃ c2, F_X1_remember P (c, nI (9 * u)) = (c2, nI (9 * (u + 1))) ∧ remQ P c c2 u := by
  unfold F_X1_remember F_X4_isFull_v9
  simp only [let1, let2]
  have t : tN (Rus (c, nI (9 * u))) = 9 * u := tN_nI (by omega)
  rw [t, if_pos (by omega : 9 * u + 9 ≤ 72)]
  simp only [Bool.false_eq_true, if_false]
  obtain ⟨c', e, h1, h2⟩ := L_rem P u hu 7 0 c (by decide) (by decide)
  rw [Nat.add_zero] at e h2
  rw [e]
  exact rem_end P u hu c c' (fun i hi => h1 i (Nat.zero_le _) hi) h2
theorem rem_f1 (c : Nat → Int32) (u : Nat) (hu : u = 7) : F_X4_isFull_v9 (c, nI (9 * (u + 1))) = true := by
  unfold F_X4_isFull_v9
  show (if tN (nI (9 * (u + 1))) + 9 ≤ 72 then false else true) = true
  rw [tN_nI (by omega), if_neg (by omega)]
theorem rem_f2 (c : Nat → Int32) (u : Nat) (hu : u = 7) : F_X4_dropFirst_v9 (c, nI (9 * (u + 1))) = (va_cpy c c 9 0 (9 * u), nI (9 * u)) := by
  unfold F_X4_dropFirst_v9
  show (if tN (nI (9 * (u + 1))) < 9 then (c, nI (9 * (u + 1))) else (va_cpy c c 9 0 (tN (nI (9 * (u + 1))) - 9), nI (tN (nI (9 * (u + 1))) - 9))) = _
  rw [tN_nI (by omega), if_neg (by omega), show 9 * (u + 1) - 9 = 9 * u by omega]
theorem let2_eq {α1 α2 γ : Type} (p : α1 × α2) (k : α1 → α2 → γ) : let2 p k = k p.1 p.2 := rfl
theorem rem_E (P : pS) (a b : rS) (hf : F_X4_isFull_v9 a = true) (hd : F_X4_dropFirst_v9 a = b) : F_X1_remember P a = F_X4_put_v9 (F_X4_put_v9 (F_X4_put_v9 (F_X1_remember_L19b 7 P 0 b).2 (Pnx P)) (Ppt P)) (Pbl P) := by
  rw [F_X1_remember, hf, let1_mk, if_pos rfl, hd, let1_mk, let2_eq, let1_mk, let1_mk, let1_mk]
theorem rem_full (P : pS) (c : Nat → Int32) (u : Nat) (hu : u = 7) : ∃ c2, F_X1_remember P (c, nI (9 * (u + 1))) = (c2, nI (9 * (u + 1))) ∧ remQ P (fun j => c (j + 9)) c2 u := by
  have u8 : u < 8 := by omega
  have f1 := rem_f1 c u hu
  have f2 := rem_f2 c u hu
  clear hu
  obtain ⟨c', e, h1, h2⟩ := L_remb P u u8 7 0 (va_cpy c c 9 0 (9 * u)) (by decide) (by decide)
  rw [Nat.add_zero] at e h2
  have E := rem_E P _ _ f1 f2
  rw [e] at E
  have hh : ∀ j, j < 9 * u → c' j = (fun j => c (j + 9)) j := fun j hj => by
    rw [h2 j hj, pk_cpy_in (Nat.zero_le _) (by omega), Nat.sub_zero, Nat.add_comm]
  obtain ⟨c2, q1, q2⟩ := rem_end P u u8 (fun j => c (j + 9)) c' (fun i hi => h1 i (Nat.zero_le _) hi) hh
  exact ⟨c2, E.trans q1, q2⟩
theorem minds_eq {w : Nat → Int32} {P : pS} {Pa : rS} (hB : relB w P) (hU : relPa w (tN (Psz P)) Pa) : relPa (F_X6_minds w) (tN (Psz P)) (F_X1_remember P Pa) ∧ (∀ j, j < 75 → F_X6_minds w j = w j) ∧ ∀ j, 148 ≤ j → F_X6_minds w j = w j := by
  obtain ⟨hp, hw, h3, hb1, hb2⟩ := hB
  obtain ⟨p0, p1, p2, p4, pi⟩ := rp0 hp
  have s6 := hw.1.2
  obtain ⟨u, u8, uu, u75, ue⟩ := hU
  obtain ⟨c, us⟩ := Pa
  have uu' : us = nI (9 * u) := uu
  subst uu'
  have hu : tN (w 75) = u := by rw [u75]; exact tN_nI (by omega)
  have fin : ∀ (v : Nat → Int32) (d c2 : Nat → Int32) (k : Nat), k < 8 → mindQ w v (F_X6_minds w) k → F_X1_remember P (c, nI (9 * u)) = (c2, nI (9 * (k + 1))) → remQ P d c2 k → (∀ e, e < k → relM v (tN (Psz P)) d e) → relPa (F_X6_minds w) (tN (Psz P)) (F_X1_remember P (c, nI (9 * u))) := by
    intro v d c2 k hk hm he hr hold
    obtain ⟨m1, m2, m3, m4, m5, m6, -⟩ := hm
    obtain ⟨q1, q2, q3, q4, q5⟩ := hr
    rw [he]
    refine ⟨k + 1, by omega, rfl, m1, fun e hE => ?_⟩
    by_cases z : e = k
    · subst z
      refine ⟨by show _ = c2 _; rw [m2, q2, p2], by show _ = c2 _; rw [m3, q3, h3], by show _ = c2 _; rw [m4, q4, p4], fun i hi => ?_, ?_, by show inB (c2 _) _; rw [q3]; exact hb1, by show inB (c2 _) _; rw [q4]; exact hb2⟩
      · show _ = c2 _ ∧ inB (c2 _) 4
        rw [m5 i (by omega), q1 i (by omega), (pi i hi).2.2]
        exact ⟨rfl, (hw.2.2.2 i hi).2.2⟩
      · show c2 _ = -1 ∨ (0 ≤ c2 _ ∧ tN (c2 _) < _ ∧ c2 (9 * e + tN (c2 _)) = 0)
        rw [q2]
        rcases hw.2.2.1 with q | ⟨r1, r2, r3⟩
        · exact Or.inl q
        · exact Or.inr ⟨r1, r2, by rw [q1 _ (by omega)]; exact r3⟩
    · obtain ⟨a1, a2, a3, a4, a5, a6, a7⟩ := hold e (by omega)
      refine ⟨by show _ = c2 _; rw [m6 _ (by omega) (by omega), q5 _ (by omega)]; exact a1, by show _ = c2 _; rw [m6 _ (by omega) (by omega), q5 _ (by omega)]; exact a2, by show _ = c2 _; rw [m6 _ (by omega) (by omega), q5 _ (by omega)]; exact a3, fun i hi => ?_, ?_, by show inB (c2 _) _; rw [q5 _ (by omega)]; exact a6, by show inB (c2 _) _; rw [q5 _ (by omega)]; exact a7⟩
      · show _ = c2 _ ∧ inB (c2 _) 4
        rw [m6 _ (by omega) (by omega), q5 _ (by omega)]; exact a4 i hi
      · show c2 _ = -1 ∨ (0 ≤ c2 _ ∧ tN (c2 _) < _ ∧ c2 (9 * e + tN (c2 _)) = 0)
        rw [q5 (9 * e + 6) (by omega)]
        rcases a5 with q | ⟨r1, r2, r3⟩
        · exact Or.inl q
        · exact Or.inr ⟨r1, r2, by rw [q5 _ (by omega)]; exact r3⟩
  by_cases f : u = 8
  · subst f
    have hm := minds_full w hu
    obtain ⟨c2, he, hr⟩ := rem_full P c 7 rfl
    refine ⟨fin _ _ c2 7 (by decide) hm he hr (fun e hE => ?_), hm.2.2.2.2.2.2.1, hm.2.2.2.2.2.2.2⟩
    obtain ⟨a1, a2, a3, a4, a5, a6, a7⟩ := ue (e + 1) (by omega)
    have sh : ∀ k, 9 * (e + 1) + k = 9 * e + k + 9 := fun k => by omega
    refine ⟨?_, ?_, ?_, fun i hi => ?_, ?_, ?_, ?_⟩
    · show (if 76 ≤ 9 * e + 76 ∧ 9 * e + 76 < 139 then w (9 * e + 76 + 9) else w (9 * e + 76)) = c (9 * e + 6 + 9)
      rw [if_pos (by omega), show 9 * e + 76 + 9 = 9 * (e + 1) + 76 by omega, a1]; exact congrArg c (by omega)
    · show (if 76 ≤ 9 * e + 77 ∧ 9 * e + 77 < 139 then w (9 * e + 77 + 9) else w (9 * e + 77)) = c (9 * e + 7 + 9)
      rw [if_pos (by omega), show 9 * e + 77 + 9 = 9 * (e + 1) + 77 by omega, a2]; exact congrArg c (by omega)
    · show (if 76 ≤ 9 * e + 78 ∧ 9 * e + 78 < 139 then w (9 * e + 78 + 9) else w (9 * e + 78)) = c (9 * e + 8 + 9)
      rw [if_pos (by omega), show 9 * e + 78 + 9 = 9 * (e + 1) + 78 by omega, a3]; exact congrArg c (by omega)
    · show (if 76 ≤ 9 * e + i + 79 ∧ 9 * e + i + 79 < 139 then w (9 * e + i + 79 + 9) else w (9 * e + i + 79)) = c (9 * e + i + 9) ∧ inB (c (9 * e + i + 9)) 4
      rw [if_pos (by omega), show 9 * e + i + 79 + 9 = 9 * (e + 1) + i + 79 by omega]
      rw [show 9 * e + i + 9 = 9 * (e + 1) + i by omega]; exact a4 i hi
    · show c (9 * e + 6 + 9) = -1 ∨ (0 ≤ c (9 * e + 6 + 9) ∧ tN (c (9 * e + 6 + 9)) < _ ∧ c (9 * e + tN (c (9 * e + 6 + 9)) + 9) = 0)
      rw [← sh 6, ← sh]; exact a5
    · show inB (c (9 * e + 7 + 9)) 9999
      rw [← sh 7]; exact a6
    · show inB (c (9 * e + 8 + 9)) 9999
      rw [← sh 8]; exact a7
  · have hm := minds_low w u hu (by omega)
    obtain ⟨c2, he, hr⟩ := rem_low P u (by omega) c
    exact ⟨fin _ _ c2 u (by omega) hm he hr ue, hm.2.2.2.2.2.2.1, hm.2.2.2.2.2.2.2⟩
