/-! a field of the class, and the reference's row of numbers -/
def relB (v : Nat → Int32) (P : pS) : Prop := relP 0 v P ∧ wfP P ∧ v 3 = Ppt P ∧ inB (Ppt P) 9999 ∧ inB (Pbl P) 9999
def relW (v Rw : Nat → Int32) : Prop := ∀ k, k < 8 → v (k + 23) = Rw k ∧ inB (Rw k) 9
def relNo (v : Nat → Int32) (R : rS) : Prop := ∃ n, n ≤ 6 ∧ Rus R = nI (3 * n) ∧ v 31 = nI n ∧ (∀ k, k < 3 * n → v (k + 32) = Rce R k) ∧ ∀ e, e < n → inB (Rce R (3 * e)) 99 ∧ inB (Rce R (3 * e + 1)) 9
def relMa (v : Nat → Int32) (R : rS) : Prop := ∃ n, n ≤ 6 ∧ Rus R = nI (4 * n) ∧ v 50 = nI n ∧ (∀ k, k < 4 * n → v (k + 51) = Rce R k) ∧ ∀ e, e < n → inB (Rce R (4 * e + 1)) 5 ∧ inB (Rce R (4 * e + 2)) 20
def relM (v : Nat → Int32) (n0 : Nat) (c : Nat → Int32) (e : Nat) : Prop := v (9 * e + 76) = c (9 * e + 6) ∧ v (9 * e + 77) = c (9 * e + 7) ∧ v (9 * e + 78) = c (9 * e + 8) ∧ (∀ i, i < n0 → v (9 * e + i + 79) = c (9 * e + i) ∧ inB (c (9 * e + i)) 4) ∧ (c (9 * e + 6) = -1 ∨ (0 ≤ c (9 * e + 6) ∧ tN (c (9 * e + 6)) < n0 ∧ c (9 * e + tN (c (9 * e + 6))) = 0)) ∧ inB (c (9 * e + 7)) 9999 ∧ inB (c (9 * e + 8)) 9999
def relPa (v : Nat → Int32) (n0 : Nat) (R : rS) : Prop := ∃ n, n ≤ 8 ∧ Rus R = nI (9 * n) ∧ v 75 = nI n ∧ ∀ e, e < n → relM v n0 (Rce R) e
def relF (v : Nat → Int32) (P : pS) (Rw : Nat → Int32) (No Ma Pa : rS) : Prop := relB v P ∧ relW v Rw ∧ relNo v No ∧ relMa v Ma ∧ relPa v (tN (Psz P)) Pa
theorem rp0 {v : Nat → Int32} {P : pS} (h : relP 0 v P) : v 0 = Psz P ∧ v 1 = Pbo P ∧ v 2 = Pnx P ∧ v 4 = Pbl P ∧ ∀ i, i < tN (Psz P) → v (i + 5) = Pkd P i ∧ v (i + 11) = Plg P i ∧ v (i + 17) = Pwh P i := by
  obtain ⟨h0, h1, h2, h4, hi⟩ := h
  refine ⟨h0, h1, h2, h4, fun i q => ?_⟩
  have := hi i q
  rw [Nat.zero_add] at this
  exact this
theorem rp0' {v : Nat → Int32} {P : pS} (h : v 0 = Psz P ∧ v 1 = Pbo P ∧ v 2 = Pnx P ∧ v 4 = Pbl P ∧ ∀ i, i < tN (Psz P) → v (i + 5) = Pkd P i ∧ v (i + 11) = Plg P i ∧ v (i + 17) = Pwh P i) : relP 0 v P := by
  obtain ⟨h0, h1, h2, h4, hi⟩ := h
  refine ⟨h0, h1, h2, h4, fun i q => ?_⟩
  rw [Nat.zero_add]
  exact hi i q
/-- what the reference keeps of its first 148 numbers -/
theorem relF_keep {v v' : Nat → Int32} {P : pS} {Rw : Nat → Int32} {No Ma Pa : rS} (hk : ∀ j, j < 148 → v' j = v j) (h : relF v P Rw No Ma Pa) : relF v' P Rw No Ma Pa := by
  obtain ⟨⟨hp, hw, h3, hb⟩, hW, ⟨n, n6, nu, n31, nk, nb⟩, ⟨a, a6, au, a50, ak, ab⟩, ⟨u, u8, uu, u75, ue⟩⟩ := h
  obtain ⟨p0, p1, p2, p4, pi⟩ := rp0 hp
  have s6 := hw.1.2
  refine ⟨⟨rp0' ⟨by rw [hk _ (by omega), p0], by rw [hk _ (by omega), p1], by rw [hk _ (by omega), p2], by rw [hk _ (by omega), p4], fun i hi => ?_⟩, hw, by rw [hk _ (by omega), h3], hb⟩, fun k q => by rw [hk _ (by omega)]; exact hW k q, ⟨n, n6, nu, by rw [hk _ (by omega), n31], fun k q => by rw [hk _ (by omega)]; exact nk k q, nb⟩, ⟨a, a6, au, by rw [hk _ (by omega), a50], fun k q => by rw [hk _ (by omega)]; exact ak k q, ab⟩, ⟨u, u8, uu, by rw [hk _ (by omega), u75], fun e q => ?_⟩⟩
  · rw [hk _ (by omega), hk _ (by omega), hk _ (by omega)]; exact pi i hi
  · obtain ⟨m1, m2, m3, m4, m5⟩ := ue e q
    refine ⟨by rw [hk _ (by omega), m1], by rw [hk _ (by omega), m2], by rw [hk _ (by omega), m3], fun i hi => ?_, m5⟩
    rw [hk _ (by omega)]; exact m4 i hi
/-- the numbers that no batter stands at don't count -/
theorem relF_cong {v : Nat → Int32} {P P' : pS} {Rw Rw' : Nat → Int32} {No Ma Pa No' Ma' Pa' : rS} (h : relF v P Rw No Ma Pa) (h1 : Psz P' = Psz P ∧ Pbo P' = Pbo P ∧ Pnx P' = Pnx P ∧ Ppt P' = Ppt P ∧ Pbl P' = Pbl P ∧ ∀ i, i < 6 → Pkd P' i = Pkd P i ∧ Plg P' i = Plg P i ∧ Pwh P' i = Pwh P i) (h2 : ∀ k, k < 8 → Rw' k = Rw k)
    (h3 : Rus No' = Rus No ∧ ∀ k, k < tN (Rus No) → Rce No' k = Rce No k) (h4 : Rus Ma' = Rus Ma ∧ ∀ k, k < tN (Rus Ma) → Rce Ma' k = Rce Ma k) (h5 : Rus Pa' = Rus Pa ∧ ∀ k, k < tN (Rus Pa) → Rce Pa' k = Rce Pa k) : relF v P' Rw' No' Ma' Pa' := by
  obtain ⟨⟨hp, hw, hv3, hb1, hb2⟩, hW, ⟨n, n6, nu, n31, nk, nb⟩, ⟨a, a6, au, a50, ak, ab⟩, ⟨u, u8, uu, u75, ue⟩⟩ := h
  obtain ⟨p0, p1, p2, p4, pi⟩ := rp0 hp
  obtain ⟨e1, e2, e3, e4, e5, ei⟩ := h1
  have s6 := hw.1.2
  have tn : tN (Rus No) = 3 * n := by rw [nu]; exact tN_nI (by omega)
  have ta : tN (Rus Ma) = 4 * a := by rw [au]; exact tN_nI (by omega)
  have tu : tN (Rus Pa) = 9 * u := by rw [uu]; exact tN_nI (by omega)
  obtain ⟨w1, w2, w3, w4⟩ := hw
  have hwf : wfP P' := by
    refine ⟨by rw [e1]; exact w1, by rw [e2]; exact w2, ?_, fun i hi => ?_⟩
    · rcases w3 with q | ⟨q1, q2, q3⟩
      · exact Or.inl (by rw [e3]; exact q)
      · exact Or.inr ⟨by rw [e3]; exact q1, by rw [e3, e1]; exact q2, by rw [e3, (ei _ (by omega)).2.2]; exact q3⟩
    · rw [e1] at hi
      have g := ei i (by omega)
      rw [g.1, g.2.1, g.2.2]; exact w4 i hi
  refine ⟨⟨rp0' ⟨by rw [p0, e1], by rw [p1, e2], by rw [p2, e3], by rw [p4, e5], fun i hi => ?_⟩, hwf, by rw [hv3, e4], by rw [e4]; exact hb1, by rw [e5]; exact hb2⟩, fun k q => by rw [h2 k q]; exact hW k q, ⟨n, n6, by rw [h3.1, nu], n31, fun k q => by rw [h3.2 k (by omega)]; exact nk k q, fun e q => ?_⟩, ⟨a, a6, by rw [h4.1, au], a50, fun k q => by rw [h4.2 k (by omega)]; exact ak k q, fun e q => ?_⟩, ⟨u, u8, by rw [h5.1, uu], u75, fun e q => ?_⟩⟩
  · rw [e1] at hi
    have g := ei i (by omega)
    rw [g.1, g.2.1, g.2.2]; exact pi i hi
  · rw [h3.2 _ (by omega), h3.2 _ (by omega)]; exact nb e q
  · rw [h4.2 _ (by omega), h4.2 _ (by omega)]; exact ab e q
  · obtain ⟨m1, m2, m3, m4, m5, m6, m7⟩ := ue e q
    rw [e1]
    refine ⟨by rw [h5.2 _ (by omega), m1], by rw [h5.2 _ (by omega), m2], by rw [h5.2 _ (by omega), m3], fun i hi => ?_, ?_, by rw [h5.2 _ (by omega)]; exact m6, by rw [h5.2 _ (by omega)]; exact m7⟩
    · rw [h5.2 _ (by omega)]; exact m4 i hi
    · rw [h5.2 (9 * e + 6) (by omega)]
      rcases m5 with q | ⟨q1, q2, q3⟩
      · exact Or.inl q
      · exact Or.inr ⟨q1, q2, by rw [h5.2 _ (by omega)]; exact q3⟩
theorem rel_sz {v : Nat → Int32} {P : pS} {Rw : Nat → Int32} {No Ma Pa : rS} (h : relF v P Rw No Ma Pa) : inB (Psz P) 6 := h.1.2.1.1
theorem rel_no {v : Nat → Int32} {P : pS} {Rw : Nat → Int32} {No Ma Pa : rS} (h : relF v P Rw No Ma Pa) : inB (Rus No) 18 := by
  obtain ⟨n, n6, nu, -⟩ := h.2.2.1
  rw [nu]; exact inB_nI (by omega) (by decide)
theorem rel_ma {v : Nat → Int32} {P : pS} {Rw : Nat → Int32} {No Ma Pa : rS} (h : relF v P Rw No Ma Pa) : inB (Rus Ma) 24 := by
  obtain ⟨n, n6, nu, -⟩ := h.2.2.2.1
  rw [nu]; exact inB_nI (by omega) (by decide)
theorem rel_pa {v : Nat → Int32} {P : pS} {Rw : Nat → Int32} {No Ma Pa : rS} (h : relF v P Rw No Ma Pa) : inB (Rus Pa) 72 := by
  obtain ⟨n, n6, nu, -⟩ := h.2.2.2.2
  rw [nu]; exact inB_nI (by omega) (by decide)
theorem rel_w0 {v : Nat → Int32} {P : pS} {Rw : Nat → Int32} {No Ma Pa : rS} (h : relF v P Rw No Ma Pa) : inB (v 0) 6 ∧ okN (v 2) ∧ inB (v 31) 6 ∧ inB (v 50) 6 ∧ inB (v 75) 8 := by
  obtain ⟨p0, p1, p2, p4, pi⟩ := rp0 h.1.1
  obtain ⟨n, n6, -, n31, -⟩ := h.2.2.1
  obtain ⟨a, a6, -, a50, -⟩ := h.2.2.2.1
  obtain ⟨u, u8, -, u75, -⟩ := h.2.2.2.2
  refine ⟨by rw [p0]; exact h.1.2.1.1, by rw [p2]; exact wfN_ok h.1.2.1, by rw [n31]; exact inB_nI n6 (by decide), by rw [a50]; exact inB_nI a6 (by decide), by rw [u75]; exact inB_nI u8 (by decide)⟩
theorem isBatter_eq {w : Nat → Int32} {P : pS} (h0 : w 0 = Psz P) (hs : 0 ≤ Psz P) (i : Int32) : F_X6_isBatter w i = F_X5_isBatter P i := by
  unfold F_X6_isBatter F_X5_isBatter
  rw [h0, ← tN_eq hs]
  exact iw i (by decide) rfl
/-! short calls -/
theorem of_eq {w su : Nat → Int32} {P : pS} {Rw : Nat → Int32} {No Ma Pa : rS} (h : relF w P Rw No Ma Pa) (i wh : Int32) : F_X6_of w su i wh = F_X5_of P su i wh := by
  obtain ⟨p0, p1, p2, p4, pi⟩ := rp0 h.1.1
  have hs := rel_sz h
  unfold F_X6_of F_X5_of
  simp only [let1, let2]
  rw [isBatter_eq p0 hs.1, iw wh (a := 0) (b := 2) (lo := nI 0) (hi := nI 2) (by decide) (by decide), ref_bad]
  by_cases c : F_X5_isBatter P i = true
  · rw [if_pos c, if_pos c]
    obtain ⟨i0, i1⟩ := isBatter2 rfl c hs
    have ie := tN_eq i0
    by_cases d : F_X5_within wh (nI 0) (nI 2) = true
    · rw [if_pos d, if_pos d]
      obtain ⟨d0, -, d2⟩ := within_nat (by decide) (by decide) d
      unfold F_X2_told
      have c2 : F_X5_within (nI (tN i)) (nI 0) (nI (tN (Psz P)) - nI 1) = true := by rw [← ie]; exact c
      rw [if_pos c2, tN_nI (tN_lt _)]
      have : tN wh = 0 ∨ tN wh = 1 ∨ tN wh = 2 := by omega
      rcases this with e | e | e
      · rw [e, if_pos (by decide)]; simp only [Nat.mul_zero, Nat.zero_add]; rw [(pi _ i1).1]
      · rw [e, if_neg (by decide), if_pos (by decide), show 6 * 1 + tN i + 5 = tN i + 11 by omega, (pi _ i1).2.1]
      · rw [e, if_neg (by decide), if_neg (by decide), show 6 * 2 + tN i + 5 = tN i + 17 by omega, (pi _ i1).2.2]
    · rw [if_neg d, if_neg d]
  · rw [if_neg c, if_neg c]
theorem worth_eq {w su : Nat → Int32} {P : pS} {Rw : Nat → Int32} {No Ma Pa : rS} (h : relF w P Rw No Ma Pa) (hi wh : Int32) : F_X6_worth w su hi wh = F_X5_worth P su hi wh := by
  unfold F_X6_worth F_X5_worth F_X5_isHit
  simp only [let1, let2]
  rw [iw hi (a := 0) (b := 9) (lo := nI 0) (hi := nI 9) (by decide) (by decide), iw wh (a := 0) (b := 1) (lo := nI 0) (hi := nI 1) (by decide) (by decide), ref_bad]
  by_cases c : F_X5_within hi (nI 0) (nI 9) = true
  · rw [if_pos c, if_pos c]
    obtain ⟨c0, -, c2⟩ := within_nat (by decide) (by decide) c
    by_cases d : F_X5_within wh (nI 0) (nI 1) = true
    · rw [if_pos d, if_pos d]
      have hC := hw_eq2 h.1.1 h.1.2.2.2.2 (by decide) (h := tN hi) (by omega)
      have hW := h.1.2.1
      obtain ⟨p0, p1, p2, p4, pi⟩ := rp0 h.1.1
      by_cases z : tN wh = 0
      · rw [if_pos z, if_pos z]
        unfold F_X2_comesTo
        rw [hC.1]
      · rw [if_neg z, if_neg z]
        unfold F_X2_postsBy
        simp only [let1]
        rw [isDone_c hW, isDone_r, ← hC.1, show (0 : Nat) + 2 = 2 from rfl, p2]
        obtain ⟨g, hg, ge⟩ := nI_small hC.2
        rw [ge]
        by_cases n1 : Pnx P = -1
        · rw [decide_eq_true n1]
          simp only [if_true]
          by_cases g0 : nI g = 0
          · rw [if_pos g0, if_neg (by decide)]
          · rw [if_neg g0, if_neg (by decide)]
        · rw [decide_eq_false n1]
          simp only [Bool.false_eq_true, if_false]
          by_cases g0 : nI g = 0
          · rw [if_pos g0, if_pos g0, if_neg (by decide)]
          · rw [if_neg g0, if_neg g0]
            obtain ⟨q0, qm, qw⟩ := wf_next hW n1
            have wq := hW.2.2.2 _ qm
            obtain ⟨kd, hkd, ke⟩ := nI_small wq.1
            obtain ⟨lg, hlg, le⟩ := nI_small wq.2.1.1
            unfold F_X6_runsNow
            simp only [Nat.zero_add]
            rw [p2, (pi _ qm).1, (pi _ qm).2.1, ke, le, pr_eq kd (by omega) lg (by omega) g (by omega)]
            have hin := pr_in0 kd (by omega) lg (by omega) g (by omega)
            by_cases s : nI 0 < F_X5_postsRun (nI kd) (nI lg) (nI g)
            · rw [if_pos s]
            · rw [if_neg s]
              have e := tN_eq hin.1
              rw [e] at s ⊢
              have : ¬ 0 < tN (F_X5_postsRun (nI kd) (nI lg) (nI g)) := fun q => s ((nI_ltI (by decide) (tN_lt _)).mpr q)
              rw [show tN (F_X5_postsRun (nI kd) (nI lg) (nI g)) = 0 by omega]
    · rw [if_neg d, if_neg d]
  · rw [if_neg c, if_neg c]
theorem status_eq (su : Nat → Int32) (wh : Int32) : F_X6_status su wh = F_X5_status su wh := by
  unfold F_X6_status F_X5_status
  simp only [let1, let2]
  rw [iw wh (a := 0) (b := 2) (lo := nI 0) (hi := nI 2) (by decide) (by decide), ref_bad]
  by_cases c : F_X5_within wh (nI 0) (nI 2) = true
  · rw [if_pos c, if_pos c]
  · rw [if_neg c, if_neg c]; rfl
