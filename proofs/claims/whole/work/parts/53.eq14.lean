/-! the ways of a ball; how the cases are spread -/
def wyC (P : pS) (h : Nat) : Nat := if F_X2_postsBy P (nI h) < nI 4 then tN (nI 1 + F_X2_postsBy P (nI h)) else 5
def cnC (P : pS) (v : Nat) : Nat := sumN (fun h => if wyC P h = v then 1 else 0) 10
theorem posts_in {P : pS} {b h : Nat} (hw : wfP P) (hb : inB (Pbl P) b) (hb2 : b < 20000) (d : ¬ Pnx P = -1) (hh : h < 10) : F_X2_postsBy P (nI h) = -1 ∨ ∃ q, q ≤ 6 ∧ F_X2_postsBy P (nI h) = nI q := by
  obtain ⟨q0, qm, -⟩ := wf_next hw d
  have be := tN_eq hb.1
  have bl := hb.2
  unfold F_X2_postsBy
  simp only [let1]
  rw [isDone_c hw, decide_eq_false d, if_neg (by decide)]
  have e := hw_eq (Pbo P) hh (t := tN (Pbl P) + 1) (by omega)
  have i := ct_in (Pbo P) hh (t := tN (Pbl P) + 1) (by omega)
  have s : Pbl P + nI 1 = nI (tN (Pbl P) + 1) := by rw [be, nI_add, tN_nI (tN_lt _)]
  rw [s, ← e]
  obtain ⟨g, hg, ge⟩ := nI_small i
  rw [ge]
  by_cases c : nI g = 0
  · rw [if_pos c]; exact Or.inl rfl
  · rw [if_neg c]
    have wq := hw.2.2.2 _ qm
    obtain ⟨kd, hkd, ke⟩ := nI_small wq.1
    obtain ⟨lg, hlg, le⟩ := nI_small wq.2.1.1
    rw [ke, le]
    obtain ⟨q, hq, qe⟩ := nI_small (x := F_X5_postsRun (nI kd) (nI lg) (nI g)) (n := 6) (pr_in0 kd (by omega) lg (by omega) g (by omega))
    exact Or.inr ⟨q, hq, qe⟩
theorem upd_upd (w : Nat → Int32) (k : Nat) (a b : Int32) : upd (upd w k a) k b = upd w k b := by
  funext j
  by_cases c : j = k
  · rw [c, pk_us, pk_us]
  · rw [pk_un c, pk_un c, pk_un c]
theorem L_run4 {q : Nat} (h4 : 4 ≤ q) (h6 : q ≤ 6) (P : pS) : ∀ (f k gn : Nat) (w1 : Nat → Int32), F_X2_runAll_L4 f (nI q) P k gn w1 = F_X2_runAll_L4 f (nI 4) P k gn w1
  | 0, _, _, _ => rfl
  | f + 1, k, gn, w1 => by
    rw [F_X2_runAll_L4, F_X2_runAll_L4]
    by_cases c : tN (Psz P) ≤ k
    · rw [if_pos c, if_pos c]
    · rw [if_neg c, if_neg c]
      by_cases a : F_X5_within (w1 k) (nI 1) (nI 3) = true
      · rw [if_pos a, if_pos a]
        obtain ⟨a1, a2, a3⟩ := within_nat (by decide) (by decide) a
        have big : ∀ r, 4 ≤ r → r ≤ 6 → ¬ w1 k + nI r < nI 4 := fun r r4 r6 z => by
          rw [tN_eq a1, nI_add, nI_ltI (by omega) (by decide)] at z
          omega
        rw [if_neg (big q h4 h6), if_neg (big 4 (by decide) (by decide)), upd_upd, upd_upd]
        exact L_run4 h4 h6 P f (k + 1) (gn + 1) _
      · rw [if_neg a, if_neg a]
        exact L_run4 h4 h6 P f (k + 1) gn w1
theorem runBall_4 {q : Nat} (h4 : 4 ≤ q) (h6 : q ≤ 6) (P : pS) : F_X2_runBall P (nI q) = F_X2_runBall P (nI 4) := by
  unfold F_X2_runBall F_X2_runAll
  simp only [let1, let2, let3]
  have n0 : ∀ r, 4 ≤ r → r ≤ 6 → ¬ nI r ≤ 0 := fun r r4 r6 => nI_nle (by omega) (by omega)
  have n4 : ∀ r, 4 ≤ r → r ≤ 6 → ¬ nI r < nI 4 := fun r r4 r6 z => by
    rw [nI_ltI (by omega) (by decide)] at z
    omega
  rw [if_pos (nI_pos' (show q < 2 ^ 31 by omega)), if_neg (n0 q h4 h6), if_neg (n4 q h4 h6), if_pos (nI_pos' (show 4 < 2 ^ 31 by decide)), if_neg (n0 4 (by decide) (by decide)), if_neg (n4 4 (by decide) (by decide)), L_run4 h4 h6]
theorem ball_wy {P : pS} {b h : Nat} (hw : wfP P) (hb : inB (Pbl P) b) (hb2 : b < 20000) (d : ¬ Pnx P = -1) (hh : h < 10) : F_X2_ball P (nI h) = F_X2_runBall P (nI (wyC P h) - nI 1) ∧ wyC P h ≤ 5 := by
  unfold F_X2_ball wyC
  simp only [let1, let2]
  rcases posts_in hw hb hb2 d hh with e | ⟨q, hq, e⟩
  · rw [e, if_pos (by decide), show tN (nI 1 + (-1)) = 0 from by decide, show nI 0 - nI 1 = -1 from by decide]
    exact ⟨rfl, by decide⟩
  · rw [e]
    by_cases c : q < 4
    · rw [if_pos ((nI_ltI (by omega) (by decide)).mpr c), nI_add, tN_nI (by omega), pk_sub (by omega), show 1 + q - 1 = q by omega]
      exact ⟨rfl, by omega⟩
    · rw [if_neg (fun z => c ((nI_ltI (by omega) (by decide)).mp z)), pk_sub (by decide), runBall_4 (by omega) hq]
      exact ⟨rfl, by decide⟩
theorem L_fl6 (v : Int32) : ∀ (n k : Nat) (f : Nat → Int32), 6 - k < n → ∀ j, j < 6 → (F_J7_fill_53178_v6_L5 n v k f).2 j = if k ≤ j then v else f j
  | 0, _, _, h => by omega
  | n + 1, k, f, h => by
    intro j hj
    rw [F_J7_fill_53178_v6_L5]
    by_cases c : 6 ≤ k
    · rw [if_pos c, if_neg (by omega)]
    · rw [if_neg c, L_fl6 v n (k + 1) _ (by omega) j hj]
      by_cases d : j = k
      · rw [d, if_neg (by omega), if_pos (by omega), pk_us]
      · rw [pk_un d]
        by_cases z : k + 1 ≤ j
        · rw [if_pos z, if_pos (by omega)]
        · rw [if_neg z, if_neg (by omega)]
theorem L_fl21 (v : Int32) : ∀ (n k : Nat) (f : Nat → Int32), 21 - k < n → ∀ j, j < 21 → (F_J7_fill_53178_v21_L5 n v k f).2 j = if k ≤ j then v else f j
  | 0, _, _, h => by omega
  | n + 1, k, f, h => by
    intro j hj
    rw [F_J7_fill_53178_v21_L5]
    by_cases c : 21 ≤ k
    · rw [if_pos c, if_neg (by omega)]
    · rw [if_neg c, L_fl21 v n (k + 1) _ (by omega) j hj]
      by_cases d : j = k
      · rw [d, if_neg (by omega), if_pos (by omega), pk_us]
      · rw [pk_un d]
        by_cases z : k + 1 ≤ j
        · rw [if_pos z, if_pos (by omega)]
        · rw [if_neg z, if_neg (by omega)]
theorem fw_step {P : pS} {b h : Nat} (hw : wfP P) (hb : inB (Pbl P) b) (hb2 : b < 20000) (d : ¬ Pnx P = -1) (hh : h < 10) (g : Nat → Int32) (n : Nat) : F_X0_fillWays_L7 (n + 1) P h g = F_X0_fillWays_L7 n P (h + 1) (upd g (wyC P h) (g (wyC P h) + nI 1)) := by
  rw [F_X0_fillWays_L7, if_neg (by omega)]
  simp only [let1]
  have y := (ball_wy hw hb hb2 d hh).2
  rcases posts_in hw hb hb2 d hh with e | ⟨q, hq, e⟩
  · have w0 : wyC P h = 0 := by unfold wyC; rw [e, if_pos (by decide)]; decide
    rw [e, w0, if_pos (by decide), if_pos (by decide), show tN (nI 1 + (-1)) = 0 from by decide]
  · rw [e]
    by_cases c : q < 4
    · have w0 : wyC P h = 1 + q := by unfold wyC; rw [e, if_pos ((nI_ltI (by omega) (by decide)).mpr c), nI_add, tN_nI (by omega)]
      rw [w0, if_pos ((nI_ltI (by omega) (by decide)).mpr c), nI_add, tN_nI (by omega), if_pos (by
        rw [within_iff]
        exact ⟨(nI_leI (by decide) (by omega)).mpr (Nat.zero_le _), (nI_leI (by omega) (by decide)).mpr (by omega)⟩)]
    · have w0 : wyC P h = 5 := by unfold wyC; rw [e, if_neg (fun z => c ((nI_ltI (by omega) (by decide)).mp z))]
      rw [w0, if_neg (fun z => c ((nI_ltI (by omega) (by decide)).mp z)), if_pos (by decide)]
theorem L_fw7 {P : pS} {b : Nat} (hw : wfP P) (hb : inB (Pbl P) b) (hb2 : b < 20000) (d : ¬ Pnx P = -1) : ∀ (a n h : Nat) (g : Nat → Int32), h + a = 10 → a < n → (∀ j, j < 6 → g j = nI (sumN (fun h => if wyC P h = j then 1 else 0) h)) → ∀ j, j < 6 → (F_X0_fillWays_L7 n P h g).2 j = nI (cnC P j)
  | 0, 0, _, _, _, h, _ => by omega
  | 0, n + 1, h, g, e, _, hg => by
    rw [F_X0_fillWays_L7, if_pos (by omega)]
    intro j hj
    show g j = _
    rw [hg j hj, show h = 10 by omega]
    rfl
  | a + 1, 0, _, _, _, h, _ => by omega
  | a + 1, n + 1, h, g, e, hn, hg => by
    rw [fw_step hw hb hb2 d (by omega)]
    refine L_fw7 hw hb hb2 d a n (h + 1) _ (by omega) (by omega) (fun j hj => ?_)
    rw [sumN]
    by_cases c : wyC P h = j
    · rw [c, pk_us, if_pos rfl, hg j hj, nI_add]
    · rw [pk_un (fun q => c q.symm), if_neg c, Nat.add_zero, hg j hj]
theorem fillWays_at {P : pS} {b : Nat} (hw : wfP P) (hb : inB (Pbl P) b) (hb2 : b < 20000) (d : ¬ Pnx P = -1) (Wy : Nat → Int32) : ∀ j, j < 6 → F_X0_fillWays P Wy j = nI (cnC P j) := by
  unfold F_X0_fillWays
  simp only [let1, let2]
  refine L_fw7 hw hb hb2 d 10 11 0 _ rfl (by decide) (fun j hj => ?_)
  unfold F_J7_fill_53178_v6
  simp only [let2]
  rw [L_fl6 (nI 0) 7 0 Wy (by decide) j hj, if_pos (Nat.zero_le _)]
  rfl
theorem copy_rel {r : Nat} {w : Nat → Int32} {L : pS} (M : pS) (h : relP r w L) (hw : wfP L) : relP r w (F_X2_copy M L) ∧ wfP (F_X2_copy M L) := ⟨relP_cpy (T := M) hw.1 h, wfP_cpy (T := M) hw⟩
theorem copy_wy {L : pS} (M : pS) (hw : wfP L) (d : ¬ Pnx L = -1) (h : Nat) : wyC (F_X2_copy M L) h = wyC L h := by
  obtain ⟨q0, qm, -⟩ := wf_next hw d
  have h6 := hw.1.2
  have e : F_X2_postsBy (F_X2_copy M L) (nI h) = F_X2_postsBy L (nI h) := by
    have k1 : va_cpy (Pkd L) (Pkd M) 0 0 6 (tN (Pnx L)) = Pkd L (tN (Pnx L)) := by rw [pk_cpy_in (Nat.zero_le _) (by omega), Nat.zero_add, Nat.sub_zero]
    have k2 : va_cpy (Plg L) (Plg M) 0 0 6 (tN (Pnx L)) = Plg L (tN (Pnx L)) := by rw [pk_cpy_in (Nat.zero_le _) (by omega), Nat.zero_add, Nat.sub_zero]
    unfold F_X2_postsBy
    show let1 (F_X2_isDone L) (fun z_1 => if z_1 = true then (-1) else (if (F_X5_hitWorth (Pbo L) (nI h) ((Pbl L) + (nI 1))) = 0 then (-1) else F_X5_postsRun (va_cpy (Pkd L) (Pkd M) 0 0 6 (tN (Pnx L))) (va_cpy (Plg L) (Plg M) 0 0 6 (tN (Pnx L))) (F_X5_hitWorth (Pbo L) (nI h) ((Pbl L) + (nI 1))))) = _
    rw [k1, k2]
  unfold wyC
  rw [e]
theorem copy_on (L M : pS) (h6 : tN (Psz L) ≤ 6) : onP (F_X2_copy M L) = onP L := by
  unfold onP F_X2_copy
  refine sumN_cong (tN (Psz L)) (fun i hi => ?_)
  show bO (va_cpy (Pwh L) (Pwh M) 0 0 6 i) = bO (Pwh L i)
  rw [pk_cpy_in (Nat.zero_le _) (by omega), Nat.zero_add, Nat.sub_zero]
def svC (f : Nat → Nat) (n : Nat) (w : Nat → Int32) (L : pS) (gain v : Nat) : Nat := sumN (fun h => if wyC L h = v then TR f n (btR w h).2 (gain + tN (btR w h).1) else 0) 10
theorem svC_0 {f : Nat → Nat} {n : Nat} {w : Nat → Int32} {L : pS} {gain v : Nat} (h : cnC L v = 0) : svC f n w L gain v = 0 := by
  unfold svC
  rw [sumN_cong 10 (G := fun _ => 0) (fun i hi => ?_), sumN_const, Nat.mul_zero]
  have z : (if wyC L i = v then 1 else 0) = 0 := sumN_zero (F := fun h => if wyC L h = v then 1 else 0) h i hi
  by_cases c : wyC L i = v
  · rw [if_pos c] at z; cases z
  · rw [if_neg c]
theorem stepV {w : Nat → Int32} {L : pS} (M : pS) {b v n gain : Nat} (f : Nat → Nat) (hR : relP 592 w L) (hw : wfP L) (hb : inB (Pbl L) b) (hl : b + n + 1 < 20000) (d : ¬ Pnx L = -1) (hc : 0 < cnC L v) : ∃ (k : Nat) (w2 : Nat → Int32), k ≤ 14 ∧ (F_X2_runBall (F_X2_copy M L) (nI v - nI 1)).1 = nI k ∧ relP 592 w2 (F_X2_runBall (F_X2_copy M L) (nI v - nI 1)).2 ∧ wfP (F_X2_runBall (F_X2_copy M L) (nI v - nI 1)).2 ∧ inB (Pbl (F_X2_runBall (F_X2_copy M L) (nI v - nI 1)).2) (b + 1) ∧ k + onP (F_X2_runBall (F_X2_copy M L) (nI v - nI 1)).2 ≤ onP L + 2 ∧ svC f n w L gain v = cnC L v * TR f n w2 (gain + k) := by
  obtain ⟨hR', hw'⟩ := copy_rel M hR hw
  have hb' : inB (Pbl (F_X2_copy M L)) b := hb
  have d' : ¬ Pnx (F_X2_copy M L) = -1 := d
  have key : ∀ h, h < 10 → wyC L h = v → F_X2_ball (F_X2_copy M L) (nI h) = F_X2_runBall (F_X2_copy M L) (nI v - nI 1) := fun h hh e => by
    rw [(ball_wy hw' hb' (by omega) d' hh).1, copy_wy M hw d, e]
  obtain ⟨h0, hh0, p0⟩ := sumN_pos hc
  have e0 : wyC L h0 = v := by
    by_cases c : wyC L h0 = v
    · exact c
    · rw [if_neg c] at p0; exact absurd p0 (Nat.lt_irrefl _)
  obtain ⟨k, w2, k1, -, k3, k4, k5, k6, k7, -⟩ := batsTried_c hR' hw' hb' (by omega) d' hh0
  rw [key h0 hh0 e0] at k4 k5 k6 k7
  obtain ⟨q0, qm, -⟩ := wf_next hw d
  refine ⟨k, w2, k1, k4, k5, k6, k7, ?_, ?_⟩
  · have := runBall_on (P := F_X2_copy M L) (n := nI v - nI 1) (k := k) (by omega) hw.1.2 qm k4
    rw [copy_on L M hw.1.2] at this
    exact this
  · unfold svC cnC
    rw [Nat.mul_comm, ← sumN_mul]
    refine sumN_cong 10 (fun h hh => ?_)
    by_cases c : wyC L h = v
    · rw [if_pos c, if_pos c, Nat.mul_one]
      obtain ⟨k', w2', k1', -, k3', k4', k5', -, -, -⟩ := batsTried_c hR' hw' hb' (by omega) d' hh
      rw [key h hh c] at k4' k5'
      show TR f n (F_X6_batsTried w (nI h)).2 (gain + tN (F_X6_batsTried w (nI h)).1) = _
      rw [k3']
      have e : k' = k := (nI_eq (by omega) (by omega)).mp (by rw [← k4', ← k4])
      simp only
      rw [tN_nI (by omega), e]
      exact TR_cong k5' k5 k6 k7 (by omega)
    · rw [if_neg c, if_neg c, Nat.mul_zero]
theorem TR_sv {f : Nat → Nat} {n b gain : Nat} {w : Nat → Int32} {L : pS} (hw : wfP L) (hb : inB (Pbl L) b) (hb2 : b < 20000) (d : ¬ Pnx L = -1) : TR f (n + 1) w gain = sumN (fun i => svC f n w L gain (0 + i)) 6 := by
  rw [TR_step]
  have e : sumN (fun i => svC f n w L gain (0 + i)) 6 = sumN (fun v => sumN (fun h => if wyC L h = v then TR f n (btR w h).2 (gain + tN (btR w h).1) else 0) 10) 6 := sumN_cong 6 (fun i _ => by rw [Nat.zero_add]; rfl)
  rw [e, sumN_swap]
  refine sumN_cong 10 (fun h hh => ?_)
  have y := (ball_wy hw hb hb2 d hh).2
  rw [sumN_pick, if_pos (by omega)]
/-! the cases -/
def okC (f : Nat → Nat) (cs : Nat → Int32) (F : Nat) : Prop := ∃ c : Nat → Nat, (∀ g, g < 21 → cs g = nI (c g)) ∧ sumN (fun g => f g * c g) 21 = F
theorem leafC {f : Nat → Nat} {cs : Nat → Int32} {F gain W m : Nat} (h : okC f cs F) (hg : gain ≤ 20) : okC f (upd cs gain (cs gain + nI W * nI m)) (F + W * (m * f gain)) := by
  obtain ⟨c, h1, h2⟩ := h
  refine ⟨updN c gain (W * m), fun g hq => ?_, ?_⟩
  · unfold updN
    by_cases z : g = gain
    · rw [if_pos z, z, pk_us, h1 gain (by omega), pk_mul, nI_add]
    · rw [if_neg z, pk_un z]; exact h1 g hq
  · rw [sumN_updN f c gain (W * m) 21 (by omega), h2, Nat.mul_assoc]
theorem leafQ {f : Nat → Nat} {cs cs' : Nat → Int32} {F gain W m : Nat} (h : okC f cs F) (hg : gain ≤ 20) (e : cs' = if nI gain < nI 20 then upd cs gain (cs gain + nI W * nI m) else upd cs 20 (cs 20 + nI W * nI m)) : okC f cs' (F + W * (m * f gain)) := by
  rw [e]
  by_cases c : gain < 20
  · rw [if_pos ((nI_ltI (by omega) (by decide)).mpr c)]; exact leafC h hg
  · rw [if_neg (fun z => c ((nI_ltI (by omega) (by decide)).mp z))]
    have g20 : gain = 20 := by omega
    subst g20
    exact leafC h hg
theorem SL_0 {f : Nat → Nat} {w : Nat → Int32} {cs : Nat → Int32} {gain W F : Nat} (ho : gain ≤ 20) (h : okC f cs F) : okC f (F_X0_spreadLevel_v0 cs gain (nI W)) (F + W * TR f 0 w gain) := by
  have L := leafQ (cs' := F_X0_spreadLevel_v0 cs gain (nI W)) (m := 1) (W := W) h ho (by
    unfold F_X0_spreadLevel_v0
    rw [if_pos (by decide)])
  rw [TR_0]
  rw [Nat.one_mul] at L
  exact L
theorem LL_1 {f : Nat → Nat} {w Wn : Nat → Int32} {L : pS} {b gain W : Nat} (hR : relP 592 w L) (hw : wfP L) (hb : inB (Pbl L) b) (hl : b + 1 < 19999) (d : ¬ Pnx L = -1) (ho : gain + onP L + 2 ≤ 20) (hW : ∀ v, v < 6 → Wn v = nI (cnC L v)) : ∀ (a fu v : Nat) (M0 : pS) (cs : Nat → Int32) (F : Nat), v + a = 6 → a < fu → okC f cs F → okC f (F_X0_spreadLevel_v1_L80 fu gain (nI W) L Wn v M0 cs).2.2 (F + W * sumN (fun i => svC f 0 w L gain (v + i)) a)
  | 0, 0, _, _, _, _, _, h, _ => by omega
  | 0, fu + 1, v, M0, cs, F, e, _, h => by
    rw [F_X0_spreadLevel_v1_L80, if_pos (by omega)]
    exact h
  | a + 1, 0, _, _, _, _, _, h, _ => by omega
  | a + 1, fu + 1, v, M0, cs, F, e, hf, h => by
    have sh : sumN (fun i => svC f 0 w L gain (v + i)) (a + 1) = svC f 0 w L gain v + sumN (fun i => svC f 0 w L gain (v + 1 + i)) a := by
      rw [sumN_head]
      exact congrArg (svC f 0 w L gain v + ·) (sumN_cong a (fun i _ => by rw [show v + (i + 1) = v + 1 + i by omega]))
    rw [sh, F_X0_spreadLevel_v1_L80, if_neg (by omega), hW v (by omega)]
    have cl : cnC L v ≤ 10 * 1 := sumN_le 10 (fun i _ => by split <;> omega)
    by_cases c : cnC L v = 0
    · rw [if_pos (by rw [c]; decide), svC_0 c, Nat.zero_add]
      exact LL_1 hR hw hb hl d ho hW a fu (v + 1) M0 cs F (by omega) (by omega) h
    · rw [if_neg (nI_nle (by omega) (by omega))]
      obtain ⟨k, w2, k1, k4, k5, k6, k7, k8, k9⟩ := stepV M0 (n := 0) (gain := gain) f hR hw hb (by omega) d (v := v) (by omega)
      simp only [let1, let2]
      rw [k9, k4, tN_nI (by omega), pk_mul, Nat.mul_add, ← Nat.add_assoc, ← Nat.mul_assoc]
      exact LL_1 hR hw hb hl d ho hW a fu (v + 1) _ _ _ (by omega) (by omega) (SL_0 (W := W * cnC L v) (w := w2) (gain := gain + k) (by omega) h)
theorem SL_1 {f : Nat → Nat} {w : Nat → Int32} (L0 L : pS) (W1 : Nat → Int32) {cs : Nat → Int32} {b gain W F : Nat} (hR : relP 592 w L) (hw : wfP L) (hb : inB (Pbl L) b) (hl : b + 1 < 19999) (ho : gain + onP L + 2 ≤ 20) (h : okC f cs F) : okC f (F_X0_spreadLevel_v1 L0 L W1 cs gain (nI W)).2.2 (F + W * TR f 1 w gain) := by
  unfold F_X0_spreadLevel_v1
  simp only [let1, let3]
  rw [if_pos (by decide), isDone_c hw]
  by_cases d : Pnx L = -1
  · rw [decide_eq_true d, if_pos rfl, TR_done (by rw [← d]; exact hR.2.2.1)]
    refine leafQ (m := 10) h (by omega) ?_
    by_cases c : nI gain < nI 20
    · rw [if_pos c, if_pos c]
    · rw [if_neg c, if_neg c]
  · rw [decide_eq_false d, if_neg (by decide), TR_sv (n := 0) hw hb (by omega) d]
    exact LL_1 hR hw hb hl d ho (fun v hv => fillWays_at hw hb (by omega) d W1 v hv) 6 7 0 L0  cs F rfl (by decide) h
theorem LL_2 {f : Nat → Nat} {w Wn : Nat → Int32} {L : pS} {b gain W : Nat} (hR : relP 592 w L) (hw : wfP L) (hb : inB (Pbl L) b) (hl : b + 2 < 19999) (d : ¬ Pnx L = -1) (ho : gain + onP L + 4 ≤ 20) (hW : ∀ v, v < 6 → Wn v = nI (cnC L v)) : ∀ (a fu v : Nat) (M0 M1 : pS) (V1 : Nat → Int32) (cs : Nat → Int32) (F : Nat), v + a = 6 → a < fu → okC f cs F → okC f (F_X0_spreadLevel_v2_L80 fu gain (nI W) L Wn v M0 M1 V1 cs).2.2.2.2 (F + W * sumN (fun i => svC f 1 w L gain (v + i)) a)
  | 0, 0, _, _, _, _, _, _, _, h, _ => by omega
  | 0, fu + 1, v, M0, M1, V1, cs, F, e, _, h => by
    rw [F_X0_spreadLevel_v2_L80, if_pos (by omega)]
    exact h
  | a + 1, 0, _, _, _, _, _, _, _, h, _ => by omega
  | a + 1, fu + 1, v, M0, M1, V1, cs, F, e, hf, h => by
    have sh : sumN (fun i => svC f 1 w L gain (v + i)) (a + 1) = svC f 1 w L gain v + sumN (fun i => svC f 1 w L gain (v + 1 + i)) a := by
      rw [sumN_head]
      exact congrArg (svC f 1 w L gain v + ·) (sumN_cong a (fun i _ => by rw [show v + (i + 1) = v + 1 + i by omega]))
    rw [sh, F_X0_spreadLevel_v2_L80, if_neg (by omega), hW v (by omega)]
    have cl : cnC L v ≤ 10 * 1 := sumN_le 10 (fun i _ => by split <;> omega)
    by_cases c : cnC L v = 0
    · rw [if_pos (by rw [c]; decide), svC_0 c, Nat.zero_add]
      exact LL_2 hR hw hb hl d ho hW a fu (v + 1) M0 M1 V1 cs F (by omega) (by omega) h
    · rw [if_neg (nI_nle (by omega) (by omega))]
      obtain ⟨k, w2, k1, k4, k5, k6, k7, k8, k9⟩ := stepV M1 (n := 1) (gain := gain) f hR hw hb (by omega) d (v := v) (by omega)
      simp only [let1, let2, let3]
      rw [k9, k4, tN_nI (by omega), pk_mul, Nat.mul_add, ← Nat.add_assoc, ← Nat.mul_assoc]
      exact LL_2 hR hw hb hl d ho hW a fu (v + 1) _ _ _ _ _ (by omega) (by omega) (SL_1 M0 _ V1 (W := W * cnC L v) (gain := gain + k) k5 k6 k7 (by omega) (by omega) h)
theorem SL_2 {f : Nat → Nat} {w : Nat → Int32} (L0 L1 L : pS) (W1 W2 : Nat → Int32) {cs : Nat → Int32} {b gain W F : Nat} (hR : relP 592 w L) (hw : wfP L) (hb : inB (Pbl L) b) (hl : b + 2 < 19999) (ho : gain + onP L + 4 ≤ 20) (h : okC f cs F) : okC f (F_X0_spreadLevel_v2 L0 L1 L W1 W2 cs gain (nI W)).2.2.2.2 (F + W * TR f 2 w gain) := by
  unfold F_X0_spreadLevel_v2
  simp only [let1, let5]
  rw [if_pos (by decide), isDone_c hw]
  by_cases d : Pnx L = -1
  · rw [decide_eq_true d, if_pos rfl, TR_done (by rw [← d]; exact hR.2.2.1)]
    refine leafQ (m := 100) h (by omega) ?_
    by_cases c : nI gain < nI 20
    · rw [if_pos c, if_pos c]
    · rw [if_neg c, if_neg c]
  · rw [decide_eq_false d, if_neg (by decide), TR_sv (n := 1) hw hb (by omega) d]
    exact LL_2 hR hw hb hl d ho (fun v hv => fillWays_at hw hb (by omega) d W2 v hv) 6 7 0 L0 L1 W1 cs F rfl (by decide) h
theorem LL_3 {f : Nat → Nat} {w Wn : Nat → Int32} {L : pS} {b gain W : Nat} (hR : relP 592 w L) (hw : wfP L) (hb : inB (Pbl L) b) (hl : b + 3 < 19999) (d : ¬ Pnx L = -1) (ho : gain + onP L + 6 ≤ 20) (hW : ∀ v, v < 6 → Wn v = nI (cnC L v)) : ∀ (a fu v : Nat) (M0 M1 M2 : pS) (V1 V2 : Nat → Int32) (cs : Nat → Int32) (F : Nat), v + a = 6 → a < fu → okC f cs F → okC f (F_X0_spreadLevel_v3_L80 fu gain (nI W) L Wn v M0 M1 M2 V1 V2 cs).2.2.2.2.2.2 (F + W * sumN (fun i => svC f 2 w L gain (v + i)) a)
  | 0, 0, _, _, _, _, _, _, _, _, _, h, _ => by omega
  | 0, fu + 1, v, M0, M1, M2, V1, V2, cs, F, e, _, h => by
    rw [F_X0_spreadLevel_v3_L80, if_pos (by omega)]
    exact h
  | a + 1, 0, _, _, _, _, _, _, _, _, _, h, _ => by omega
  | a + 1, fu + 1, v, M0, M1, M2, V1, V2, cs, F, e, hf, h => by
    have sh : sumN (fun i => svC f 2 w L gain (v + i)) (a + 1) = svC f 2 w L gain v + sumN (fun i => svC f 2 w L gain (v + 1 + i)) a := by
      rw [sumN_head]
      exact congrArg (svC f 2 w L gain v + ·) (sumN_cong a (fun i _ => by rw [show v + (i + 1) = v + 1 + i by omega]))
    rw [sh, F_X0_spreadLevel_v3_L80, if_neg (by omega), hW v (by omega)]
    have cl : cnC L v ≤ 10 * 1 := sumN_le 10 (fun i _ => by split <;> omega)
    by_cases c : cnC L v = 0
    · rw [if_pos (by rw [c]; decide), svC_0 c, Nat.zero_add]
      exact LL_3 hR hw hb hl d ho hW a fu (v + 1) M0 M1 M2 V1 V2 cs F (by omega) (by omega) h
    · rw [if_neg (nI_nle (by omega) (by omega))]
      obtain ⟨k, w2, k1, k4, k5, k6, k7, k8, k9⟩ := stepV M2 (n := 2) (gain := gain) f hR hw hb (by omega) d (v := v) (by omega)
      simp only [let1, let2, let5]
      rw [k9, k4, tN_nI (by omega), pk_mul, Nat.mul_add, ← Nat.add_assoc, ← Nat.mul_assoc]
      exact LL_3 hR hw hb hl d ho hW a fu (v + 1) _ _ _ _ _ _ _ (by omega) (by omega) (SL_2 M0 M1 _ V1 V2 (W := W * cnC L v) (gain := gain + k) k5 k6 k7 (by omega) (by omega) h)
theorem SL_3 {f : Nat → Nat} {w : Nat → Int32} (L0 L1 L2 L : pS) (W1 W2 W3 : Nat → Int32) {cs : Nat → Int32} {b gain W F : Nat} (hR : relP 592 w L) (hw : wfP L) (hb : inB (Pbl L) b) (hl : b + 3 < 19999) (ho : gain + onP L + 6 ≤ 20) (h : okC f cs F) : okC f (F_X0_spreadLevel_v3 L0 L1 L2 L W1 W2 W3 cs gain (nI W)).2.2.2.2.2.2 (F + W * TR f 3 w gain) := by
  unfold F_X0_spreadLevel_v3
  simp only [let1, let7]
  rw [if_pos (by decide), isDone_c hw]
  by_cases d : Pnx L = -1
  · rw [decide_eq_true d, if_pos rfl, TR_done (by rw [← d]; exact hR.2.2.1)]
    refine leafQ (m := 1000) h (by omega) ?_
    by_cases c : nI gain < nI 20
    · rw [if_pos c, if_pos c]
    · rw [if_neg c, if_neg c]
  · rw [decide_eq_false d, if_neg (by decide), TR_sv (n := 2) hw hb (by omega) d]
    exact LL_3 hR hw hb hl d ho (fun v hv => fillWays_at hw hb (by omega) d W3 v hv) 6 7 0 L0 L1 L2 W1 W2 cs F rfl (by decide) h
theorem LL_4 {f : Nat → Nat} {w Wn : Nat → Int32} {L : pS} {b gain W : Nat} (hR : relP 592 w L) (hw : wfP L) (hb : inB (Pbl L) b) (hl : b + 4 < 19999) (d : ¬ Pnx L = -1) (ho : gain + onP L + 8 ≤ 20) (hW : ∀ v, v < 6 → Wn v = nI (cnC L v)) : ∀ (a fu v : Nat) (M0 M1 M2 M3 : pS) (V1 V2 V3 : Nat → Int32) (cs : Nat → Int32) (F : Nat), v + a = 6 → a < fu → okC f cs F → okC f (F_X0_spreadLevel_v4_L80 fu gain (nI W) L Wn v M0 M1 M2 M3 V1 V2 V3 cs).2.2.2.2.2.2.2.2 (F + W * sumN (fun i => svC f 3 w L gain (v + i)) a)
  | 0, 0, _, _, _, _, _, _, _, _, _, _, _, h, _ => by omega
  | 0, fu + 1, v, M0, M1, M2, M3, V1, V2, V3, cs, F, e, _, h => by
    rw [F_X0_spreadLevel_v4_L80, if_pos (by omega)]
    exact h
  | a + 1, 0, _, _, _, _, _, _, _, _, _, _, _, h, _ => by omega
  | a + 1, fu + 1, v, M0, M1, M2, M3, V1, V2, V3, cs, F, e, hf, h => by
    have sh : sumN (fun i => svC f 3 w L gain (v + i)) (a + 1) = svC f 3 w L gain v + sumN (fun i => svC f 3 w L gain (v + 1 + i)) a := by
      rw [sumN_head]
      exact congrArg (svC f 3 w L gain v + ·) (sumN_cong a (fun i _ => by rw [show v + (i + 1) = v + 1 + i by omega]))
    rw [sh, F_X0_spreadLevel_v4_L80, if_neg (by omega), hW v (by omega)]
    have cl : cnC L v ≤ 10 * 1 := sumN_le 10 (fun i _ => by split <;> omega)
    by_cases c : cnC L v = 0
    · rw [if_pos (by rw [c]; decide), svC_0 c, Nat.zero_add]
      exact LL_4 hR hw hb hl d ho hW a fu (v + 1) M0 M1 M2 M3 V1 V2 V3 cs F (by omega) (by omega) h
    · rw [if_neg (nI_nle (by omega) (by omega))]
      obtain ⟨k, w2, k1, k4, k5, k6, k7, k8, k9⟩ := stepV M3 (n := 3) (gain := gain) f hR hw hb (by omega) d (v := v) (by omega)
      simp only [let1, let2, let7]
      rw [k9, k4, tN_nI (by omega), pk_mul, Nat.mul_add, ← Nat.add_assoc, ← Nat.mul_assoc]
      exact LL_4 hR hw hb hl d ho hW a fu (v + 1) _ _ _ _ _ _ _ _ _ (by omega) (by omega) (SL_3 M0 M1 M2 _ V1 V2 V3 (W := W * cnC L v) (gain := gain + k) k5 k6 k7 (by omega) (by omega) h)
theorem SL_4 {f : Nat → Nat} {w : Nat → Int32} (L0 L1 L2 L3 L : pS) (W1 W2 W3 W4 : Nat → Int32) {cs : Nat → Int32} {b gain W F : Nat} (hR : relP 592 w L) (hw : wfP L) (hb : inB (Pbl L) b) (hl : b + 4 < 19999) (ho : gain + onP L + 8 ≤ 20) (h : okC f cs F) : okC f (F_X0_spreadLevel_v4 L0 L1 L2 L3 L W1 W2 W3 W4 cs gain (nI W)).2.2.2.2.2.2.2.2 (F + W * TR f 4 w gain) := by
  unfold F_X0_spreadLevel_v4
  simp only [let1, let9]
  rw [if_pos (by decide), isDone_c hw]
  by_cases d : Pnx L = -1
  · rw [decide_eq_true d, if_pos rfl, TR_done (by rw [← d]; exact hR.2.2.1)]
    refine leafQ (m := 10000) h (by omega) ?_
    by_cases c : nI gain < nI 20
    · rw [if_pos c, if_pos c]
    · rw [if_neg c, if_neg c]
  · rw [decide_eq_false d, if_neg (by decide), TR_sv (n := 3) hw hb (by omega) d]
    have hv := fun v hv => fillWays_at hw hb (by omega) d W4 v hv
    generalize F_X0_fillWays L W4 = Wn at hv ⊢
    have r := LL_4 (W := W) hR hw hb hl d ho hv 6 7 0 L0 L1 L2 L3 W1 W2 W3 cs F rfl (by decide) h
    generalize F_X0_spreadLevel_v4_L80 7 gain (nI W) L Wn 0 L0 L1 L2 L3 W1 W2 W3 cs = R at r ⊢
    exact r
