/-! a ball: the class's is the reference's -/
def relP (r : Nat) (w : Nat → Int32) (P : pS) : Prop := w r = Psz P ∧ w (r + 1) = Pbo P ∧ w (r + 2) = Pnx P ∧ w (r + 4) = Pbl P ∧ ∀ i, i < tN (Psz P) → w (r + i + 5) = Pkd P i ∧ w (r + i + 11) = Plg P i ∧ w (r + i + 17) = Pwh P i
def wfN (P : pS) : Prop := Pnx P = -1 ∨ (0 ≤ Pnx P ∧ tN (Pnx P) < tN (Psz P) ∧ Pwh P (tN (Pnx P)) = 0)
def wfP (P : pS) : Prop := inB (Psz P) 6 ∧ inB (Pbo P) 5 ∧ wfN P ∧ ∀ i, i < tN (Psz P) → inB (Pkd P i) 5 ∧ (inB (Plg P i) 5 ∧ 1 ≤ tN (Plg P i)) ∧ inB (Pwh P i) 4
theorem wfN_ok {P : pS} (h : wfP P) : okN (Pnx P) := by
  rcases h.2.2.1 with q | q
  · exact Or.inl q
  · exact Or.inr ⟨q.1, by have := h.1.2; omega⟩
theorem isDone_c {P : pS} (h : wfP P) : F_X2_isDone P = decide (Pnx P = -1) := by
  unfold F_X2_isDone
  rcases h.2.2.1 with q | q
  · rw [if_pos (by rw [q]; decide), decide_eq_true q]
  · have e := tN_eq q.1
    have s := tN_eq h.1.1
    have n1 : ¬ Pnx P < 0 := by rw [e]; exact nI_pos (tN_lt _)
    have n2 : ¬ Pnx P = -1 := fun z => n1 (by rw [z]; decide)
    rw [if_neg n1, if_pos (by rw [e, s]; exact (nI_ltI (tN_lt _) (tN_lt _)).mpr q.2.1), decide_eq_false n2]
theorem isDone_r (w : Nat → Int32) (r : Nat) : F_X6_isDone w r = decide (w (r + 2) = -1) := by
  unfold F_X6_isDone
  by_cases c : w (r + 2) = -1
  · rw [if_pos c, decide_eq_true c]
  · rw [if_neg c, decide_eq_false c]
def jR (R n m q k mo gn : Nat) (wr wc : Nat → Int32) : Prop := (∀ i, i < n → i ≠ m → wr (R + i + 17) = wc i) ∧ wr (R + m + 17) = (if m < k then (if q < 4 then nI q else nI 0) else nI 0) ∧ wc m = 0 ∧ mo = gn + (if m < k ∧ 4 ≤ q then 2 else 0) ∧ ∀ i, i < n → inB (wc i) 4
theorem L_jR (R : Nat) (w : Nat → Int32) (P : pS) (n m q : Nat) (hq : q ≤ 6) (hn : tN (w R) = n) (hn2 : tN (Psz P) = n) (hm : tN (w (R + 2)) = m) (hlt : m < n) : ∀ (f k mo gn : Nat) (wr wc : Nat → Int32), jR R n m q k mo gn wr wc → k ≤ n → n - k < f →
    jR R n m q n (F_X6_bats_L63 f R w (nI q) k mo wr).2.1 (F_X2_runAll_L4 f (nI q) P k gn wc).2.1 (F_X6_bats_L63 f R w (nI q) k mo wr).2.2 (F_X2_runAll_L4 f (nI q) P k gn wc).2.2
  | 0, _, _, _, _, _, _, _, h => by omega
  | f + 1, k, mo, gn, wr, wc, hJ, hk, hf => by
    rw [F_X6_bats_L63, F_X2_runAll_L4, hn, hn2, hm]
    by_cases c : n ≤ k
    · rw [if_pos c, if_pos c]
      rw [show k = n by omega] at hJ
      exact hJ
    · rw [if_neg c, if_neg c]
      obtain ⟨j1, j2, j3, j4, j5⟩ := hJ
      by_cases d : k = m
      · subst d
        rw [if_neg (Nat.lt_irrefl k)] at j2
        rw [if_neg (fun z => Nat.lt_irrefl k z.1)] at j4
        have cw : ¬ F_X5_within (wc k) (nI 1) (nI 3) = true := by rw [j3]; decide
        rw [if_pos rfl, if_neg cw, j2, nI_add, Nat.zero_add]
        by_cases g : q < 4
        · rw [if_pos ((nI_leI (by omega) (by decide)).mpr (by omega))]
          refine L_jR R w P n k q hq hn hn2 hm hlt f (k + 1) mo gn _ wc ⟨fun i hi hne => ?_, ?_, j3, ?_, j5⟩ (by omega) (by omega)
          · rw [pk_un (by omega)]; exact j1 i hi hne
          · rw [pk_us, if_pos (by omega), if_pos g]
          · rw [if_neg (fun z => absurd z.2 (by omega)), j4]
        · rw [if_neg (fun z => g (by have := (nI_leI (a := q) (b := 3) (by omega) (by decide)).mp z; omega))]
          refine L_jR R w P n k q hq hn hn2 hm hlt f (k + 1) (mo + 2) gn _ wc ⟨fun i hi hne => ?_, ?_, j3, ?_, j5⟩ (by omega) (by omega)
          · rw [pk_un (by omega)]; exact j1 i hi hne
          · rw [pk_us, if_pos (by omega), if_neg g]
          · rw [if_pos ⟨by omega, by omega⟩, j4]
      · have e : wr (R + k + 17) = wc k := j1 k (by omega) d
        have st : ∀ {x : Nat}, (if m < k + 1 then x else 0) = (if m < k then x else 0) := by
          intro x
          by_cases z : m < k
          · rw [if_pos z, if_pos (by omega)]
          · rw [if_neg z, if_neg (by omega)]
        have s2 : ∀ (y : Int32), (if m < k + 1 then y else nI 0) = (if m < k then y else nI 0) := by
          intro y
          by_cases z : m < k
          · rw [if_pos z, if_pos (by omega)]
          · rw [if_neg z, if_neg (by omega)]
        have s4 : (if m < k + 1 ∧ 4 ≤ q then 2 else 0) = (if m < k ∧ 4 ≤ q then 2 else 0) := by
          by_cases z : m < k ∧ 4 ≤ q
          · rw [if_pos z, if_pos ⟨by omega, z.2⟩]
          · rw [if_neg z, if_neg (fun y => z ⟨by omega, y.2⟩)]
        rw [if_neg d, e, iw (a := 1) (b := 3) (wc k) (lo := nI 1) (hi := nI 3) (by decide) (by decide)]
        by_cases a : F_X5_within (wc k) (nI 1) (nI 3) = true
        · rw [if_pos a, if_pos a]
          obtain ⟨a1, a2, a3⟩ := within_nat (by decide) (by decide) a
          have ae := tN_eq a1
          by_cases g : (wc k) + (nI q) < nI 4
          · rw [if_pos ((le3_lt4 _).mpr g), if_pos g]
            refine L_jR R w P n m q hq hn hn2 hm hlt f (k + 1) mo gn _ _ ⟨fun i hi hne => ?_, ?_, ?_, ?_, fun i hi => ?_⟩ (by omega) (by omega)
            · by_cases z : i = k
              · subst z; rw [pk_us, pk_us]
              · rw [pk_un (by omega), pk_un z]; exact j1 i hi hne
            · rw [pk_un (by omega), s2]; exact j2
            · rw [pk_un (by omega)]; exact j3
            · rw [s4]; exact j4
            · by_cases z : i = k
              · subst z; rw [pk_us]
                rw [ae, nI_add] at g ⊢
                have := (nI_ltI (by omega) (by decide)).mp g
                exact inB_nI (by omega) (by decide)
              · rw [pk_un z]; exact j5 i hi
          · rw [if_neg (fun z => g ((le3_lt4 _).mp z)), if_neg g]
            refine L_jR R w P n m q hq hn hn2 hm hlt f (k + 1) (mo + 1) (gn + 1) _ _ ⟨fun i hi hne => ?_, ?_, ?_, ?_, fun i hi => ?_⟩ (by omega) (by omega)
            · by_cases z : i = k
              · subst z; rw [pk_us, pk_us]
              · rw [pk_un (by omega), pk_un z, pk_un z]; exact j1 i hi hne
            · rw [pk_un (by omega), s2]; exact j2
            · rw [pk_un (by omega), pk_un (by omega)]; exact j3
            · rw [s4, j4]; omega
            · by_cases z : i = k
              · subst z; rw [pk_us]; exact inB_nI (by decide) (by decide)
              · rw [pk_un z, pk_un z]; exact j5 i hi
        · rw [if_neg a, if_neg a]
          refine L_jR R w P n m q hq hn hn2 hm hlt f (k + 1) mo gn wr wc ⟨j1, by rw [s2]; exact j2, j3, by rw [s4]; exact j4, j5⟩ (by omega) (by omega)
theorem L_runP (P Q : pS) (h : tN (Psz P) = tN (Psz Q)) : ∀ (f k gn : Nat) (wc : Nat → Int32) {n : Int32}, F_X2_runAll_L4 f n P k gn wc = F_X2_runAll_L4 f n Q k gn wc
  | 0, _, _, _, _ => rfl
  | f + 1, k, gn, wc, n => by
    rw [F_X2_runAll_L4, F_X2_runAll_L4, h]
    split
    · rfl
    · split
      · split
        · exact L_runP P Q h f _ _ _
        · exact L_runP P Q h f _ _ _
      · exact L_runP P Q h f _ _ _
/-- nobody runs by a hit of no posts -/
theorem L_run0 (P : pS) : ∀ (f k gn : Nat) (wc : Nat → Int32), (F_X2_runAll_L4 f (nI 0) P k gn wc).2.1 = gn ∧ ∀ j, (F_X2_runAll_L4 f (nI 0) P k gn wc).2.2 j = wc j
  | 0, _, _, _ => ⟨rfl, fun _ => rfl⟩
  | f + 1, k, gn, wc => by
    rw [F_X2_runAll_L4]
    by_cases c : tN (Psz P) ≤ k
    · rw [if_pos c]; exact ⟨rfl, fun _ => rfl⟩
    · rw [if_neg c]
      by_cases a : F_X5_within (wc k) (nI 1) (nI 3) = true
      · rw [if_pos a]
        obtain ⟨a1, a2, a3⟩ := within_nat (by decide) (by decide) a
        have ae := tN_eq a1
        have e0 : wc k + nI 0 = wc k := by rw [ae, nI_add, Nat.add_zero]
        rw [e0, if_pos (by rw [ae]; exact (nI_ltI (by omega) (by decide)).mpr (by omega))]
        have h := L_run0 P f (k + 1) gn (upd wc k (wc k))
        refine ⟨h.1, fun j => ?_⟩
        rw [h.2 j]
        by_cases z : j = k
        · subst z; rw [pk_us]
        · rw [pk_un z]
      · rw [if_neg a]; exact L_run0 P f (k + 1) gn wc
theorem wf_next {P : pS} (h : wfP P) (hn : ¬ Pnx P = -1) : 0 ≤ Pnx P ∧ tN (Pnx P) < tN (Psz P) ∧ Pwh P (tN (Pnx P)) = 0 := h.2.2.1.resolve_left hn
/-- behind a ball: where the next one is looked for -/
theorem after_eq {r : Nat} {w1 : Nat → Int32} {P1 : pS} {m n : Nat} (hm : tN (w1 (r + 2)) = m) (hm2 : tN (Pnx P1) = m) (hn : tN (w1 r) = n) (hn2 : tN (Psz P1) = n) (hlt : m < n) (h6 : n ≤ 6) (hw : ∀ i, i < n → w1 (r + i + 17) = Pwh P1 i) :
    F_X6_nextOf w1 r = upd w1 (r + 2) (oN (scn (Pwh P1) n n m) (-1)) ∧ F_X2_passBat P1 = (Pbo P1, Psz P1, Pkd P1, Plg P1, Pwh P1, oN (scn (Pwh P1) n n m) (-1), Ppt P1, Pbl P1) :=
  ⟨nextOf_eq w1 r m n hm hn (by omega) h6 _ hw, passBat_eq P1 m n hm2 hn2 hlt h6⟩
theorem wfN_scn {n m : Nat} {x1 x2 : Int32} {f1 f2 f3 : Nat → Int32} {x3 x4 : Int32} (hn : tN x2 = n) (h0 : 0 < n) (h6 : n ≤ 6) : wfN (x1, x2, f1, f2, f3, oN (scn f3 n n m) (-1), x3, x4) := by
  cases hs : scn f3 n n m with
  | none => exact Or.inl rfl
  | some j =>
    have h := scn_in f3 h0 n m j hs
    have ht : tN (nI j) = j := tN_nI (by omega)
    refine Or.inr ⟨nI_pos' (by omega), ?_, ?_⟩
    · show tN (nI j) < tN x2
      rw [ht, hn]; exact h.1
    · show f3 (tN (nI j)) = 0
      rw [ht]; exact h.2
theorem hw_eq2 {P : pS} {w : Nat → Int32} {r b : Nat} (hR : relP r w P) (hb : inB (Pbl P) b) (hb2 : b < 20000) {h : Nat} (hh : h < 10) : F_X6_comesNow w r (nI h) = F_X5_hitWorth (Pbo P) (nI h) (Pbl P + nI 1) ∧ inB (F_X6_comesNow w r (nI h)) 13 := by
  unfold F_X6_comesNow
  have e := tN_eq hb.1
  have hb3 := hb.2
  rw [hR.2.1, hR.2.2.2.1, e, nI_add]
  exact ⟨hw_eq _ hh (by omega), ct_in _ hh (by omega)⟩
theorem nI_small {x : Int32} {n : Nat} (h : inB x n) : ∃ k, k ≤ n ∧ x = nI k := ⟨tN x, h.2, tN_eq h.1⟩
/-- a ball by which nobody is missing -/
theorem ball_eq {P : pS} {w : Nat → Int32} {r b : Nat} (hR : relP r w P) (hW : wfP P) (hb : inB (Pbl P) b) (hb2 : b < 20000) (hn : ¬ Pnx P = -1) {h : Nat} (hh : h < 10) :
    (F_X6_bats w r (nI h)).1 = (F_X2_ball P (nI h)).1 ∧ relP r (F_X6_bats w r (nI h)).2 (F_X2_ball P (nI h)).2 ∧ wfP (F_X2_ball P (nI h)).2 ∧ inB (Pbl (F_X2_ball P (nI h)).2) (b + 1) ∧ Ppt (F_X2_ball P (nI h)).2 = Ppt P + (F_X2_ball P (nI h)).1 := by
  obtain ⟨q0, qm, qw⟩ := wf_next hW hn
  obtain ⟨r0, r1, r2, r4, ri⟩ := hR
  have hsz := tN_eq hW.1.1
  have h6 := hW.1.2
  obtain ⟨n, hnn⟩ : ∃ n, n = tN (Psz P) := ⟨_, rfl⟩
  obtain ⟨m, hmm⟩ : ∃ m, m = tN (Pnx P) := ⟨_, rfl⟩
  rw [← hnn] at h6 qm hsz ri
  rw [← hmm] at qm qw
  have hC := hw_eq2 ⟨r0, r1, r2, r4, by rw [← hnn]; exact ri⟩ hb hb2 hh
  have hbe := tN_eq hb.1
  have hbl : inB (Pbl P + nI 1) (b + 1) := by rw [hbe, nI_add]; exact inB_nI (by have := hb.2; omega) (by omega)
  have d0 : F_X2_isDone P = false := by rw [isDone_c hW, decide_eq_false hn]
  obtain ⟨g, hg, ge⟩ := nI_small hC.2
  unfold F_X6_bats F_X2_ball F_X2_postsBy F_X2_runBall
  simp only [let1, let2, let3]
  rw [d0, ← hC.1, ge, r4]
  simp only [Bool.false_eq_true, if_false]
  have wq := hW.2.2.2
  rw [← hnn] at wq
  by_cases g0 : g = 0
  · -- out
    subst g0
    rw [if_pos (by decide : nI 0 = 0), if_pos (by decide : nI 0 = 0), if_neg (by decide : ¬ (0 : Int32) ≤ -1)]
    have e17 : r + tN (w (r + 2)) + 17 = r + m + 17 := by rw [r2, ← hmm]
    rw [e17]
    have hA := after_eq (r := r) (w1 := upd (upd w (r + 4) (Pbl P + nI 1)) (r + m + 17) (nI 4)) (P1 := (Pbo P, Psz P, Pkd P, Plg P, upd (Pwh P) (tN (Pnx P)) (nI 4), Pnx P, Ppt P + nI 0, Pbl P + nI 1)) (m := m) (n := n) (by rw [pk_un (by omega), pk_un (by omega), r2, hmm]) hmm.symm (by rw [pk_un (by omega), pk_un (by omega), r0, hnn]) hnn.symm qm h6 (fun i hi => by
      show upd (upd w (r + 4) _) (r + m + 17) _ (r + i + 17) = upd (Pwh P) (tN (Pnx P)) (nI 4) i
      rw [← hmm]
      by_cases z : i = m
      · subst z; rw [pk_us, pk_us]
      · rw [pk_un (by omega), pk_un (by omega), pk_un z]; exact (ri i hi).2.2)
    rw [hA.1, hA.2]
    refine ⟨rfl, ⟨?_, ?_, ?_, ?_, fun i hi => ?_⟩, ⟨hW.1, hW.2.1, wfN_scn hnn.symm (by omega) h6, fun i hi => ?_⟩, hbl, rfl⟩
    · show upd (upd (upd w (r + 4) (Pbl P + nI 1)) (r + m + 17) (nI 4)) (r + 2) _ r = Psz P
      rw [pk_un (by omega), pk_un (by omega), pk_un (by omega)]; exact r0
    · show upd (upd (upd w (r + 4) (Pbl P + nI 1)) (r + m + 17) (nI 4)) (r + 2) _ (r + 1) = Pbo P
      rw [pk_un (by omega), pk_un (by omega), pk_un (by omega)]; exact r1
    · exact pk_us
    · show upd (upd (upd w (r + 4) (Pbl P + nI 1)) (r + m + 17) (nI 4)) (r + 2) _ (r + 4) = Pbl P + nI 1
      rw [pk_un (by omega), pk_un (by omega), pk_us]
    · have hi' : i < n := by rw [hnn]; exact hi
      refine ⟨?_, ?_, ?_⟩
      · show upd (upd (upd w (r + 4) (Pbl P + nI 1)) (r + m + 17) (nI 4)) (r + 2) _ (r + i + 5) = Pkd P i
        rw [pk_un (by omega), pk_un (by omega), pk_un (by omega)]; exact (ri i hi').1
      · show upd (upd (upd w (r + 4) (Pbl P + nI 1)) (r + m + 17) (nI 4)) (r + 2) _ (r + i + 11) = Plg P i
        rw [pk_un (by omega), pk_un (by omega), pk_un (by omega)]; exact (ri i hi').2.1
      · show upd (upd (upd w (r + 4) _) (r + m + 17) _) (r + 2) _ (r + i + 17) = upd (Pwh P) (tN (Pnx P)) (nI 4) i
        rw [← hmm, pk_un (by omega)]
        by_cases z : i = m
        · subst z; rw [pk_us, pk_us]
        · rw [pk_un (by omega), pk_un (by omega), pk_un z]; exact (ri i hi').2.2
    · have hi' : i < n := by rw [hnn]; exact hi
      refine ⟨(wq i hi').1, (wq i hi').2.1, ?_⟩
      show inB (upd (Pwh P) (tN (Pnx P)) (nI 4) i) 4
      rw [← hmm]
      by_cases z : i = m
      · subst z; rw [pk_us]; exact inB_nI (by decide) (by decide)
      · rw [pk_un z]; exact (wq i hi').2.2
  · -- runs
    have gne : ¬ nI g = 0 := fun z => g0 ((qn_eq0 (by omega)).mp z)
    rw [if_neg gne, if_neg gne]
    have hnow : F_X6_runsNow (upd w (r + 4) (Pbl P + nI 1)) r (nI g) = F_X5_postsRun (Pkd P (tN (Pnx P))) (Plg P (tN (Pnx P))) (nI g) ∧ inB (F_X5_postsRun (Pkd P (tN (Pnx P))) (Plg P (tN (Pnx P))) (nI g)) 6 := by
      unfold F_X6_runsNow
      obtain ⟨kd, hkd, ke⟩ := nI_small (wq m qm).1
      obtain ⟨lg, hlg, le⟩ := nI_small (wq m qm).2.1.1
      have e2 : upd w (r + 4) (Pbl P + nI 1) (r + 2) = w (r + 2) := pk_un (by omega)
      rw [e2, r2, ← hmm, pk_un (by omega), pk_un (by omega), (ri m qm).1, (ri m qm).2.1, ke, le]
      exact ⟨pr_eq kd (by omega) lg (by omega) g (by omega), pr_in0 kd (by omega) lg (by omega) g (by omega)⟩
    rw [hnow.1]
    obtain ⟨q, hq, qe⟩ := nI_small hnow.2
    rw [qe, if_pos (nI_pos' (by omega))]
    have hJ := L_jR r w P n m q hq (by rw [r0, hnn]) hnn.symm (by rw [r2, hmm]) qm 7 0 0 0 (upd w (r + 4) (Pbl P + nI 1)) (Pwh P) ⟨fun i hi _ => by rw [pk_un (by omega)]; exact (ri i hi).2.2, by rw [if_neg (by omega), pk_un (by omega), (ri m qm).2.2, qw]; rfl, qw, by rw [if_neg (fun z => absurd z.1 (by omega))], fun i hi => (wq i hi).2.2⟩ (by omega) (by omega)
    have hB := L_bats r w (upd w (r + 4) (Pbl P + nI 1)) (nI q) (by rw [r0, ← hnn]; exact h6) 7 0 0 (upd w (r + 4) (Pbl P + nI 1)) (fun _ _ => rfl)
    generalize F_X6_bats_L63 7 r w (nI q) 0 0 (upd w (r + 4) (Pbl P + nI 1)) = Y at hJ hB
    obtain ⟨y1, mo, wr⟩ := Y
    have L0 := L_run0 P 7 0 0 (Pwh P)
    -- the class's row of places behind the run
    obtain ⟨P1, gn, hP1, hres⟩ : ∃ (P1 : pS) (gn : Nat), (Pbo P1 = Pbo P ∧ Psz P1 = Psz P ∧ Pkd P1 = Pkd P ∧ Plg P1 = Plg P ∧ Pnx P1 = Pnx P ∧ Ppt P1 = Ppt P + nI mo ∧ Pbl P1 = Pbl P + nI 1 ∧ (∀ i, i < n → wr (r + i + 17) = Pwh P1 i) ∧ (∀ i, i < n → inB (Pwh P1 i) 4)) ∧ gn = mo ∧
        (if nI q ≤ 0 then (nI 0, F_X2_passBat (Pbo P, Psz P, Pkd P, Plg P, Pwh P, Pnx P, Ppt P + nI 0, Pbl P + nI 1)) else ((F_X2_runAll (Pbo P, Psz P, Pkd P, Plg P, Pwh P, Pnx P, Ppt P, Pbl P + nI 1) (nI q)).1, F_X2_passBat (Pbo (F_X2_runAll (Pbo P, Psz P, Pkd P, Plg P, Pwh P, Pnx P, Ppt P, Pbl P + nI 1) (nI q)).2, Psz (F_X2_runAll (Pbo P, Psz P, Pkd P, Plg P, Pwh P, Pnx P, Ppt P, Pbl P + nI 1) (nI q)).2, Pkd (F_X2_runAll (Pbo P, Psz P, Pkd P, Plg P, Pwh P, Pnx P, Ppt P, Pbl P + nI 1) (nI q)).2, Plg (F_X2_runAll (Pbo P, Psz P, Pkd P, Plg P, Pwh P, Pnx P, Ppt P, Pbl P + nI 1) (nI q)).2, Pwh (F_X2_runAll (Pbo P, Psz P, Pkd P, Plg P, Pwh P, Pnx P, Ppt P, Pbl P + nI 1) (nI q)).2, Pnx (F_X2_runAll (Pbo P, Psz P, Pkd P, Plg P, Pwh P, Pnx P, Ppt P, Pbl P + nI 1) (nI q)).2, Ppt (F_X2_runAll (Pbo P, Psz P, Pkd P, Plg P, Pwh P, Pnx P, Ppt P, Pbl P + nI 1) (nI q)).2 + (F_X2_runAll (Pbo P, Psz P, Pkd P, Plg P, Pwh P, Pnx P, Ppt P, Pbl P + nI 1) (nI q)).1, Pbl (F_X2_runAll (Pbo P, Psz P, Pkd P, Plg P, Pwh P, Pnx P, Ppt P, Pbl P + nI 1) (nI q)).2))) = (nI mo, F_X2_passBat P1) := by
      obtain ⟨j1, j2, j3, j4, j5⟩ := hJ
      simp only at j1 j2 j3 j4 j5
      rw [if_pos qm] at j2
      by_cases q0' : q = 0
      · subst q0'
        rw [if_neg (fun z => absurd z.2 (by omega)), L0.1] at j4
        refine ⟨(Pbo P, Psz P, Pkd P, Plg P, Pwh P, Pnx P, Ppt P + nI 0, Pbl P + nI 1), mo, ⟨rfl, rfl, rfl, rfl, rfl, by rw [j4], rfl, fun i hi => ?_, fun i hi => (wq i hi).2.2⟩, rfl, ?_⟩
        · show wr (r + i + 17) = Pwh P i
          by_cases z : i = m
          · subst z; rw [j2, qw]; rfl
          · rw [j1 i hi z, L0.2 i]
        · rw [if_pos (by decide), j4]
      · have qn : ¬ nI q ≤ 0 := fun z => q0' (by have := (nI_leI (a := q) (b := 0) (by omega) (by decide)).mp z; omega)
        rw [if_neg qn]
        unfold F_X2_runAll
        simp only [let3]
        have hrun : F_X2_runAll_L4 7 (nI q) (Pbo P, Psz P, Pkd P, Plg P, Pwh P, Pnx P, Ppt P, Pbl P + nI 1) 0 0 (Pwh P) = F_X2_runAll_L4 7 (nI q) P 0 0 (Pwh P) := L_runP _ _ rfl 7 0 0 _
        rw [hrun]
        generalize F_X2_runAll_L4 7 (nI q) P 0 0 (Pwh P) = Z at j1 j2 j3 j4 j5 ⊢
        obtain ⟨z1, gn, wc⟩ := Z
        simp only at j1 j2 j3 j4 j5 ⊢
        by_cases q4 : q < 4
        · rw [if_pos ((nI_ltI (by omega) (by decide)).mpr q4)]
          rw [if_neg (fun z => absurd z.2 (by omega))] at j4
          rw [if_pos q4] at j2
          refine ⟨(Pbo P, Psz P, Pkd P, Plg P, upd wc (tN (Pnx P)) (nI q), Pnx P, Ppt P + nI gn, Pbl P + nI 1), mo, ⟨rfl, rfl, rfl, rfl, rfl, by rw [j4]; rfl, rfl, fun i hi => ?_, fun i hi => ?_⟩, rfl, by rw [j4]; rfl⟩
          · show wr (r + i + 17) = upd wc (tN (Pnx P)) (nI q) i
            rw [← hmm]
            by_cases z : i = m
            · subst z; rw [pk_us, j2]
            · rw [pk_un z]; exact j1 i hi z
          · show inB (upd wc (tN (Pnx P)) (nI q) i) 4
            rw [← hmm]
            by_cases z : i = m
            · subst z; rw [pk_us]; exact inB_nI (by omega) (by decide)
            · rw [pk_un z]; exact j5 i hi
        · rw [if_neg (fun z => q4 ((nI_ltI (by omega) (by decide)).mp z))]
          rw [if_pos ⟨qm, by omega⟩] at j4
          rw [if_neg q4] at j2
          refine ⟨(Pbo P, Psz P, Pkd P, Plg P, wc, Pnx P, Ppt P + nI (gn + 2), Pbl P + nI 1), mo, ⟨rfl, rfl, rfl, rfl, rfl, by rw [j4], rfl, fun i hi => ?_, j5⟩, rfl, by rw [j4]⟩
          show wr (r + i + 17) = wc i
          by_cases z : i = m
          · subst z; rw [j2, j3]; rfl
          · exact j1 i hi z
    obtain ⟨-, hres⟩ := hres
    rw [hres]
    obtain ⟨p1, p2, p3, p4, p5, p6, p7, p8, p9⟩ := hP1
    have hB2 : ∀ j, (j < r + 17 ∨ r + 23 ≤ j) → wr j = upd w (r + 4) (Pbl P + nI 1) j := hB
    have hA := after_eq (r := r) (w1 := wr) (P1 := P1) (m := m) (n := n) (by rw [hB2 _ (Or.inl (by omega)), pk_un (by omega), r2, hmm]) (by rw [p5, hmm]) (by rw [hB2 _ (Or.inl (by omega)), pk_un (by omega), r0, hnn]) (by rw [p2, hnn]) qm h6 p8
    simp only
    rw [hA.1, hA.2]
    have np2 : tN (Psz P1) = n := by rw [p2, hnn]
    refine ⟨trivial, ⟨?_, ?_, ?_, ?_, fun i hi => ?_⟩, ⟨by show inB (Psz P1) 6; rw [p2]; exact hW.1, by show inB (Pbo P1) 5; rw [p1]; exact hW.2.1, wfN_scn np2 (by omega) h6, fun i hi => ?_⟩, by show inB (Pbl P1) _; rw [p7]; exact hbl, p6⟩
    · show upd wr (r + 2) _ r = Psz P1
      rw [pk_un (by omega), hB2 _ (Or.inl (by omega)), pk_un (by omega), p2]; exact r0
    · show upd wr (r + 2) _ (r + 1) = Pbo P1
      rw [pk_un (by omega), hB2 _ (Or.inl (by omega)), pk_un (by omega), p1]; exact r1
    · exact pk_us
    · show upd wr (r + 2) _ (r + 4) = Pbl P1
      rw [pk_un (by omega), hB2 _ (Or.inl (by omega)), pk_us, p7]
    · have hi' : i < n := by rw [← np2]; exact hi
      refine ⟨?_, ?_, ?_⟩
      · show upd wr (r + 2) _ (r + i + 5) = Pkd P1 i
        rw [pk_un (by omega), hB2 _ (Or.inl (by omega)), pk_un (by omega), p3]; exact (ri i hi').1
      · show upd wr (r + 2) _ (r + i + 11) = Plg P1 i
        rw [pk_un (by omega), hB2 _ (Or.inl (by omega)), pk_un (by omega), p4]; exact (ri i hi').2.1
      · show upd wr (r + 2) _ (r + i + 17) = Pwh P1 i
        rw [pk_un (by omega)]; exact p8 i hi'
    · have hi' : i < n := by rw [← np2]; exact hi
      refine ⟨?_, ?_, p9 i hi'⟩
      · show inB (Pkd P1 i) 5
        rw [p3]; exact (wq i hi').1
      · show inB (Plg P1 i) 5 ∧ 1 ≤ tN (Plg P1 i)
        rw [p4]; exact (wq i hi').2.1
