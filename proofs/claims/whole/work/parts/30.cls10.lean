def wD (L : Nat) (D : dS) : Prop := Dln D = L ∧ Dbh D ≤ Dln D ∧ Dsa D ≤ Dbh D
theorem step_w {D D' : dS} {L : Nat} {Tx : Nat → Int32} (e : F_X3_step D Tx = D') (hl : Dln D = L) (h : Dbh D ≤ Dln D) : wD L D' := by
  have g := L_step D Tx 151 (Dbh D) h
  subst hl
  rw [← e]
  unfold F_X3_step
  simp only [let1]
  generalize F_X3_step_L0 151 D Tx (Dbh D) = b at g
  split
  · exact ⟨rfl, g.2, Nat.le_refl _⟩
  · rename_i n1
    have hb : b < Dln D := by
      rcases Nat.lt_or_ge b (Dln D) with q | q
      · exact q
      · exact absurd (if_pos q) n1
    split
    · have q := passLetters_at (D := (Dln D, b, b, nI 1, Dvl D)) (Tx := Tx) rfl g.2
      exact ⟨q.1, by rw [q.1]; exact q.2.2.2, by rw [q.2.1]; exact q.2.2.1⟩
    · split
      · have q := passFigures_at (D := (Dln D, b, b, Dtk D, Dvl D)) (Tx := Tx) rfl g.2
        split
        · exact ⟨q.1, by show Dbh _ ≤ Dln _; rw [q.1]; exact q.2.2.2, by show Dsa _ ≤ Dbh _; rw [q.2.1]; exact q.2.2.1⟩
        · exact ⟨q.1, by show Dbh _ ≤ Dln _; rw [q.1]; exact q.2.2.2, by show Dsa _ ≤ Dbh _; rw [q.2.1]; exact q.2.2.1⟩
      · split
        · exact ⟨rfl, hb, Nat.le_succ _⟩
        · exact ⟨rfl, hb, Nat.le_succ _⟩
theorem takeStop_w {D D' : dS} {L : Nat} {Tx : Nat → Int32} {z : Bool} (e : F_X3_takeStop D Tx = (z, D')) (h : wD L D) : wD L D' := by
  unfold F_X3_takeStop at e
  split at e
  · simp only [let1] at e; rw [← (Prod.mk.inj e).2]; exact step_w rfl h.1 h.2.1
  · rw [← (Prod.mk.inj e).2]; exact h

theorem L_takeWord0 (D : dS) (Tx : Nat → Int32) : ∀ (f k : Nat) (r : Bool × dS), F_X3_takeWord_v0_L28 f D Tx k = .inr r → r = (false, D)
  | 0, k, r, h => by rw [F_X3_takeWord_v0_L28] at h; cases h
  | f + 1, k, r, h => by
    rw [F_X3_takeWord_v0_L28] at h
    split at h
    · cases h
    · simp only [let1] at h
      split at h
      · exact L_takeWord0 D Tx f (k + 1) r h
      · cases h; rfl
theorem takeWord0_w {D D' : dS} {L : Nat} {Tx : Nat → Int32} {z : Bool} (e : F_X3_takeWord_v0 D Tx = (z, D')) (h : wD L D) : wD L D' := by
  unfold F_X3_takeWord_v0 at e
  split at e
  · split at e
    · rcases hx : F_X3_takeWord_v0_L28 6 D Tx 0 with k | r
      · rw [hx] at e
        simp only [sel1, let1] at e
        rw [← (Prod.mk.inj e).2]; exact step_w rfl h.1 h.2.1
      · rw [hx] at e
        simp only [sel1] at e
        rw [L_takeWord0 D Tx _ _ r hx] at e
        rw [← (Prod.mk.inj e).2]; exact h
    · rw [← (Prod.mk.inj e).2]; exact h
  · rw [← (Prod.mk.inj e).2]; exact h

theorem L_takeWord1 (D : dS) (Tx : Nat → Int32) : ∀ (f k : Nat) (r : Bool × dS), F_X3_takeWord_v1_L28 f D Tx k = .inr r → r = (false, D)
  | 0, k, r, h => by rw [F_X3_takeWord_v1_L28] at h; cases h
  | f + 1, k, r, h => by
    rw [F_X3_takeWord_v1_L28] at h
    split at h
    · cases h
    · simp only [let1] at h
      split at h
      · exact L_takeWord1 D Tx f (k + 1) r h
      · cases h; rfl
theorem takeWord1_w {D D' : dS} {L : Nat} {Tx : Nat → Int32} {z : Bool} (e : F_X3_takeWord_v1 D Tx = (z, D')) (h : wD L D) : wD L D' := by
  unfold F_X3_takeWord_v1 at e
  split at e
  · split at e
    · rcases hx : F_X3_takeWord_v1_L28 7 D Tx 0 with k | r
      · rw [hx] at e
        simp only [sel1, let1] at e
        rw [← (Prod.mk.inj e).2]; exact step_w rfl h.1 h.2.1
      · rw [hx] at e
        simp only [sel1] at e
        rw [L_takeWord1 D Tx _ _ r hx] at e
        rw [← (Prod.mk.inj e).2]; exact h
    · rw [← (Prod.mk.inj e).2]; exact h
  · rw [← (Prod.mk.inj e).2]; exact h

theorem L_takeWord2 (D : dS) (Tx : Nat → Int32) : ∀ (f k : Nat) (r : Bool × dS), F_X3_takeWord_v2_L28 f D Tx k = .inr r → r = (false, D)
  | 0, k, r, h => by rw [F_X3_takeWord_v2_L28] at h; cases h
  | f + 1, k, r, h => by
    rw [F_X3_takeWord_v2_L28] at h
    split at h
    · cases h
    · simp only [let1] at h
      split at h
      · exact L_takeWord2 D Tx f (k + 1) r h
      · cases h; rfl
theorem takeWord2_w {D D' : dS} {L : Nat} {Tx : Nat → Int32} {z : Bool} (e : F_X3_takeWord_v2 D Tx = (z, D')) (h : wD L D) : wD L D' := by
  unfold F_X3_takeWord_v2 at e
  split at e
  · split at e
    · rcases hx : F_X3_takeWord_v2_L28 5 D Tx 0 with k | r
      · rw [hx] at e
        simp only [sel1, let1] at e
        rw [← (Prod.mk.inj e).2]; exact step_w rfl h.1 h.2.1
      · rw [hx] at e
        simp only [sel1] at e
        rw [L_takeWord2 D Tx _ _ r hx] at e
        rw [← (Prod.mk.inj e).2]; exact h
    · rw [← (Prod.mk.inj e).2]; exact h
  · rw [← (Prod.mk.inj e).2]; exact h
def F_X3_readBowler (Rd : dS) (P : pS) (Tx : Nat → Int32) : Bool × (dS) × (pS) := let2 (F_X3_takeWord_v0 Rd Tx) (fun z_3 Rd_3 => if z_3 = true then let1 (F_X3_isNumber Rd_3 (nI 0) (nI 5)) (fun z_12 => if z_12 = true then let1 (F_X3_step Rd_3 Tx) (fun Rd_32 => (true, Rd_32, ((Dvl Rd_3, Psz P, Pkd P, Plg P, Pwh P, Pnx P, Ppt P, Pbl P)))) else (false, Rd_3, P)) else (false, Rd_3, P))
set_option maxHeartbeats 4000000 in
set_option maxRecDepth 100000 in
theorem c_X3_readBowler (l : Launch) (dC : Nat → ClassId) (dI : Nat → Nat → Nat) (x : Nat → Nat) (cI : ClassId) (fr : Nat) (adK adV : Nat → Nat) (sz : Nat) (Rd : dS) (P : pS) (Tx : Nat → Int32) (hL : Dln Rd ≤ 150) (hB : Dbh Rd ≤ Dln Rd) (hS0 : Dsa Rd ≤ Dbh Rd) : Met l yX3_readBowler wsX3_readBowler { frames := 5, cells := 0, slots := 0, locals := 107 } (xPcG fr adK adV (dC, dI) vwCl (xT cI) ([(x 16, .inr (3, [.ref (x 17), .ref (x 14), .int (nI ((Dln Rd))), .int (nI ((Dbh Rd))), .int (nI ((Dsa Rd))), .int (Dtk Rd), .int (Dvl Rd)])), (x 17, .inr (2, [.int (Pbo P), .int (Psz P), .ref (x 18), .ref (x 19), .ref (x 20), .int (Pnx P), .int (Ppt P), .int (Pbl P)])), (x 18, .inl (cI, 6, .inl (Pkd P))), (x 19, .inl (cI, 6, .inl (Plg P))), (x 20, .inl (cI, 6, .inl (Pwh P))), (x 14, .inl (cI, 150, .inl Tx))]) sz [.ref (x 16)]) (va_Qi (fun (r : Int32) (u : (dS) × (pS)) => ∃ z : Bool, F_X3_readBowler Rd P Tx = (z, u) ∧ r = if z = true then 1 else 0) (mB (dC, dI) vwCl (xT cI) (va_A ([(x 16, .inr (3, [.ref (x 17), .ref (x 14), .int (nI ((Dln Rd))), .int (nI ((Dbh Rd))), .int (nI ((Dsa Rd))), .int (Dtk Rd), .int (Dvl Rd)])), (x 17, .inr (2, [.int (Pbo P), .int (Psz P), .ref (x 18), .ref (x 19), .ref (x 20), .int (Pnx P), .int (Ppt P), .int (Pbl P)])), (x 18, .inl (cI, 6, .inl (Pkd P))), (x 19, .inl (cI, 6, .inl (Plg P))), (x 20, .inl (cI, 6, .inl (Pwh P))), (x 14, .inl (cI, 150, .inl Tx))]) sz) (fun u => [(x 16, .inr (3, [.ref (x 17), .ref (x 14), .int (nI ((Dln (u.1)))), .int (nI ((Dbh (u.1)))), .int (nI ((Dsa (u.1)))), .int (Dtk (u.1)), .int (Dvl (u.1))])), (x 17, .inr (2, [.int (Pbo (u.2)), .int (Psz (u.2)), .ref (x 18), .ref (x 19), .ref (x 20), .int (Pnx (u.2)), .int (Ppt (u.2)), .int (Pbl (u.2))])), (x 18, .inl (cI, 6, .inl (Pkd (u.2)))), (x 19, .inl (cI, 6, .inl (Plg (u.2)))), (x 20, .inl (cI, 6, .inl (Pwh (u.2)))), (x 14, .inl (cI, 150, .inl Tx))])) (va_A ([(x 16, .inr (3, [.ref (x 17), .ref (x 14), .int (nI ((Dln Rd))), .int (nI ((Dbh Rd))), .int (nI ((Dsa Rd))), .int (Dtk Rd), .int (Dvl Rd)])), (x 17, .inr (2, [.int (Pbo P), .int (Psz P), .ref (x 18), .ref (x 19), .ref (x 20), .int (Pnx P), .int (Ppt P), .int (Pbl P)])), (x 18, .inl (cI, 6, .inl (Pkd P))), (x 19, .inl (cI, 6, .inl (Plg P))), (x 20, .inl (cI, 6, .inl (Pwh P))), (x 14, .inl (cI, 150, .inl Tx))]) sz)) 0 0 (va_A ([(x 16, .inr (3, [.ref (x 17), .ref (x 14), .int (nI ((Dln Rd))), .int (nI ((Dbh Rd))), .int (nI ((Dsa Rd))), .int (Dtk Rd), .int (Dvl Rd)])), (x 17, .inr (2, [.int (Pbo P), .int (Psz P), .ref (x 18), .ref (x 19), .ref (x 20), .int (Pnx P), .int (Ppt P), .int (Pbl P)])), (x 18, .inl (cI, 6, .inl (Pkd P))), (x 19, .inl (cI, 6, .inl (Plg P))), (x 20, .inl (cI, 6, .inl (Pwh P))), (x 14, .inl (cI, 150, .inl Tx))]) sz) := by
  refine Met.ofW (cc := cX3_readBowler) (maxL := 1) (ret := (some .boolean)) (by decide) rfl ?_
  intro p e s m args below meth c s₁ B hml hv
  obtain ⟨rfl, hsz, hP, hK, hD0, hN, hE0⟩ := hv
  have hx := B.exec
  have hb := B.bytes
  have hr := B.returns
  have hts := atoms_spec (ws := wsX3_readBowler) B.pre
  have hown : s.vm.findClass RX3 = some m.cls := findClass_of_methodNamed B.named
  have hlocks := B.notSynchronized
  subst hsz
  have hD := hD0.self (sz := s.heap.size)
  generalize hAe : va_A ([(x 16, .inr (3, [.ref (x 17), .ref (x 14), .int (nI ((Dln Rd))), .int (nI ((Dbh Rd))), .int (nI ((Dsa Rd))), .int (Dtk Rd), .int (Dvl Rd)])), (x 17, .inr (2, [.int (Pbo P), .int (Psz P), .ref (x 18), .ref (x 19), .ref (x 20), .int (Pnx P), .int (Ppt P), .int (Pbl P)])), (x 18, .inl (cI, 6, .inl (Pkd P))), (x 19, .inl (cI, 6, .inl (Plg P))), (x 20, .inl (cI, 6, .inl (Pwh P))), (x 14, .inl (cI, 150, .inl Tx))]) s.heap.size = A at hD hE0 ⊢
  have hE := hE0
  have hA : ∀ q : Nat, s.heap.size ≤ q → A q := fun q h => by rw [← hAe]; exact Or.inr h
  have hS : va_S A s.heap s.heap [] := va_S.rf
  have hin2 : ∀ w ∈ wsX20, w ∈ wsX3_readBowler := by decide +kernel
  have hin3 : ∀ w ∈ wsX30, w ∈ wsX3_readBowler := by decide +kernel
  have lk12 := hts (.fieldLink RX3 12 "PostRounders$Reader" "play" "LPostRounders$Play;") (by decide +kernel)
  have lk68 := hts (.fieldLink RX3 68 "PostRounders$Reader" "value" "I") (by decide +kernel)
  have lk71 := hts (.fieldLink RX3 71 "PostRounders$Play" "bowler" "I") (by decide +kernel)
  have hl := lv_entry ([.ref (x 16)]) (n := 1) (Nat.le_of_ble_eq_true rfl)
  rw [lg_entry_eq]
  generalize (lg_sl ([.ref (x 16)]) ++ List.replicate (1 - (lg_sl ([.ref (x 16)])).length) Slot.unset).toArray = ls at hl ⊢
  have hl : lv_has ls 1 [(0, .ref (x 16))] := hl
  obtain ⟨OUT, hO⟩ : ∃ z, z = F_X3_readBowler Rd P Tx := ⟨_, rfl⟩
  have hF := hO
  unfold F_X3_readBowler at hF
  refine lv_aload_n hx hb dX3_readBowler_0 rfl (lv_at hl 0 rfl) ?_
  refine va_ldcS (tx := "field") (q := adK 0) hx hb hown hE.2.2.2.1 dX3_readBowler_1 ?_
  refine qxg_Vi (C := RX3) (As := [.ref (adK 0)]) (rest := []) (ci := 3) (k0 := 0) (wr := [(x 17, .inr (2, [.int (Pbo P), .int (Psz P), .ref (x 18), .ref (x 19), .ref (x 20), .int (Pnx P), .int (Ppt P), .int (Pbl P)])), (x 18, .inl (cI, 6, .inl (Pkd P))), (x 19, .inl (cI, 6, .inl (Plg P))), (x 20, .inl (cI, 6, .inl (Pwh P)))]) (ws2 := fun u => [(x 16, .inr (3, [.ref (x 17), .ref (x 14), .int (nI ((Dln u))), .int (nI ((Dbh u))), .int (nI ((Dsa u))), .int (Dtk u), .int (Dvl u)])), (x 17, .inr (2, [.int (Pbo P), .int (Psz P), .ref (x 18), .ref (x 19), .ref (x 20), .int (Pnx P), .int (Ppt P), .int (Pbl P)])), (x 18, .inl (cI, 6, .inl (Pkd P))), (x 19, .inl (cI, 6, .inl (Plg P))), (x 20, .inl (cI, 6, .inl (Pwh P))), (x 14, .inl (cI, 150, .inl Tx))]) [0, 5] [1, 2, 3, 4] [4, 0, 1, 2, 3, 5] ⟨hx, hb, hml, hown, hts⟩ (c_X3_takeWord_v0 l dC dI x cI fr adK adV s.heap.size Rd Tx  (by omega) (by omega) (by omega)) (cwV 1 hts gX3_readBowler_X3_takeWord rfl rfl rfl (by decide +kernel) ⟨Nat.le_of_ble_eq_true rfl, Nat.le_of_ble_eq_true rfl⟩) (hK.sub [0] rfl) hK hP hD hS hA hN hE rfl rfl (by decide) (by decide) (by decide) (by decide) (fun _ => rfl) rfl rfl rfl rfl hl.1 rfl (Nat.le_of_ble_eq_true rfl) dX3_readBowler_3 ⟨Nat.zero_le _, Nat.zero_le _⟩ (fun r_3 u_3 H locs hw_3 hP hD hS => ?_)
  obtain ⟨Rd_3, rfl⟩ : ∃ z, z = u_3 := ⟨_, rfl⟩
  have hP : va_P (dC, dI) vwCl ([(x 16, .inr (3, [.ref (x 17), .ref (x 14), .int (nI ((Dln Rd_3))), .int (nI ((Dbh Rd_3))), .int (nI ((Dsa Rd_3))), .int (Dtk Rd_3), .int (Dvl Rd_3)])), (x 17, .inr (2, [.int (Pbo P), .int (Psz P), .ref (x 18), .ref (x 19), .ref (x 20), .int (Pnx P), .int (Ppt P), .int (Pbl P)])), (x 18, .inl (cI, 6, .inl (Pkd P))), (x 19, .inl (cI, 6, .inl (Plg P))), (x 20, .inl (cI, 6, .inl (Pwh P))), (x 14, .inl (cI, 150, .inl Tx))]) H := hP
  have hD : va_D A ([(x 16, .inr (3, [.ref (x 17), .ref (x 14), .int (nI ((Dln Rd_3))), .int (nI ((Dbh Rd_3))), .int (nI ((Dsa Rd_3))), .int (Dtk Rd_3), .int (Dvl Rd_3)])), (x 17, .inr (2, [.int (Pbo P), .int (Psz P), .ref (x 18), .ref (x 19), .ref (x 20), .int (Pnx P), .int (Ppt P), .int (Pbl P)])), (x 18, .inl (cI, 6, .inl (Pkd P))), (x 19, .inl (cI, 6, .inl (Plg P))), (x 20, .inl (cI, 6, .inl (Pwh P))), (x 14, .inl (cI, 150, .inl Tx))]) := hD
  obtain ⟨z_3, hw_3, rfl⟩ := hw_3
  have w_3 : wD ((Dln Rd)) Rd_3 := takeWord0_w hw_3 ⟨rfl, (show (Dbh Rd) ≤ (Dln Rd) by omega), (show (Dsa Rd) ≤ (Dbh Rd) by omega)⟩
  have x_3 : Dln Rd_3 = (Dln Rd) := w_3.1
  have y_3 : Dbh Rd_3 ≤ Dln Rd_3 := w_3.2.1
  have t_3 : Dsa Rd_3 ≤ Dbh Rd_3 := w_3.2.2
  rw [hw_3, let2_mk z_3 Rd_3] at hF
  refine qv_zif_eq (tgt := 18) hx hb dX3_readBowler_6 (by decide) (fun c_6 => ?_) (fun c_6 => ?_)
  · rw [if_neg c_6] at hF
    refine lv_iconst (v := nI 0) hx hb dX3_readBowler_18 (by decide) ?_
    have hP9 : va_P (dC, dI) vwCl ([(x 16, .inr (3, [.ref (x 17), .ref (x 14), .int (nI ((Dln Rd_3))), .int (nI ((Dbh Rd_3))), .int (nI ((Dsa Rd_3))), .int (Dtk Rd_3), .int (Dvl Rd_3)])), (x 17, .inr (2, [.int (Pbo P), .int (Psz P), .ref (x 18), .ref (x 19), .ref (x 20), .int (Pnx P), .int (Ppt P), .int (Pbl P)])), (x 18, .inl (cI, 6, .inl (Pkd P))), (x 19, .inl (cI, 6, .inl (Plg P))), (x 20, .inl (cI, 6, .inl (Pwh P))), (x 14, .inl (cI, 150, .inl Tx))]) H := hP
    exact W.zret (v := nI 0) hx hb hr (by rfl) (fun t ht hW => ⟨⟨_, ((Rd_3, P)), rfl, ⟨false, hO.symm.trans hF, rfl⟩, by rw [ht]; exact hP9, va_K.moved hW.alike hK, hD⟩, hS.F ht⟩) hS.2.2 dX3_readBowler_19
  · rw [if_pos c_6] at hF
    refine lv_aload_n hx hb dX3_readBowler_9 rfl (lv_at hl 0 rfl) ?_
    refine lv_iconst (v := nI 0) hx hb dX3_readBowler_10 (by decide) ?_
    refine lv_iconst (v := nI 5) hx hb dX3_readBowler_11 (by decide) ?_
    refine qx_Vi (C := RX3) (As := [.int (nI 0), .int (nI 5)]) (rest := []) (ci := 3) (k0 := 0) (wr := [(x 17, .inr (2, [.int (Pbo P), .int (Psz P), .ref (x 18), .ref (x 19), .ref (x 20), .int (Pnx P), .int (Ppt P), .int (Pbl P)])), (x 18, .inl (cI, 6, .inl (Pkd P))), (x 19, .inl (cI, 6, .inl (Plg P))), (x 20, .inl (cI, 6, .inl (Pwh P))), (x 14, .inl (cI, 150, .inl Tx))]) (ws2 := fun u => [(x 16, .inr (3, [.ref (x 17), .ref (x 14), .int (nI ((Dln Rd_3))), .int (nI ((Dbh Rd_3))), .int (nI ((Dsa Rd_3))), .int (Dtk Rd_3), .int (Dvl Rd_3)])), (x 17, .inr (2, [.int (Pbo P), .int (Psz P), .ref (x 18), .ref (x 19), .ref (x 20), .int (Pnx P), .int (Ppt P), .int (Pbl P)])), (x 18, .inl (cI, 6, .inl (Pkd P))), (x 19, .inl (cI, 6, .inl (Plg P))), (x 20, .inl (cI, 6, .inl (Pwh P))), (x 14, .inl (cI, 150, .inl Tx))]) [0] [1, 2, 3, 4, 5] [5, 0, 1, 2, 3, 4] ⟨hx, hb, hml, hown, hts⟩ (c_X3_isNumber l dC dI x cI H.size Rd_3 (nI 0) (nI 5) ) (cwV 2 hts gX3_readBowler_X3_isNumber rfl rfl rfl (by decide +kernel) ⟨Nat.le_of_ble_eq_true rfl, Nat.le_of_ble_eq_true rfl⟩) (hK.sub [0] rfl) hK hP hD hS hA hN rfl rfl (by decide) (by decide) (by decide) (by decide) (fun _ => rfl) rfl rfl rfl rfl hl.1 rfl (Nat.le_of_ble_eq_true rfl) dX3_readBowler_12 ⟨Nat.zero_le _, Nat.zero_le _⟩ (fun r_12 u_12 H locs hw_12 hP hD hS => ?_)
    have hP : va_P (dC, dI) vwCl ([(x 16, .inr (3, [.ref (x 17), .ref (x 14), .int (nI ((Dln Rd_3))), .int (nI ((Dbh Rd_3))), .int (nI ((Dsa Rd_3))), .int (Dtk Rd_3), .int (Dvl Rd_3)])), (x 17, .inr (2, [.int (Pbo P), .int (Psz P), .ref (x 18), .ref (x 19), .ref (x 20), .int (Pnx P), .int (Ppt P), .int (Pbl P)])), (x 18, .inl (cI, 6, .inl (Pkd P))), (x 19, .inl (cI, 6, .inl (Plg P))), (x 20, .inl (cI, 6, .inl (Pwh P))), (x 14, .inl (cI, 150, .inl Tx))]) H := hP
    have hD : va_D A ([(x 16, .inr (3, [.ref (x 17), .ref (x 14), .int (nI ((Dln Rd_3))), .int (nI ((Dbh Rd_3))), .int (nI ((Dsa Rd_3))), .int (Dtk Rd_3), .int (Dvl Rd_3)])), (x 17, .inr (2, [.int (Pbo P), .int (Psz P), .ref (x 18), .ref (x 19), .ref (x 20), .int (Pnx P), .int (Ppt P), .int (Pbl P)])), (x 18, .inl (cI, 6, .inl (Pkd P))), (x 19, .inl (cI, 6, .inl (Plg P))), (x 20, .inl (cI, 6, .inl (Pwh P))), (x 14, .inl (cI, 150, .inl Tx))]) := hD
    obtain ⟨z_12, hw_12, rfl⟩ := hw_12
    rw [hw_12, let1_mk z_12] at hF
    refine qv_zif_ne (tgt := 20) hx hb dX3_readBowler_15 (by decide) (fun c_15 => ?_) (fun c_15 => ?_)
    · rw [if_pos c_15] at hF
      refine lv_aload_n hx hb dX3_readBowler_20 rfl (lv_at hl 0 rfl) ?_
      refine va_get (D := (dC, dI)) (ci := 3) (v := .ref (x 17)) (C := RX3) (T := TX3) (N := 7) hx hb hts hin3 hown hK hP 0 rfl rfl 0 (by decide) lk12 (fun _ h9 => h9) rfl dX3_readBowler_21 ?_
      refine lv_aload_n hx hb dX3_readBowler_24 rfl (lv_at hl 0 rfl) ?_
      refine va_get (D := (dC, dI)) (ci := 3) (v := .int (Dvl Rd_3)) (C := RX3) (T := TX3) (N := 7) hx hb hts hin3 hown hK hP 0 rfl rfl 6 (by decide) lk68 (fun _ h9 => h9) rfl dX3_readBowler_25 ?_
      refine va_put (D := (dC, dI)) (ci := 2) (v := .int (Dvl Rd_3)) (ty := .int) (C := RX2) (T := TX2) (N := 8) hx hb hts hin2 tyX2 tyX2_ok nmX2 hown hK hP hD hS 1 rfl rfl 0 (by decide) lk71 (fun _ h9 => h9) rfl (by decide +kernel) rfl rfl (Nat.le_of_ble_eq_true rfl) dX3_readBowler_28 (fun H locs hP hD hS => ?_)
      have hP : va_P (dC, dI) vwCl ([(x 16, .inr (3, [.ref (x 17), .ref (x 14), .int (nI ((Dln Rd_3))), .int (nI ((Dbh Rd_3))), .int (nI ((Dsa Rd_3))), .int (Dtk Rd_3), .int (Dvl Rd_3)])), (x 17, .inr (2, [.int (Dvl Rd_3), .int (Psz P), .ref (x 18), .ref (x 19), .ref (x 20), .int (Pnx P), .int (Ppt P), .int (Pbl P)])), (x 18, .inl (cI, 6, .inl (Pkd P))), (x 19, .inl (cI, 6, .inl (Plg P))), (x 20, .inl (cI, 6, .inl (Pwh P))), (x 14, .inl (cI, 150, .inl Tx))]) H := hP
      have hD : va_D A ([(x 16, .inr (3, [.ref (x 17), .ref (x 14), .int (nI ((Dln Rd_3))), .int (nI ((Dbh Rd_3))), .int (nI ((Dsa Rd_3))), .int (Dtk Rd_3), .int (Dvl Rd_3)])), (x 17, .inr (2, [.int (Dvl Rd_3), .int (Psz P), .ref (x 18), .ref (x 19), .ref (x 20), .int (Pnx P), .int (Ppt P), .int (Pbl P)])), (x 18, .inl (cI, 6, .inl (Pkd P))), (x 19, .inl (cI, 6, .inl (Plg P))), (x 20, .inl (cI, 6, .inl (Pwh P))), (x 14, .inl (cI, 150, .inl Tx))]) := hD
      refine lv_aload_n hx hb dX3_readBowler_31 rfl (lv_at hl 0 rfl) ?_
      refine qx_Vv (C := RX3) (As := []) (rest := []) (ci := 3) (k0 := 0) (wr := [(x 17, .inr (2, [.int (Dvl Rd_3), .int (Psz P), .ref (x 18), .ref (x 19), .ref (x 20), .int (Pnx P), .int (Ppt P), .int (Pbl P)])), (x 18, .inl (cI, 6, .inl (Pkd P))), (x 19, .inl (cI, 6, .inl (Plg P))), (x 20, .inl (cI, 6, .inl (Pwh P)))]) (ws2 := fun u => [(x 16, .inr (3, [.ref (x 17), .ref (x 14), .int (nI ((Dln u))), .int (nI ((Dbh u))), .int (nI ((Dsa u))), .int (Dtk u), .int (Dvl u)])), (x 17, .inr (2, [.int (Dvl Rd_3), .int (Psz P), .ref (x 18), .ref (x 19), .ref (x 20), .int (Pnx P), .int (Ppt P), .int (Pbl P)])), (x 18, .inl (cI, 6, .inl (Pkd P))), (x 19, .inl (cI, 6, .inl (Plg P))), (x 20, .inl (cI, 6, .inl (Pwh P))), (x 14, .inl (cI, 150, .inl Tx))]) [0, 5] [1, 2, 3, 4] [4, 0, 1, 2, 3, 5] ⟨hx, hb, hml, hown, hts⟩ (c_X3_step l dC dI x cI H.size Rd_3 Tx  (by omega) (by omega)) (cwV 0 hts gX3_readBowler_X3_step rfl rfl rfl (by decide +kernel) ⟨Nat.le_of_ble_eq_true rfl, Nat.le_of_ble_eq_true rfl⟩) (hK.sub [0] rfl) hK hP hD hS hA hN rfl rfl (by decide) (by decide) (by decide) (by decide) (fun _ => rfl) rfl rfl rfl rfl hl.1 rfl (Nat.le_of_ble_eq_true rfl) dX3_readBowler_32 ⟨Nat.zero_le _, Nat.zero_le _⟩ (fun u_32 H locs hw_32 hP hD hS => ?_)
      obtain ⟨Rd_32, rfl⟩ : ∃ z, z = u_32 := ⟨_, rfl⟩
      have hP : va_P (dC, dI) vwCl ([(x 16, .inr (3, [.ref (x 17), .ref (x 14), .int (nI ((Dln Rd_32))), .int (nI ((Dbh Rd_32))), .int (nI ((Dsa Rd_32))), .int (Dtk Rd_32), .int (Dvl Rd_32)])), (x 17, .inr (2, [.int (Dvl Rd_3), .int (Psz P), .ref (x 18), .ref (x 19), .ref (x 20), .int (Pnx P), .int (Ppt P), .int (Pbl P)])), (x 18, .inl (cI, 6, .inl (Pkd P))), (x 19, .inl (cI, 6, .inl (Plg P))), (x 20, .inl (cI, 6, .inl (Pwh P))), (x 14, .inl (cI, 150, .inl Tx))]) H := hP
      have hD : va_D A ([(x 16, .inr (3, [.ref (x 17), .ref (x 14), .int (nI ((Dln Rd_32))), .int (nI ((Dbh Rd_32))), .int (nI ((Dsa Rd_32))), .int (Dtk Rd_32), .int (Dvl Rd_32)])), (x 17, .inr (2, [.int (Dvl Rd_3), .int (Psz P), .ref (x 18), .ref (x 19), .ref (x 20), .int (Pnx P), .int (Ppt P), .int (Pbl P)])), (x 18, .inl (cI, 6, .inl (Pkd P))), (x 19, .inl (cI, 6, .inl (Plg P))), (x 20, .inl (cI, 6, .inl (Pwh P))), (x 14, .inl (cI, 150, .inl Tx))]) := hD
      have w_32 : wD ((Dln Rd_3)) Rd_32 := step_w hw_32 rfl (show (Dbh Rd_3) ≤ (Dln Rd_3) by omega)
      have x_32 : Dln Rd_32 = (Dln Rd_3) := w_32.1
      have y_32 : Dbh Rd_32 ≤ Dln Rd_32 := w_32.2.1
      have t_32 : Dsa Rd_32 ≤ Dbh Rd_32 := w_32.2.2
      rw [hw_32, let1_mk Rd_32] at hF
      refine lv_iconst (v := nI 1) hx hb dX3_readBowler_35 (by decide) ?_
      have hP9 : va_P (dC, dI) vwCl ([(x 16, .inr (3, [.ref (x 17), .ref (x 14), .int (nI ((Dln Rd_32))), .int (nI ((Dbh Rd_32))), .int (nI ((Dsa Rd_32))), .int (Dtk Rd_32), .int (Dvl Rd_32)])), (x 17, .inr (2, [.int (Dvl Rd_3), .int (Psz P), .ref (x 18), .ref (x 19), .ref (x 20), .int (Pnx P), .int (Ppt P), .int (Pbl P)])), (x 18, .inl (cI, 6, .inl (Pkd P))), (x 19, .inl (cI, 6, .inl (Plg P))), (x 20, .inl (cI, 6, .inl (Pwh P))), (x 14, .inl (cI, 150, .inl Tx))]) H := hP
      exact W.zret (v := nI 1) hx hb hr (by rfl) (fun t ht hW => ⟨⟨_, ((Rd_32, (Dvl Rd_3, Psz P, Pkd P, Plg P, Pwh P, Pnx P, Ppt P, Pbl P))), rfl, ⟨true, hO.symm.trans hF, rfl⟩, by rw [ht]; exact hP9, va_K.moved hW.alike hK, hD⟩, hS.F ht⟩) hS.2.2 dX3_readBowler_36
    · rw [if_neg c_15] at hF
      refine lv_iconst (v := nI 0) hx hb dX3_readBowler_18 (by decide) ?_
      have hP9 : va_P (dC, dI) vwCl ([(x 16, .inr (3, [.ref (x 17), .ref (x 14), .int (nI ((Dln Rd_3))), .int (nI ((Dbh Rd_3))), .int (nI ((Dsa Rd_3))), .int (Dtk Rd_3), .int (Dvl Rd_3)])), (x 17, .inr (2, [.int (Pbo P), .int (Psz P), .ref (x 18), .ref (x 19), .ref (x 20), .int (Pnx P), .int (Ppt P), .int (Pbl P)])), (x 18, .inl (cI, 6, .inl (Pkd P))), (x 19, .inl (cI, 6, .inl (Plg P))), (x 20, .inl (cI, 6, .inl (Pwh P))), (x 14, .inl (cI, 150, .inl Tx))]) H := hP
      exact W.zret (v := nI 0) hx hb hr (by rfl) (fun t ht hW => ⟨⟨_, ((Rd_3, P)), rfl, ⟨false, hO.symm.trans hF, rfl⟩, by rw [ht]; exact hP9, va_K.moved hW.alike hK, hD⟩, hS.F ht⟩) hS.2.2 dX3_readBowler_19
theorem readBowler_w {D D' : dS} {P P' : pS} {L : Nat} {Tx : Nat → Int32} {z : Bool} (e : F_X3_readBowler D P Tx = (z, D', P')) (h : wD L D) (hp : inB (Psz P) 6) : wD L D' ∧ inB (Psz P') 6 := by
  unfold F_X3_readBowler at e
  simp only [let1, let2] at e
  have g := takeWord0_w (D := D) (Tx := Tx) (z := (F_X3_takeWord_v0 D Tx).1) (D' := (F_X3_takeWord_v0 D Tx).2) rfl h
  generalize F_X3_takeWord_v0 D Tx = Y at g e
  split at e
  · split at e
    · have q := Prod.mk.inj (Prod.mk.inj e).2
      rw [← q.1, ← q.2]; exact ⟨step_w rfl g.1 g.2.1, hp⟩
    · have q := Prod.mk.inj (Prod.mk.inj e).2
      rw [← q.1, ← q.2]; exact ⟨g, hp⟩
  · have q := Prod.mk.inj (Prod.mk.inj e).2
    rw [← q.1, ← q.2]; exact ⟨g, hp⟩
def F_X3_readBatter (Rd : dS) (P : pS) (Tx : Nat → Int32) : Bool × (dS) × (pS) := let1 (F_X3_isNumber Rd (nI 0) (nI 5)) (fun z_3 => if z_3 = true then let1 (F_X3_step Rd Tx) (fun Rd_17 => let1 (F_X3_isNumber Rd_17 (nI 1) (nI 5)) (fun z_23 => if z_23 = true then let2 (F_X2_join P (Dvl Rd) (Dvl Rd_17)) (fun r_40 P_40 => let1 (F_X3_step Rd_17 Tx) (fun Rd_45 => (true, Rd_45, P_40))) else (false, Rd_17, P))) else (false, Rd, P))
set_option maxHeartbeats 4000000 in
set_option maxRecDepth 100000 in
theorem c_X3_readBatter (l : Launch) (dC : Nat → ClassId) (dI : Nat → Nat → Nat) (x : Nat → Nat) (cI : ClassId) (sz : Nat) (Rd : dS) (P : pS) (Tx : Nat → Int32) (hL : Dln Rd ≤ 150) (hB : Dbh Rd ≤ Dln Rd) (hS0 : Dsa Rd ≤ Dbh Rd) (pz : inB (Psz P) 6) : Met l yX3_readBatter wsX3_readBatter { frames := 3, cells := 0, slots := 0, locals := 62 } (xPc (dC, dI) vwCl (xT cI) ([(x 16, .inr (3, [.ref (x 17), .ref (x 14), .int (nI ((Dln Rd))), .int (nI ((Dbh Rd))), .int (nI ((Dsa Rd))), .int (Dtk Rd), .int (Dvl Rd)])), (x 17, .inr (2, [.int (Pbo P), .int (Psz P), .ref (x 18), .ref (x 19), .ref (x 20), .int (Pnx P), .int (Ppt P), .int (Pbl P)])), (x 18, .inl (cI, 6, .inl (Pkd P))), (x 19, .inl (cI, 6, .inl (Plg P))), (x 20, .inl (cI, 6, .inl (Pwh P))), (x 14, .inl (cI, 150, .inl Tx))]) sz [.ref (x 16)]) (va_Qi (fun (r : Int32) (u : (dS) × (pS)) => ∃ z : Bool, F_X3_readBatter Rd P Tx = (z, u) ∧ r = if z = true then 1 else 0) (mB (dC, dI) vwCl (xT cI) (va_A ([(x 16, .inr (3, [.ref (x 17), .ref (x 14), .int (nI ((Dln Rd))), .int (nI ((Dbh Rd))), .int (nI ((Dsa Rd))), .int (Dtk Rd), .int (Dvl Rd)])), (x 17, .inr (2, [.int (Pbo P), .int (Psz P), .ref (x 18), .ref (x 19), .ref (x 20), .int (Pnx P), .int (Ppt P), .int (Pbl P)])), (x 18, .inl (cI, 6, .inl (Pkd P))), (x 19, .inl (cI, 6, .inl (Plg P))), (x 20, .inl (cI, 6, .inl (Pwh P))), (x 14, .inl (cI, 150, .inl Tx))]) sz) (fun u => [(x 16, .inr (3, [.ref (x 17), .ref (x 14), .int (nI ((Dln (u.1)))), .int (nI ((Dbh (u.1)))), .int (nI ((Dsa (u.1)))), .int (Dtk (u.1)), .int (Dvl (u.1))])), (x 17, .inr (2, [.int (Pbo (u.2)), .int (Psz (u.2)), .ref (x 18), .ref (x 19), .ref (x 20), .int (Pnx (u.2)), .int (Ppt (u.2)), .int (Pbl (u.2))])), (x 18, .inl (cI, 6, .inl (Pkd (u.2)))), (x 19, .inl (cI, 6, .inl (Plg (u.2)))), (x 20, .inl (cI, 6, .inl (Pwh (u.2)))), (x 14, .inl (cI, 150, .inl Tx))])) (va_A ([(x 16, .inr (3, [.ref (x 17), .ref (x 14), .int (nI ((Dln Rd))), .int (nI ((Dbh Rd))), .int (nI ((Dsa Rd))), .int (Dtk Rd), .int (Dvl Rd)])), (x 17, .inr (2, [.int (Pbo P), .int (Psz P), .ref (x 18), .ref (x 19), .ref (x 20), .int (Pnx P), .int (Ppt P), .int (Pbl P)])), (x 18, .inl (cI, 6, .inl (Pkd P))), (x 19, .inl (cI, 6, .inl (Plg P))), (x 20, .inl (cI, 6, .inl (Pwh P))), (x 14, .inl (cI, 150, .inl Tx))]) sz)) 0 0 (va_A ([(x 16, .inr (3, [.ref (x 17), .ref (x 14), .int (nI ((Dln Rd))), .int (nI ((Dbh Rd))), .int (nI ((Dsa Rd))), .int (Dtk Rd), .int (Dvl Rd)])), (x 17, .inr (2, [.int (Pbo P), .int (Psz P), .ref (x 18), .ref (x 19), .ref (x 20), .int (Pnx P), .int (Ppt P), .int (Pbl P)])), (x 18, .inl (cI, 6, .inl (Pkd P))), (x 19, .inl (cI, 6, .inl (Plg P))), (x 20, .inl (cI, 6, .inl (Pwh P))), (x 14, .inl (cI, 150, .inl Tx))]) sz) := by
  refine Met.ofW (cc := cX3_readBatter) (maxL := 2) (ret := (some .boolean)) (by decide) rfl ?_
  intro p e s m args below meth c s₁ B hml hv
  obtain ⟨rfl, hsz, hP, hK, hD0, hN⟩ := hv
  have hx := B.exec
  have hb := B.bytes
  have hr := B.returns
  have hts := atoms_spec (ws := wsX3_readBatter) B.pre
  have hown : s.vm.findClass RX3 = some m.cls := findClass_of_methodNamed B.named
  have hlocks := B.notSynchronized
  subst hsz
  have hD := hD0.self (sz := s.heap.size)
  generalize hAe : va_A ([(x 16, .inr (3, [.ref (x 17), .ref (x 14), .int (nI ((Dln Rd))), .int (nI ((Dbh Rd))), .int (nI ((Dsa Rd))), .int (Dtk Rd), .int (Dvl Rd)])), (x 17, .inr (2, [.int (Pbo P), .int (Psz P), .ref (x 18), .ref (x 19), .ref (x 20), .int (Pnx P), .int (Ppt P), .int (Pbl P)])), (x 18, .inl (cI, 6, .inl (Pkd P))), (x 19, .inl (cI, 6, .inl (Plg P))), (x 20, .inl (cI, 6, .inl (Pwh P))), (x 14, .inl (cI, 150, .inl Tx))]) s.heap.size = A at hD ⊢
  have hA : ∀ q : Nat, s.heap.size ≤ q → A q := fun q h => by rw [← hAe]; exact Or.inr h
  have hS : va_S A s.heap s.heap [] := va_S.rf
  have hin3 : ∀ w ∈ wsX30, w ∈ wsX3_readBatter := by decide +kernel
  have lk12 := hts (.fieldLink RX3 12 "PostRounders$Reader" "play" "LPostRounders$Play;") (by decide +kernel)
  have lk68 := hts (.fieldLink RX3 68 "PostRounders$Reader" "value" "I") (by decide +kernel)
  have hl := lv_entry ([.ref (x 16)]) (n := 2) (Nat.le_of_ble_eq_true rfl)
  rw [lg_entry_eq]
  generalize (lg_sl ([.ref (x 16)]) ++ List.replicate (2 - (lg_sl ([.ref (x 16)])).length) Slot.unset).toArray = ls at hl ⊢
  have hl : lv_has ls 2 [(0, .ref (x 16))] := hl
  obtain ⟨OUT, hO⟩ : ∃ z, z = F_X3_readBatter Rd P Tx := ⟨_, rfl⟩
  have hF := hO
  unfold F_X3_readBatter at hF
  have e_pz := tN_eq pz.1
  have b_pz := pz.2
  refine lv_aload_n hx hb dX3_readBatter_0 rfl (lv_at hl 0 rfl) ?_
  refine lv_iconst (v := nI 0) hx hb dX3_readBatter_1 (by decide) ?_
  refine lv_iconst (v := nI 5) hx hb dX3_readBatter_2 (by decide) ?_
  refine qx_Vi (C := RX3) (As := [.int (nI 0), .int (nI 5)]) (rest := []) (ci := 3) (k0 := 0) (wr := [(x 17, .inr (2, [.int (Pbo P), .int (Psz P), .ref (x 18), .ref (x 19), .ref (x 20), .int (Pnx P), .int (Ppt P), .int (Pbl P)])), (x 18, .inl (cI, 6, .inl (Pkd P))), (x 19, .inl (cI, 6, .inl (Plg P))), (x 20, .inl (cI, 6, .inl (Pwh P))), (x 14, .inl (cI, 150, .inl Tx))]) (ws2 := fun u => [(x 16, .inr (3, [.ref (x 17), .ref (x 14), .int (nI ((Dln Rd))), .int (nI ((Dbh Rd))), .int (nI ((Dsa Rd))), .int (Dtk Rd), .int (Dvl Rd)])), (x 17, .inr (2, [.int (Pbo P), .int (Psz P), .ref (x 18), .ref (x 19), .ref (x 20), .int (Pnx P), .int (Ppt P), .int (Pbl P)])), (x 18, .inl (cI, 6, .inl (Pkd P))), (x 19, .inl (cI, 6, .inl (Plg P))), (x 20, .inl (cI, 6, .inl (Pwh P))), (x 14, .inl (cI, 150, .inl Tx))]) [0] [1, 2, 3, 4, 5] [5, 0, 1, 2, 3, 4] ⟨hx, hb, hml, hown, hts⟩ (c_X3_isNumber l dC dI x cI s.heap.size Rd (nI 0) (nI 5) ) (cwV 2 hts gX3_readBatter_X3_isNumber rfl rfl rfl (by decide +kernel) ⟨Nat.le_of_ble_eq_true rfl, Nat.le_of_ble_eq_true rfl⟩) (hK.sub [0] rfl) hK hP hD hS hA hN rfl rfl (by decide) (by decide) (by decide) (by decide) (fun _ => rfl) rfl rfl rfl rfl hl.1 rfl (Nat.le_of_ble_eq_true rfl) dX3_readBatter_3 ⟨Nat.zero_le _, Nat.zero_le _⟩ (fun r_3 u_3 H locs hw_3 hP hD hS => ?_)
  have hP : va_P (dC, dI) vwCl ([(x 16, .inr (3, [.ref (x 17), .ref (x 14), .int (nI ((Dln Rd))), .int (nI ((Dbh Rd))), .int (nI ((Dsa Rd))), .int (Dtk Rd), .int (Dvl Rd)])), (x 17, .inr (2, [.int (Pbo P), .int (Psz P), .ref (x 18), .ref (x 19), .ref (x 20), .int (Pnx P), .int (Ppt P), .int (Pbl P)])), (x 18, .inl (cI, 6, .inl (Pkd P))), (x 19, .inl (cI, 6, .inl (Plg P))), (x 20, .inl (cI, 6, .inl (Pwh P))), (x 14, .inl (cI, 150, .inl Tx))]) H := hP
  have hD : va_D A ([(x 16, .inr (3, [.ref (x 17), .ref (x 14), .int (nI ((Dln Rd))), .int (nI ((Dbh Rd))), .int (nI ((Dsa Rd))), .int (Dtk Rd), .int (Dvl Rd)])), (x 17, .inr (2, [.int (Pbo P), .int (Psz P), .ref (x 18), .ref (x 19), .ref (x 20), .int (Pnx P), .int (Ppt P), .int (Pbl P)])), (x 18, .inl (cI, 6, .inl (Pkd P))), (x 19, .inl (cI, 6, .inl (Plg P))), (x 20, .inl (cI, 6, .inl (Pwh P))), (x 14, .inl (cI, 150, .inl Tx))]) := hD
  obtain ⟨z_3, hw_3, rfl⟩ := hw_3
  rw [hw_3, let1_mk z_3] at hF
  refine qv_zif_ne (tgt := 11) hx hb dX3_readBatter_6 (by decide) (fun c_6 => ?_) (fun c_6 => ?_)
  · rw [if_pos c_6] at hF
    refine lv_aload_n hx hb dX3_readBatter_11 rfl (lv_at hl 0 rfl) ?_
    refine va_get (D := (dC, dI)) (ci := 3) (v := .int (Dvl Rd)) (C := RX3) (T := TX3) (N := 7) hx hb hts hin3 hown hK hP 0 rfl rfl 6 (by decide) lk68 (fun _ h9 => h9) rfl dX3_readBatter_12 ?_
    refine lv_istore_n (lv' := [(1, .int (Dvl Rd)), (0, .ref (x 16))]) hx hb dX3_readBatter_15 rfl hl (by decide) rfl (fun ls hl => ?_)
    refine lv_aload_n hx hb dX3_readBatter_16 rfl (lv_at hl 1 rfl) ?_
    refine qx_Vv (C := RX3) (As := []) (rest := []) (ci := 3) (k0 := 0) (wr := [(x 17, .inr (2, [.int (Pbo P), .int (Psz P), .ref (x 18), .ref (x 19), .ref (x 20), .int (Pnx P), .int (Ppt P), .int (Pbl P)])), (x 18, .inl (cI, 6, .inl (Pkd P))), (x 19, .inl (cI, 6, .inl (Plg P))), (x 20, .inl (cI, 6, .inl (Pwh P)))]) (ws2 := fun u => [(x 16, .inr (3, [.ref (x 17), .ref (x 14), .int (nI ((Dln u))), .int (nI ((Dbh u))), .int (nI ((Dsa u))), .int (Dtk u), .int (Dvl u)])), (x 17, .inr (2, [.int (Pbo P), .int (Psz P), .ref (x 18), .ref (x 19), .ref (x 20), .int (Pnx P), .int (Ppt P), .int (Pbl P)])), (x 18, .inl (cI, 6, .inl (Pkd P))), (x 19, .inl (cI, 6, .inl (Plg P))), (x 20, .inl (cI, 6, .inl (Pwh P))), (x 14, .inl (cI, 150, .inl Tx))]) [0, 5] [1, 2, 3, 4] [4, 0, 1, 2, 3, 5] ⟨hx, hb, hml, hown, hts⟩ (c_X3_step l dC dI x cI H.size Rd Tx  (by omega) (by omega)) (cwV 0 hts gX3_readBatter_X3_step rfl rfl rfl (by decide +kernel) ⟨Nat.le_of_ble_eq_true rfl, Nat.le_of_ble_eq_true rfl⟩) (hK.sub [0] rfl) hK hP hD hS hA hN rfl rfl (by decide) (by decide) (by decide) (by decide) (fun _ => rfl) rfl rfl rfl rfl hl.1 rfl (Nat.le_of_ble_eq_true rfl) dX3_readBatter_17 ⟨Nat.zero_le _, Nat.zero_le _⟩ (fun u_17 H locs hw_17 hP hD hS => ?_)
    obtain ⟨Rd_17, rfl⟩ : ∃ z, z = u_17 := ⟨_, rfl⟩
    have hP : va_P (dC, dI) vwCl ([(x 16, .inr (3, [.ref (x 17), .ref (x 14), .int (nI ((Dln Rd_17))), .int (nI ((Dbh Rd_17))), .int (nI ((Dsa Rd_17))), .int (Dtk Rd_17), .int (Dvl Rd_17)])), (x 17, .inr (2, [.int (Pbo P), .int (Psz P), .ref (x 18), .ref (x 19), .ref (x 20), .int (Pnx P), .int (Ppt P), .int (Pbl P)])), (x 18, .inl (cI, 6, .inl (Pkd P))), (x 19, .inl (cI, 6, .inl (Plg P))), (x 20, .inl (cI, 6, .inl (Pwh P))), (x 14, .inl (cI, 150, .inl Tx))]) H := hP
    have hD : va_D A ([(x 16, .inr (3, [.ref (x 17), .ref (x 14), .int (nI ((Dln Rd_17))), .int (nI ((Dbh Rd_17))), .int (nI ((Dsa Rd_17))), .int (Dtk Rd_17), .int (Dvl Rd_17)])), (x 17, .inr (2, [.int (Pbo P), .int (Psz P), .ref (x 18), .ref (x 19), .ref (x 20), .int (Pnx P), .int (Ppt P), .int (Pbl P)])), (x 18, .inl (cI, 6, .inl (Pkd P))), (x 19, .inl (cI, 6, .inl (Plg P))), (x 20, .inl (cI, 6, .inl (Pwh P))), (x 14, .inl (cI, 150, .inl Tx))]) := hD
    have w_17 : wD ((Dln Rd)) Rd_17 := step_w hw_17 rfl (show (Dbh Rd) ≤ (Dln Rd) by omega)
    have x_17 : Dln Rd_17 = (Dln Rd) := w_17.1
    have y_17 : Dbh Rd_17 ≤ Dln Rd_17 := w_17.2.1
    have t_17 : Dsa Rd_17 ≤ Dbh Rd_17 := w_17.2.2
    rw [hw_17, let1_mk Rd_17] at hF
    refine lv_aload_n hx hb dX3_readBatter_20 rfl (lv_at hl 1 rfl) ?_
    refine lv_iconst (v := nI 1) hx hb dX3_readBatter_21 (by decide) ?_
    refine lv_iconst (v := nI 5) hx hb dX3_readBatter_22 (by decide) ?_
    refine qx_Vi (C := RX3) (As := [.int (nI 1), .int (nI 5)]) (rest := []) (ci := 3) (k0 := 0) (wr := [(x 17, .inr (2, [.int (Pbo P), .int (Psz P), .ref (x 18), .ref (x 19), .ref (x 20), .int (Pnx P), .int (Ppt P), .int (Pbl P)])), (x 18, .inl (cI, 6, .inl (Pkd P))), (x 19, .inl (cI, 6, .inl (Plg P))), (x 20, .inl (cI, 6, .inl (Pwh P))), (x 14, .inl (cI, 150, .inl Tx))]) (ws2 := fun u => [(x 16, .inr (3, [.ref (x 17), .ref (x 14), .int (nI ((Dln Rd_17))), .int (nI ((Dbh Rd_17))), .int (nI ((Dsa Rd_17))), .int (Dtk Rd_17), .int (Dvl Rd_17)])), (x 17, .inr (2, [.int (Pbo P), .int (Psz P), .ref (x 18), .ref (x 19), .ref (x 20), .int (Pnx P), .int (Ppt P), .int (Pbl P)])), (x 18, .inl (cI, 6, .inl (Pkd P))), (x 19, .inl (cI, 6, .inl (Plg P))), (x 20, .inl (cI, 6, .inl (Pwh P))), (x 14, .inl (cI, 150, .inl Tx))]) [0] [1, 2, 3, 4, 5] [5, 0, 1, 2, 3, 4] ⟨hx, hb, hml, hown, hts⟩ (c_X3_isNumber l dC dI x cI H.size Rd_17 (nI 1) (nI 5) ) (cwV 2 hts gX3_readBatter_X3_isNumber rfl rfl rfl (by decide +kernel) ⟨Nat.le_of_ble_eq_true rfl, Nat.le_of_ble_eq_true rfl⟩) (hK.sub [0] rfl) hK hP hD hS hA hN rfl rfl (by decide) (by decide) (by decide) (by decide) (fun _ => rfl) rfl rfl rfl rfl hl.1 rfl (Nat.le_of_ble_eq_true rfl) dX3_readBatter_23 ⟨Nat.zero_le _, Nat.zero_le _⟩ (fun r_23 u_23 H locs hw_23 hP hD hS => ?_)
    have hP : va_P (dC, dI) vwCl ([(x 16, .inr (3, [.ref (x 17), .ref (x 14), .int (nI ((Dln Rd_17))), .int (nI ((Dbh Rd_17))), .int (nI ((Dsa Rd_17))), .int (Dtk Rd_17), .int (Dvl Rd_17)])), (x 17, .inr (2, [.int (Pbo P), .int (Psz P), .ref (x 18), .ref (x 19), .ref (x 20), .int (Pnx P), .int (Ppt P), .int (Pbl P)])), (x 18, .inl (cI, 6, .inl (Pkd P))), (x 19, .inl (cI, 6, .inl (Plg P))), (x 20, .inl (cI, 6, .inl (Pwh P))), (x 14, .inl (cI, 150, .inl Tx))]) H := hP
    have hD : va_D A ([(x 16, .inr (3, [.ref (x 17), .ref (x 14), .int (nI ((Dln Rd_17))), .int (nI ((Dbh Rd_17))), .int (nI ((Dsa Rd_17))), .int (Dtk Rd_17), .int (Dvl Rd_17)])), (x 17, .inr (2, [.int (Pbo P), .int (Psz P), .ref (x 18), .ref (x 19), .ref (x 20), .int (Pnx P), .int (Ppt P), .int (Pbl P)])), (x 18, .inl (cI, 6, .inl (Pkd P))), (x 19, .inl (cI, 6, .inl (Plg P))), (x 20, .inl (cI, 6, .inl (Pwh P))), (x 14, .inl (cI, 150, .inl Tx))]) := hD
    obtain ⟨z_23, hw_23, rfl⟩ := hw_23
    rw [hw_23, let1_mk z_23] at hF
    refine qv_zif_ne (tgt := 31) hx hb dX3_readBatter_26 (by decide) (fun c_26 => ?_) (fun c_26 => ?_)
    · rw [if_pos c_26] at hF
      refine lv_aload_n hx hb dX3_readBatter_31 rfl (lv_at hl 1 rfl) ?_
      refine va_get (D := (dC, dI)) (ci := 3) (v := .ref (x 17)) (C := RX3) (T := TX3) (N := 7) hx hb hts hin3 hown hK hP 0 rfl rfl 0 (by decide) lk12 (fun _ h9 => h9) rfl dX3_readBatter_32 ?_
      refine lv_iload_n hx hb dX3_readBatter_35 rfl (lv_at hl 0 rfl) ?_
      refine lv_aload_n hx hb dX3_readBatter_36 rfl (lv_at hl 1 rfl) ?_
      refine va_get (D := (dC, dI)) (ci := 3) (v := .int (Dvl Rd_17)) (C := RX3) (T := TX3) (N := 7) hx hb hts hin3 hown hK hP 0 rfl rfl 6 (by decide) lk68 (fun _ h9 => h9) rfl dX3_readBatter_37 ?_
      refine qx_Vi (C := RX2) (As := [.int (Dvl Rd), .int (Dvl Rd_17)]) (rest := []) (ci := 2) (k0 := 1) (wr := [(x 16, .inr (3, [.ref (x 17), .ref (x 14), .int (nI ((Dln Rd_17))), .int (nI ((Dbh Rd_17))), .int (nI ((Dsa Rd_17))), .int (Dtk Rd_17), .int (Dvl Rd_17)])), (x 14, .inl (cI, 150, .inl Tx))]) (ws2 := fun u => [(x 16, .inr (3, [.ref (x 17), .ref (x 14), .int (nI ((Dln Rd_17))), .int (nI ((Dbh Rd_17))), .int (nI ((Dsa Rd_17))), .int (Dtk Rd_17), .int (Dvl Rd_17)])), (x 17, .inr (2, [.int (Pbo u), .int (Psz u), .ref (x 18), .ref (x 19), .ref (x 20), .int (Pnx u), .int (Ppt u), .int (Pbl u)])), (x 18, .inl (cI, 6, .inl (Pkd u))), (x 19, .inl (cI, 6, .inl (Plg u))), (x 20, .inl (cI, 6, .inl (Pwh u))), (x 14, .inl (cI, 150, .inl Tx))]) [1, 2, 3, 4] [0, 5] [0, 2, 3, 4, 5, 1] ⟨hx, hb, hml, hown, hts⟩ (c_X2_join l dC dI (fun i => x (17 + i)) cI H.size P (Dvl Rd) (Dvl Rd_17) (pz : inB (Psz P) 6)) (cwV 2 hts gX3_readBatter_X2_join rfl rfl rfl (by decide +kernel) ⟨Nat.le_of_ble_eq_true rfl, Nat.le_of_ble_eq_true rfl⟩) (hK.sub [0] rfl) hK hP hD hS hA hN rfl rfl (by decide) (by decide) (by decide) (by decide) (fun _ => rfl) rfl rfl rfl rfl hl.1 rfl (Nat.le_of_ble_eq_true rfl) dX3_readBatter_40 ⟨Nat.zero_le _, Nat.zero_le _⟩ (fun r_40 u_40 H locs hw_40 hP hD hS => ?_)
      obtain ⟨P_40, rfl⟩ : ∃ z, z = u_40 := ⟨_, rfl⟩
      have hP : va_P (dC, dI) vwCl ([(x 16, .inr (3, [.ref (x 17), .ref (x 14), .int (nI ((Dln Rd_17))), .int (nI ((Dbh Rd_17))), .int (nI ((Dsa Rd_17))), .int (Dtk Rd_17), .int (Dvl Rd_17)])), (x 17, .inr (2, [.int (Pbo P_40), .int (Psz P_40), .ref (x 18), .ref (x 19), .ref (x 20), .int (Pnx P_40), .int (Ppt P_40), .int (Pbl P_40)])), (x 18, .inl (cI, 6, .inl (Pkd P_40))), (x 19, .inl (cI, 6, .inl (Plg P_40))), (x 20, .inl (cI, 6, .inl (Pwh P_40))), (x 14, .inl (cI, 150, .inl Tx))]) H := hP
      have hD : va_D A ([(x 16, .inr (3, [.ref (x 17), .ref (x 14), .int (nI ((Dln Rd_17))), .int (nI ((Dbh Rd_17))), .int (nI ((Dsa Rd_17))), .int (Dtk Rd_17), .int (Dvl Rd_17)])), (x 17, .inr (2, [.int (Pbo P_40), .int (Psz P_40), .ref (x 18), .ref (x 19), .ref (x 20), .int (Pnx P_40), .int (Ppt P_40), .int (Pbl P_40)])), (x 18, .inl (cI, 6, .inl (Pkd P_40))), (x 19, .inl (cI, 6, .inl (Plg P_40))), (x 20, .inl (cI, 6, .inl (Pwh P_40))), (x 14, .inl (cI, 150, .inl Tx))]) := hD
      have j_40 := join_at hw_40 pz
      rw [hw_40, let2_mk r_40 P_40] at hF
      refine lv_pop hx hb dX3_readBatter_43 rfl ?_
      refine lv_aload_n hx hb dX3_readBatter_44 rfl (lv_at hl 1 rfl) ?_
      refine qx_Vv (C := RX3) (As := []) (rest := []) (ci := 3) (k0 := 0) (wr := [(x 17, .inr (2, [.int (Pbo P_40), .int (Psz P_40), .ref (x 18), .ref (x 19), .ref (x 20), .int (Pnx P_40), .int (Ppt P_40), .int (Pbl P_40)])), (x 18, .inl (cI, 6, .inl (Pkd P_40))), (x 19, .inl (cI, 6, .inl (Plg P_40))), (x 20, .inl (cI, 6, .inl (Pwh P_40)))]) (ws2 := fun u => [(x 16, .inr (3, [.ref (x 17), .ref (x 14), .int (nI ((Dln u))), .int (nI ((Dbh u))), .int (nI ((Dsa u))), .int (Dtk u), .int (Dvl u)])), (x 17, .inr (2, [.int (Pbo P_40), .int (Psz P_40), .ref (x 18), .ref (x 19), .ref (x 20), .int (Pnx P_40), .int (Ppt P_40), .int (Pbl P_40)])), (x 18, .inl (cI, 6, .inl (Pkd P_40))), (x 19, .inl (cI, 6, .inl (Plg P_40))), (x 20, .inl (cI, 6, .inl (Pwh P_40))), (x 14, .inl (cI, 150, .inl Tx))]) [0, 5] [1, 2, 3, 4] [4, 0, 1, 2, 3, 5] ⟨hx, hb, hml, hown, hts⟩ (c_X3_step l dC dI x cI H.size Rd_17 Tx  (by omega) (by omega)) (cwV 0 hts gX3_readBatter_X3_step rfl rfl rfl (by decide +kernel) ⟨Nat.le_of_ble_eq_true rfl, Nat.le_of_ble_eq_true rfl⟩) (hK.sub [0] rfl) hK hP hD hS hA hN rfl rfl (by decide) (by decide) (by decide) (by decide) (fun _ => rfl) rfl rfl rfl rfl hl.1 rfl (Nat.le_of_ble_eq_true rfl) dX3_readBatter_45 ⟨Nat.zero_le _, Nat.zero_le _⟩ (fun u_45 H locs hw_45 hP hD hS => ?_)
      obtain ⟨Rd_45, rfl⟩ : ∃ z, z = u_45 := ⟨_, rfl⟩
      have hP : va_P (dC, dI) vwCl ([(x 16, .inr (3, [.ref (x 17), .ref (x 14), .int (nI ((Dln Rd_45))), .int (nI ((Dbh Rd_45))), .int (nI ((Dsa Rd_45))), .int (Dtk Rd_45), .int (Dvl Rd_45)])), (x 17, .inr (2, [.int (Pbo P_40), .int (Psz P_40), .ref (x 18), .ref (x 19), .ref (x 20), .int (Pnx P_40), .int (Ppt P_40), .int (Pbl P_40)])), (x 18, .inl (cI, 6, .inl (Pkd P_40))), (x 19, .inl (cI, 6, .inl (Plg P_40))), (x 20, .inl (cI, 6, .inl (Pwh P_40))), (x 14, .inl (cI, 150, .inl Tx))]) H := hP
      have hD : va_D A ([(x 16, .inr (3, [.ref (x 17), .ref (x 14), .int (nI ((Dln Rd_45))), .int (nI ((Dbh Rd_45))), .int (nI ((Dsa Rd_45))), .int (Dtk Rd_45), .int (Dvl Rd_45)])), (x 17, .inr (2, [.int (Pbo P_40), .int (Psz P_40), .ref (x 18), .ref (x 19), .ref (x 20), .int (Pnx P_40), .int (Ppt P_40), .int (Pbl P_40)])), (x 18, .inl (cI, 6, .inl (Pkd P_40))), (x 19, .inl (cI, 6, .inl (Plg P_40))), (x 20, .inl (cI, 6, .inl (Pwh P_40))), (x 14, .inl (cI, 150, .inl Tx))]) := hD
      have w_45 : wD ((Dln Rd_17)) Rd_45 := step_w hw_45 rfl (show (Dbh Rd_17) ≤ (Dln Rd_17) by omega)
      have x_45 : Dln Rd_45 = (Dln Rd_17) := w_45.1
      have y_45 : Dbh Rd_45 ≤ Dln Rd_45 := w_45.2.1
      have t_45 : Dsa Rd_45 ≤ Dbh Rd_45 := w_45.2.2
      rw [hw_45, let1_mk Rd_45] at hF
      refine lv_iconst (v := nI 1) hx hb dX3_readBatter_48 (by decide) ?_
      have hP9 : va_P (dC, dI) vwCl ([(x 16, .inr (3, [.ref (x 17), .ref (x 14), .int (nI ((Dln Rd_45))), .int (nI ((Dbh Rd_45))), .int (nI ((Dsa Rd_45))), .int (Dtk Rd_45), .int (Dvl Rd_45)])), (x 17, .inr (2, [.int (Pbo P_40), .int (Psz P_40), .ref (x 18), .ref (x 19), .ref (x 20), .int (Pnx P_40), .int (Ppt P_40), .int (Pbl P_40)])), (x 18, .inl (cI, 6, .inl (Pkd P_40))), (x 19, .inl (cI, 6, .inl (Plg P_40))), (x 20, .inl (cI, 6, .inl (Pwh P_40))), (x 14, .inl (cI, 150, .inl Tx))]) H := hP
      exact W.zret (v := nI 1) hx hb hr (by rfl) (fun t ht hW => ⟨⟨_, ((Rd_45, P_40)), rfl, ⟨true, hO.symm.trans hF, rfl⟩, by rw [ht]; exact hP9, va_K.moved hW.alike hK, hD⟩, hS.F ht⟩) hS.2.2 dX3_readBatter_49
    · rw [if_neg c_26] at hF
      refine lv_iconst (v := nI 0) hx hb dX3_readBatter_29 (by decide) ?_
      have hP9 : va_P (dC, dI) vwCl ([(x 16, .inr (3, [.ref (x 17), .ref (x 14), .int (nI ((Dln Rd_17))), .int (nI ((Dbh Rd_17))), .int (nI ((Dsa Rd_17))), .int (Dtk Rd_17), .int (Dvl Rd_17)])), (x 17, .inr (2, [.int (Pbo P), .int (Psz P), .ref (x 18), .ref (x 19), .ref (x 20), .int (Pnx P), .int (Ppt P), .int (Pbl P)])), (x 18, .inl (cI, 6, .inl (Pkd P))), (x 19, .inl (cI, 6, .inl (Plg P))), (x 20, .inl (cI, 6, .inl (Pwh P))), (x 14, .inl (cI, 150, .inl Tx))]) H := hP
      exact W.zret (v := nI 0) hx hb hr (by rfl) (fun t ht hW => ⟨⟨_, ((Rd_17, P)), rfl, ⟨false, hO.symm.trans hF, rfl⟩, by rw [ht]; exact hP9, va_K.moved hW.alike hK, hD⟩, hS.F ht⟩) hS.2.2 dX3_readBatter_30
  · rw [if_neg c_6] at hF
    refine lv_iconst (v := nI 0) hx hb dX3_readBatter_9 (by decide) ?_
    have hP9 : va_P (dC, dI) vwCl ([(x 16, .inr (3, [.ref (x 17), .ref (x 14), .int (nI ((Dln Rd))), .int (nI ((Dbh Rd))), .int (nI ((Dsa Rd))), .int (Dtk Rd), .int (Dvl Rd)])), (x 17, .inr (2, [.int (Pbo P), .int (Psz P), .ref (x 18), .ref (x 19), .ref (x 20), .int (Pnx P), .int (Ppt P), .int (Pbl P)])), (x 18, .inl (cI, 6, .inl (Pkd P))), (x 19, .inl (cI, 6, .inl (Plg P))), (x 20, .inl (cI, 6, .inl (Pwh P))), (x 14, .inl (cI, 150, .inl Tx))]) H := hP
    exact W.zret (v := nI 0) hx hb hr (by rfl) (fun t ht hW => ⟨⟨_, ((Rd, P)), rfl, ⟨false, hO.symm.trans hF, rfl⟩, by rw [ht]; exact hP9, va_K.moved hW.alike hK, hD⟩, hS.F ht⟩) hS.2.2 dX3_readBatter_10
theorem readBatter_w {D D' : dS} {P P' : pS} {L : Nat} {Tx : Nat → Int32} {z : Bool} (e : F_X3_readBatter D P Tx = (z, D', P')) (h : wD L D) (hp : inB (Psz P) 6) : wD L D' ∧ inB (Psz P') 6 := by
  unfold F_X3_readBatter at e
  simp only [let1, let2] at e
  have g := step_w (D := D) (Tx := Tx) (D' := F_X3_step D Tx) rfl h.1 h.2.1
  split at e
  · generalize F_X3_step D Tx = Y at g e
    split at e
    · have q := Prod.mk.inj (Prod.mk.inj e).2
      rw [← q.1, ← q.2]; exact ⟨step_w rfl g.1 g.2.1, (join_at (P := P) (r := (F_X2_join P (Dvl D) (Dvl Y)).1) (P' := (F_X2_join P (Dvl D) (Dvl Y)).2) rfl hp).1⟩
    · have q := Prod.mk.inj (Prod.mk.inj e).2
      rw [← q.1, ← q.2]; exact ⟨g, hp⟩
  · have q := Prod.mk.inj (Prod.mk.inj e).2
    rw [← q.1, ← q.2]; exact ⟨h, hp⟩
def F_X3_readHits_L2 : Nat → (Nat → Int32) → (Nat) → (dS) → (pS) → (Nat) × (dS) × (pS)
  | 0, _, fo, D1, P1 => (fo, D1, P1)
  | n_2 + 1, Tx, fo, D1, P1 => if 9 ≤ fo then (fo, D1, P1) else let1 (F_X2_isDone P1) (fun z_12 => if z_12 = true then (fo, D1, P1) else let1 (F_X3_isNumber D1 (nI 0) (nI 9)) (fun z_22 => if z_22 = true then let2 (F_X2_ball P1 (Dvl D1)) (fun r_36 P_36 => let1 (F_X3_step D1 Tx) (fun Rd_44 => F_X3_readHits_L2 n_2 Tx (fo + 1) Rd_44 P_36)) else (fo, D1, P1)))
def F_X3_readHits (Rd : dS) (P : pS) (Tx : Nat → Int32) : Bool × (dS) × (pS) := let3 (F_X3_readHits_L2 10 Tx 0 Rd P) (fun fo D1 P1 => if (nI fo) ≤ 0 then (false, D1, P1) else (true, D1, P1))
set_option maxHeartbeats 4000000 in
set_option maxRecDepth 100000 in
theorem c_X3_readHits (l : Launch) (dC : Nat → ClassId) (dI : Nat → Nat → Nat) (x : Nat → Nat) (cI : ClassId) (sz : Nat) (Rd : dS) (P : pS) (Tx : Nat → Int32) (hL : Dln Rd ≤ 150) (hB : Dbh Rd ≤ Dln Rd) (hS0 : Dsa Rd ≤ Dbh Rd) (pz : inB (Psz P) 6) : Met l yX3_readHits wsX3_readHits { frames := 4, cells := 0, slots := 0, locals := 88 } (xPc (dC, dI) vwCl (xT cI) ([(x 16, .inr (3, [.ref (x 17), .ref (x 14), .int (nI ((Dln Rd))), .int (nI ((Dbh Rd))), .int (nI ((Dsa Rd))), .int (Dtk Rd), .int (Dvl Rd)])), (x 17, .inr (2, [.int (Pbo P), .int (Psz P), .ref (x 18), .ref (x 19), .ref (x 20), .int (Pnx P), .int (Ppt P), .int (Pbl P)])), (x 18, .inl (cI, 6, .inl (Pkd P))), (x 19, .inl (cI, 6, .inl (Plg P))), (x 20, .inl (cI, 6, .inl (Pwh P))), (x 14, .inl (cI, 150, .inl Tx))]) sz [.ref (x 16)]) (va_Qi (fun (r : Int32) (u : (dS) × (pS)) => ∃ z : Bool, F_X3_readHits Rd P Tx = (z, u) ∧ r = if z = true then 1 else 0) (mB (dC, dI) vwCl (xT cI) (va_A ([(x 16, .inr (3, [.ref (x 17), .ref (x 14), .int (nI ((Dln Rd))), .int (nI ((Dbh Rd))), .int (nI ((Dsa Rd))), .int (Dtk Rd), .int (Dvl Rd)])), (x 17, .inr (2, [.int (Pbo P), .int (Psz P), .ref (x 18), .ref (x 19), .ref (x 20), .int (Pnx P), .int (Ppt P), .int (Pbl P)])), (x 18, .inl (cI, 6, .inl (Pkd P))), (x 19, .inl (cI, 6, .inl (Plg P))), (x 20, .inl (cI, 6, .inl (Pwh P))), (x 14, .inl (cI, 150, .inl Tx))]) sz) (fun u => [(x 16, .inr (3, [.ref (x 17), .ref (x 14), .int (nI ((Dln (u.1)))), .int (nI ((Dbh (u.1)))), .int (nI ((Dsa (u.1)))), .int (Dtk (u.1)), .int (Dvl (u.1))])), (x 17, .inr (2, [.int (Pbo (u.2)), .int (Psz (u.2)), .ref (x 18), .ref (x 19), .ref (x 20), .int (Pnx (u.2)), .int (Ppt (u.2)), .int (Pbl (u.2))])), (x 18, .inl (cI, 6, .inl (Pkd (u.2)))), (x 19, .inl (cI, 6, .inl (Plg (u.2)))), (x 20, .inl (cI, 6, .inl (Pwh (u.2)))), (x 14, .inl (cI, 150, .inl Tx))])) (va_A ([(x 16, .inr (3, [.ref (x 17), .ref (x 14), .int (nI ((Dln Rd))), .int (nI ((Dbh Rd))), .int (nI ((Dsa Rd))), .int (Dtk Rd), .int (Dvl Rd)])), (x 17, .inr (2, [.int (Pbo P), .int (Psz P), .ref (x 18), .ref (x 19), .ref (x 20), .int (Pnx P), .int (Ppt P), .int (Pbl P)])), (x 18, .inl (cI, 6, .inl (Pkd P))), (x 19, .inl (cI, 6, .inl (Plg P))), (x 20, .inl (cI, 6, .inl (Pwh P))), (x 14, .inl (cI, 150, .inl Tx))]) sz)) 0 0 (va_A ([(x 16, .inr (3, [.ref (x 17), .ref (x 14), .int (nI ((Dln Rd))), .int (nI ((Dbh Rd))), .int (nI ((Dsa Rd))), .int (Dtk Rd), .int (Dvl Rd)])), (x 17, .inr (2, [.int (Pbo P), .int (Psz P), .ref (x 18), .ref (x 19), .ref (x 20), .int (Pnx P), .int (Ppt P), .int (Pbl P)])), (x 18, .inl (cI, 6, .inl (Pkd P))), (x 19, .inl (cI, 6, .inl (Plg P))), (x 20, .inl (cI, 6, .inl (Pwh P))), (x 14, .inl (cI, 150, .inl Tx))]) sz) := by
  refine Met.ofW (cc := cX3_readHits) (maxL := 2) (ret := (some .boolean)) (by decide) rfl ?_
  intro p e s m args below meth c s₁ B hml hv
  obtain ⟨rfl, hsz, hP, hK, hD0, hN⟩ := hv
  have hx := B.exec
  have hb := B.bytes
  have hr := B.returns
  have hts := atoms_spec (ws := wsX3_readHits) B.pre
  have hown : s.vm.findClass RX3 = some m.cls := findClass_of_methodNamed B.named
  have hlocks := B.notSynchronized
  subst hsz
  have hD := hD0.self (sz := s.heap.size)
  generalize hAe : va_A ([(x 16, .inr (3, [.ref (x 17), .ref (x 14), .int (nI ((Dln Rd))), .int (nI ((Dbh Rd))), .int (nI ((Dsa Rd))), .int (Dtk Rd), .int (Dvl Rd)])), (x 17, .inr (2, [.int (Pbo P), .int (Psz P), .ref (x 18), .ref (x 19), .ref (x 20), .int (Pnx P), .int (Ppt P), .int (Pbl P)])), (x 18, .inl (cI, 6, .inl (Pkd P))), (x 19, .inl (cI, 6, .inl (Plg P))), (x 20, .inl (cI, 6, .inl (Pwh P))), (x 14, .inl (cI, 150, .inl Tx))]) s.heap.size = A at hD ⊢
  have hA : ∀ q : Nat, s.heap.size ≤ q → A q := fun q h => by rw [← hAe]; exact Or.inr h
  have hS : va_S A s.heap s.heap [] := va_S.rf
  have hin3 : ∀ w ∈ wsX30, w ∈ wsX3_readHits := by decide +kernel
  have lk12 := hts (.fieldLink RX3 12 "PostRounders$Reader" "play" "LPostRounders$Play;") (by decide +kernel)
  have lk68 := hts (.fieldLink RX3 68 "PostRounders$Reader" "value" "I") (by decide +kernel)
  have hl := lv_entry ([.ref (x 16)]) (n := 2) (Nat.le_of_ble_eq_true rfl)
  rw [lg_entry_eq]
  generalize (lg_sl ([.ref (x 16)]) ++ List.replicate (2 - (lg_sl ([.ref (x 16)])).length) Slot.unset).toArray = ls at hl ⊢
  have hl : lv_has ls 2 [(0, .ref (x 16))] := hl
  obtain ⟨OUT, hO⟩ : ∃ z, z = F_X3_readHits Rd P Tx := ⟨_, rfl⟩
  have hF := hO
  unfold F_X3_readHits at hF
  have e_pz := tN_eq pz.1
  have b_pz := pz.2
  refine lv_iconst (v := nI 0) hx hb dX3_readHits_0 (by decide) ?_
  refine lv_istore_n (lv' := [(1, .int (nI 0)), (0, .ref (x 16))]) hx hb dX3_readHits_1 rfl hl (by decide) rfl (fun ls hl => ?_)
  have L_2 : ∀ (n_2 : Nat) (fo : Nat) (D1 : dS) (P1 : pS) (H : Heap) (locs : List Loc), fo ≤ 9 → Dln D1 ≤ 150 → Dbh D1 ≤ Dln D1 → Dsa D1 ≤ Dbh D1 → inB (Psz P1) 6 → 9 - fo < n_2 → va_P (dC, dI) vwCl ([(x 16, .inr (3, [.ref (x 17), .ref (x 14), .int (nI ((Dln D1))), .int (nI ((Dbh D1))), .int (nI ((Dsa D1))), .int (Dtk D1), .int (Dvl D1)])), (x 17, .inr (2, [.int (Pbo P1), .int (Psz P1), .ref (x 18), .ref (x 19), .ref (x 20), .int (Pnx P1), .int (Ppt P1), .int (Pbl P1)])), (x 18, .inl (cI, 6, .inl (Pkd P1))), (x 19, .inl (cI, 6, .inl (Plg P1))), (x 20, .inl (cI, 6, .inl (Pwh P1))), (x 14, .inl (cI, 150, .inl Tx))]) H → va_D A ([(x 16, .inr (3, [.ref (x 17), .ref (x 14), .int (nI ((Dln D1))), .int (nI ((Dbh D1))), .int (nI ((Dsa D1))), .int (Dtk D1), .int (Dvl D1)])), (x 17, .inr (2, [.int (Pbo P1), .int (Psz P1), .ref (x 18), .ref (x 19), .ref (x 20), .int (Pnx P1), .int (Ppt P1), .int (Pbl P1)])), (x 18, .inl (cI, 6, .inl (Pkd P1))), (x 19, .inl (cI, 6, .inl (Plg P1))), (x 20, .inl (cI, 6, .inl (Pwh P1))), (x 14, .inl (cI, 150, .inl Tx))]) → va_S A s.heap H locs → ∀ (ls : Array Slot), lv_has ls 2 [(1, .int (nI fo)), (0, .ref (x 16))] → OUT = let3 (F_X3_readHits_L2 n_2 Tx fo D1 P1) (fun fo D1 P1 => if (nI fo) ≤ 0 then (false, D1, P1) else (true, D1, P1)) → W p l e (headSpec wsX3_readHits { frames := 4, cells := 0, slots := 0, locals := 88 }).room s m ([.ref (x 16)] : List Value).toArray below meth c H locs 0 0 (MQ below (va_Qi (fun (r : Int32) (u : (dS) × (pS)) => ∃ z : Bool, F_X3_readHits Rd P Tx = (z, u) ∧ r = if z = true then 1 else 0) (mB (dC, dI) vwCl (xT cI) A (fun u => [(x 16, .inr (3, [.ref (x 17), .ref (x 14), .int (nI ((Dln (u.1)))), .int (nI ((Dbh (u.1)))), .int (nI ((Dsa (u.1)))), .int (Dtk (u.1)), .int (Dvl (u.1))])), (x 17, .inr (2, [.int (Pbo (u.2)), .int (Psz (u.2)), .ref (x 18), .ref (x 19), .ref (x 20), .int (Pnx (u.2)), .int (Ppt (u.2)), .int (Pbl (u.2))])), (x 18, .inl (cI, 6, .inl (Pkd (u.2)))), (x 19, .inl (cI, 6, .inl (Plg (u.2)))), (x 20, .inl (cI, 6, .inl (Pwh (u.2)))), (x 14, .inl (cI, 150, .inl Tx))])) A) ([.ref (x 16)] : List Value).toArray s 0 0 A) (F0 m 2 ls []) := by
    intro n_2
    induction n_2 with
    | zero => intro fo D1 P1 H locs i0 i1 i2 i3 i4 hmu; exact absurd hmu (Nat.not_lt_zero _)
    | succ n_2 ih_2 =>
      intro fo D1 P1 H locs i0 i1 i2 i3 i4 hmu_2 hP hD hS ls hl hF
      rw [F_X3_readHits_L2] at hF
      refine lv_iload_n hx hb dX3_readHits_2 rfl (lv_at hl 0 rfl) ?_
      refine lv_bipush (v := nI 9) hx hb dX3_readHits_3 (by decide) ?_
      refine qv_icmp_ge (tgt := 50) hx hb dX3_readHits_5 (by decide) (by omega) (by omega) (fun c_5 => ?_) (fun c_5 => ?_)
      · rw [if_pos c_5] at hF
        rw [let3_mk (fo : Nat) (D1 : dS) (P1 : pS)] at hF
        refine lv_iload_n hx hb dX3_readHits_50 rfl (lv_at hl 0 rfl) ?_
        refine lv_if_le (tgt := 58) hx hb dX3_readHits_51 (by decide) (fun c_51 => ?_) (fun c_51 => ?_)
        · rw [if_pos c_51] at hF
          refine lv_iconst (v := nI 0) hx hb dX3_readHits_58 (by decide) ?_
          have hP9 : va_P (dC, dI) vwCl ([(x 16, .inr (3, [.ref (x 17), .ref (x 14), .int (nI ((Dln D1))), .int (nI ((Dbh D1))), .int (nI ((Dsa D1))), .int (Dtk D1), .int (Dvl D1)])), (x 17, .inr (2, [.int (Pbo P1), .int (Psz P1), .ref (x 18), .ref (x 19), .ref (x 20), .int (Pnx P1), .int (Ppt P1), .int (Pbl P1)])), (x 18, .inl (cI, 6, .inl (Pkd P1))), (x 19, .inl (cI, 6, .inl (Plg P1))), (x 20, .inl (cI, 6, .inl (Pwh P1))), (x 14, .inl (cI, 150, .inl Tx))]) H := hP
          exact W.zret (v := nI 0) hx hb hr (by rfl) (fun t ht hW => ⟨⟨_, ((D1, P1)), rfl, ⟨false, hO.symm.trans hF, rfl⟩, by rw [ht]; exact hP9, va_K.moved hW.alike hK, hD⟩, hS.F ht⟩) hS.2.2 dX3_readHits_59
        · rw [if_neg c_51] at hF
          refine lv_iconst (v := nI 1) hx hb dX3_readHits_54 (by decide) ?_
          refine lv_goto (tgt := 59) hx hb dX3_readHits_55 (by decide) ?_
          have hP9 : va_P (dC, dI) vwCl ([(x 16, .inr (3, [.ref (x 17), .ref (x 14), .int (nI ((Dln D1))), .int (nI ((Dbh D1))), .int (nI ((Dsa D1))), .int (Dtk D1), .int (Dvl D1)])), (x 17, .inr (2, [.int (Pbo P1), .int (Psz P1), .ref (x 18), .ref (x 19), .ref (x 20), .int (Pnx P1), .int (Ppt P1), .int (Pbl P1)])), (x 18, .inl (cI, 6, .inl (Pkd P1))), (x 19, .inl (cI, 6, .inl (Plg P1))), (x 20, .inl (cI, 6, .inl (Pwh P1))), (x 14, .inl (cI, 150, .inl Tx))]) H := hP
          exact W.zret (v := nI 1) hx hb hr (by rfl) (fun t ht hW => ⟨⟨_, ((D1, P1)), rfl, ⟨true, hO.symm.trans hF, rfl⟩, by rw [ht]; exact hP9, va_K.moved hW.alike hK, hD⟩, hS.F ht⟩) hS.2.2 dX3_readHits_59
      · rw [if_neg c_5] at hF
        refine lv_aload_n hx hb dX3_readHits_8 rfl (lv_at hl 1 rfl) ?_
        refine va_get (D := (dC, dI)) (ci := 3) (v := .ref (x 17)) (C := RX3) (T := TX3) (N := 7) hx hb hts hin3 hown hK hP 0 rfl rfl 0 (by decide) lk12 (fun _ h9 => h9) rfl dX3_readHits_9 ?_
        refine qx_Vi (C := RX2) (As := []) (rest := []) (ci := 2) (k0 := 1) (wr := [(x 16, .inr (3, [.ref (x 17), .ref (x 14), .int (nI ((Dln D1))), .int (nI ((Dbh D1))), .int (nI ((Dsa D1))), .int (Dtk D1), .int (Dvl D1)])), (x 14, .inl (cI, 150, .inl Tx))]) (ws2 := fun u => [(x 16, .inr (3, [.ref (x 17), .ref (x 14), .int (nI ((Dln D1))), .int (nI ((Dbh D1))), .int (nI ((Dsa D1))), .int (Dtk D1), .int (Dvl D1)])), (x 17, .inr (2, [.int (Pbo P1), .int (Psz P1), .ref (x 18), .ref (x 19), .ref (x 20), .int (Pnx P1), .int (Ppt P1), .int (Pbl P1)])), (x 18, .inl (cI, 6, .inl (Pkd P1))), (x 19, .inl (cI, 6, .inl (Plg P1))), (x 20, .inl (cI, 6, .inl (Pwh P1))), (x 14, .inl (cI, 150, .inl Tx))]) [1, 2, 3, 4] [0, 5] [0, 2, 3, 4, 5, 1] ⟨hx, hb, hml, hown, hts⟩ (c_X2_isDone l dC dI (fun i => x (17 + i)) cI H.size P1  ) (cwV 0 hts gX3_readHits_X2_isDone rfl rfl rfl (by decide +kernel) ⟨Nat.le_of_ble_eq_true rfl, Nat.le_of_ble_eq_true rfl⟩) (hK.sub [0] rfl) hK hP hD hS hA hN rfl rfl (by decide) (by decide) (by decide) (by decide) (fun _ => rfl) rfl rfl rfl rfl hl.1 rfl (Nat.le_of_ble_eq_true rfl) dX3_readHits_12 ⟨Nat.zero_le _, Nat.zero_le _⟩ (fun r_12 u_12 H locs hw_12 hP hD hS => ?_)
        have hP : va_P (dC, dI) vwCl ([(x 16, .inr (3, [.ref (x 17), .ref (x 14), .int (nI ((Dln D1))), .int (nI ((Dbh D1))), .int (nI ((Dsa D1))), .int (Dtk D1), .int (Dvl D1)])), (x 17, .inr (2, [.int (Pbo P1), .int (Psz P1), .ref (x 18), .ref (x 19), .ref (x 20), .int (Pnx P1), .int (Ppt P1), .int (Pbl P1)])), (x 18, .inl (cI, 6, .inl (Pkd P1))), (x 19, .inl (cI, 6, .inl (Plg P1))), (x 20, .inl (cI, 6, .inl (Pwh P1))), (x 14, .inl (cI, 150, .inl Tx))]) H := hP
        have hD : va_D A ([(x 16, .inr (3, [.ref (x 17), .ref (x 14), .int (nI ((Dln D1))), .int (nI ((Dbh D1))), .int (nI ((Dsa D1))), .int (Dtk D1), .int (Dvl D1)])), (x 17, .inr (2, [.int (Pbo P1), .int (Psz P1), .ref (x 18), .ref (x 19), .ref (x 20), .int (Pnx P1), .int (Ppt P1), .int (Pbl P1)])), (x 18, .inl (cI, 6, .inl (Pkd P1))), (x 19, .inl (cI, 6, .inl (Plg P1))), (x 20, .inl (cI, 6, .inl (Pwh P1))), (x 14, .inl (cI, 150, .inl Tx))]) := hD
        obtain ⟨z_12, hw_12, rfl⟩ := hw_12
        rw [hw_12, let1_mk z_12] at hF
        refine qv_zif_ne (tgt := 50) hx hb dX3_readHits_15 (by decide) (fun c_15 => ?_) (fun c_15 => ?_)
        · rw [if_pos c_15] at hF
          rw [let3_mk (fo : Nat) (D1 : dS) (P1 : pS)] at hF
          refine lv_iload_n hx hb dX3_readHits_50 rfl (lv_at hl 0 rfl) ?_
          refine lv_if_le (tgt := 58) hx hb dX3_readHits_51 (by decide) (fun c_51 => ?_) (fun c_51 => ?_)
          · rw [if_pos c_51] at hF
            refine lv_iconst (v := nI 0) hx hb dX3_readHits_58 (by decide) ?_
            have hP9 : va_P (dC, dI) vwCl ([(x 16, .inr (3, [.ref (x 17), .ref (x 14), .int (nI ((Dln D1))), .int (nI ((Dbh D1))), .int (nI ((Dsa D1))), .int (Dtk D1), .int (Dvl D1)])), (x 17, .inr (2, [.int (Pbo P1), .int (Psz P1), .ref (x 18), .ref (x 19), .ref (x 20), .int (Pnx P1), .int (Ppt P1), .int (Pbl P1)])), (x 18, .inl (cI, 6, .inl (Pkd P1))), (x 19, .inl (cI, 6, .inl (Plg P1))), (x 20, .inl (cI, 6, .inl (Pwh P1))), (x 14, .inl (cI, 150, .inl Tx))]) H := hP
            exact W.zret (v := nI 0) hx hb hr (by rfl) (fun t ht hW => ⟨⟨_, ((D1, P1)), rfl, ⟨false, hO.symm.trans hF, rfl⟩, by rw [ht]; exact hP9, va_K.moved hW.alike hK, hD⟩, hS.F ht⟩) hS.2.2 dX3_readHits_59
          · rw [if_neg c_51] at hF
            refine lv_iconst (v := nI 1) hx hb dX3_readHits_54 (by decide) ?_
            refine lv_goto (tgt := 59) hx hb dX3_readHits_55 (by decide) ?_
            have hP9 : va_P (dC, dI) vwCl ([(x 16, .inr (3, [.ref (x 17), .ref (x 14), .int (nI ((Dln D1))), .int (nI ((Dbh D1))), .int (nI ((Dsa D1))), .int (Dtk D1), .int (Dvl D1)])), (x 17, .inr (2, [.int (Pbo P1), .int (Psz P1), .ref (x 18), .ref (x 19), .ref (x 20), .int (Pnx P1), .int (Ppt P1), .int (Pbl P1)])), (x 18, .inl (cI, 6, .inl (Pkd P1))), (x 19, .inl (cI, 6, .inl (Plg P1))), (x 20, .inl (cI, 6, .inl (Pwh P1))), (x 14, .inl (cI, 150, .inl Tx))]) H := hP
            exact W.zret (v := nI 1) hx hb hr (by rfl) (fun t ht hW => ⟨⟨_, ((D1, P1)), rfl, ⟨true, hO.symm.trans hF, rfl⟩, by rw [ht]; exact hP9, va_K.moved hW.alike hK, hD⟩, hS.F ht⟩) hS.2.2 dX3_readHits_59
        · rw [if_neg c_15] at hF
          refine lv_aload_n hx hb dX3_readHits_18 rfl (lv_at hl 1 rfl) ?_
          refine lv_iconst (v := nI 0) hx hb dX3_readHits_19 (by decide) ?_
          refine lv_bipush (v := nI 9) hx hb dX3_readHits_20 (by decide) ?_
          refine qx_Vi (C := RX3) (As := [.int (nI 0), .int (nI 9)]) (rest := []) (ci := 3) (k0 := 0) (wr := [(x 17, .inr (2, [.int (Pbo P1), .int (Psz P1), .ref (x 18), .ref (x 19), .ref (x 20), .int (Pnx P1), .int (Ppt P1), .int (Pbl P1)])), (x 18, .inl (cI, 6, .inl (Pkd P1))), (x 19, .inl (cI, 6, .inl (Plg P1))), (x 20, .inl (cI, 6, .inl (Pwh P1))), (x 14, .inl (cI, 150, .inl Tx))]) (ws2 := fun u => [(x 16, .inr (3, [.ref (x 17), .ref (x 14), .int (nI ((Dln D1))), .int (nI ((Dbh D1))), .int (nI ((Dsa D1))), .int (Dtk D1), .int (Dvl D1)])), (x 17, .inr (2, [.int (Pbo P1), .int (Psz P1), .ref (x 18), .ref (x 19), .ref (x 20), .int (Pnx P1), .int (Ppt P1), .int (Pbl P1)])), (x 18, .inl (cI, 6, .inl (Pkd P1))), (x 19, .inl (cI, 6, .inl (Plg P1))), (x 20, .inl (cI, 6, .inl (Pwh P1))), (x 14, .inl (cI, 150, .inl Tx))]) [0] [1, 2, 3, 4, 5] [5, 0, 1, 2, 3, 4] ⟨hx, hb, hml, hown, hts⟩ (c_X3_isNumber l dC dI x cI H.size D1 (nI 0) (nI 9) ) (cwV 2 hts gX3_readHits_X3_isNumber rfl rfl rfl (by decide +kernel) ⟨Nat.le_of_ble_eq_true rfl, Nat.le_of_ble_eq_true rfl⟩) (hK.sub [0] rfl) hK hP hD hS hA hN rfl rfl (by decide) (by decide) (by decide) (by decide) (fun _ => rfl) rfl rfl rfl rfl hl.1 rfl (Nat.le_of_ble_eq_true rfl) dX3_readHits_22 ⟨Nat.zero_le _, Nat.zero_le _⟩ (fun r_22 u_22 H locs hw_22 hP hD hS => ?_)
          have hP : va_P (dC, dI) vwCl ([(x 16, .inr (3, [.ref (x 17), .ref (x 14), .int (nI ((Dln D1))), .int (nI ((Dbh D1))), .int (nI ((Dsa D1))), .int (Dtk D1), .int (Dvl D1)])), (x 17, .inr (2, [.int (Pbo P1), .int (Psz P1), .ref (x 18), .ref (x 19), .ref (x 20), .int (Pnx P1), .int (Ppt P1), .int (Pbl P1)])), (x 18, .inl (cI, 6, .inl (Pkd P1))), (x 19, .inl (cI, 6, .inl (Plg P1))), (x 20, .inl (cI, 6, .inl (Pwh P1))), (x 14, .inl (cI, 150, .inl Tx))]) H := hP
          have hD : va_D A ([(x 16, .inr (3, [.ref (x 17), .ref (x 14), .int (nI ((Dln D1))), .int (nI ((Dbh D1))), .int (nI ((Dsa D1))), .int (Dtk D1), .int (Dvl D1)])), (x 17, .inr (2, [.int (Pbo P1), .int (Psz P1), .ref (x 18), .ref (x 19), .ref (x 20), .int (Pnx P1), .int (Ppt P1), .int (Pbl P1)])), (x 18, .inl (cI, 6, .inl (Pkd P1))), (x 19, .inl (cI, 6, .inl (Plg P1))), (x 20, .inl (cI, 6, .inl (Pwh P1))), (x 14, .inl (cI, 150, .inl Tx))]) := hD
          obtain ⟨z_22, hw_22, rfl⟩ := hw_22
          rw [hw_22, let1_mk z_22] at hF
          refine qv_zif_eq (tgt := 50) hx hb dX3_readHits_25 (by decide) (fun c_25 => ?_) (fun c_25 => ?_)
          · rw [if_neg c_25] at hF
            rw [let3_mk (fo : Nat) (D1 : dS) (P1 : pS)] at hF
            refine lv_iload_n hx hb dX3_readHits_50 rfl (lv_at hl 0 rfl) ?_
            refine lv_if_le (tgt := 58) hx hb dX3_readHits_51 (by decide) (fun c_51 => ?_) (fun c_51 => ?_)
            · rw [if_pos c_51] at hF
              refine lv_iconst (v := nI 0) hx hb dX3_readHits_58 (by decide) ?_
              have hP9 : va_P (dC, dI) vwCl ([(x 16, .inr (3, [.ref (x 17), .ref (x 14), .int (nI ((Dln D1))), .int (nI ((Dbh D1))), .int (nI ((Dsa D1))), .int (Dtk D1), .int (Dvl D1)])), (x 17, .inr (2, [.int (Pbo P1), .int (Psz P1), .ref (x 18), .ref (x 19), .ref (x 20), .int (Pnx P1), .int (Ppt P1), .int (Pbl P1)])), (x 18, .inl (cI, 6, .inl (Pkd P1))), (x 19, .inl (cI, 6, .inl (Plg P1))), (x 20, .inl (cI, 6, .inl (Pwh P1))), (x 14, .inl (cI, 150, .inl Tx))]) H := hP
              exact W.zret (v := nI 0) hx hb hr (by rfl) (fun t ht hW => ⟨⟨_, ((D1, P1)), rfl, ⟨false, hO.symm.trans hF, rfl⟩, by rw [ht]; exact hP9, va_K.moved hW.alike hK, hD⟩, hS.F ht⟩) hS.2.2 dX3_readHits_59
            · rw [if_neg c_51] at hF
              refine lv_iconst (v := nI 1) hx hb dX3_readHits_54 (by decide) ?_
              refine lv_goto (tgt := 59) hx hb dX3_readHits_55 (by decide) ?_
              have hP9 : va_P (dC, dI) vwCl ([(x 16, .inr (3, [.ref (x 17), .ref (x 14), .int (nI ((Dln D1))), .int (nI ((Dbh D1))), .int (nI ((Dsa D1))), .int (Dtk D1), .int (Dvl D1)])), (x 17, .inr (2, [.int (Pbo P1), .int (Psz P1), .ref (x 18), .ref (x 19), .ref (x 20), .int (Pnx P1), .int (Ppt P1), .int (Pbl P1)])), (x 18, .inl (cI, 6, .inl (Pkd P1))), (x 19, .inl (cI, 6, .inl (Plg P1))), (x 20, .inl (cI, 6, .inl (Pwh P1))), (x 14, .inl (cI, 150, .inl Tx))]) H := hP
              exact W.zret (v := nI 1) hx hb hr (by rfl) (fun t ht hW => ⟨⟨_, ((D1, P1)), rfl, ⟨true, hO.symm.trans hF, rfl⟩, by rw [ht]; exact hP9, va_K.moved hW.alike hK, hD⟩, hS.F ht⟩) hS.2.2 dX3_readHits_59
          · rw [if_pos c_25] at hF
            refine lv_aload_n hx hb dX3_readHits_28 rfl (lv_at hl 1 rfl) ?_
            refine va_get (D := (dC, dI)) (ci := 3) (v := .ref (x 17)) (C := RX3) (T := TX3) (N := 7) hx hb hts hin3 hown hK hP 0 rfl rfl 0 (by decide) lk12 (fun _ h9 => h9) rfl dX3_readHits_29 ?_
            refine lv_aload_n hx hb dX3_readHits_32 rfl (lv_at hl 1 rfl) ?_
            refine va_get (D := (dC, dI)) (ci := 3) (v := .int (Dvl D1)) (C := RX3) (T := TX3) (N := 7) hx hb hts hin3 hown hK hP 0 rfl rfl 6 (by decide) lk68 (fun _ h9 => h9) rfl dX3_readHits_33 ?_
            refine qx_Vi (C := RX2) (As := [.int (Dvl D1)]) (rest := []) (ci := 2) (k0 := 1) (wr := [(x 16, .inr (3, [.ref (x 17), .ref (x 14), .int (nI ((Dln D1))), .int (nI ((Dbh D1))), .int (nI ((Dsa D1))), .int (Dtk D1), .int (Dvl D1)])), (x 14, .inl (cI, 150, .inl Tx))]) (ws2 := fun u => [(x 16, .inr (3, [.ref (x 17), .ref (x 14), .int (nI ((Dln D1))), .int (nI ((Dbh D1))), .int (nI ((Dsa D1))), .int (Dtk D1), .int (Dvl D1)])), (x 17, .inr (2, [.int (Pbo u), .int (Psz u), .ref (x 18), .ref (x 19), .ref (x 20), .int (Pnx u), .int (Ppt u), .int (Pbl u)])), (x 18, .inl (cI, 6, .inl (Pkd u))), (x 19, .inl (cI, 6, .inl (Plg u))), (x 20, .inl (cI, 6, .inl (Pwh u))), (x 14, .inl (cI, 150, .inl Tx))]) [1, 2, 3, 4] [0, 5] [0, 2, 3, 4, 5, 1] ⟨hx, hb, hml, hown, hts⟩ (c_X2_ball l dC dI (fun i => x (17 + i)) cI H.size P1 (Dvl D1) (i4 : inB (Psz P1) 6)) (cwV 1 hts gX3_readHits_X2_ball rfl rfl rfl (by decide +kernel) ⟨Nat.le_of_ble_eq_true rfl, Nat.le_of_ble_eq_true rfl⟩) (hK.sub [0] rfl) hK hP hD hS hA hN rfl rfl (by decide) (by decide) (by decide) (by decide) (fun _ => rfl) rfl rfl rfl rfl hl.1 rfl (Nat.le_of_ble_eq_true rfl) dX3_readHits_36 ⟨Nat.zero_le _, Nat.zero_le _⟩ (fun r_36 u_36 H locs hw_36 hP hD hS => ?_)
            obtain ⟨P_36, rfl⟩ : ∃ z, z = u_36 := ⟨_, rfl⟩
            have hP : va_P (dC, dI) vwCl ([(x 16, .inr (3, [.ref (x 17), .ref (x 14), .int (nI ((Dln D1))), .int (nI ((Dbh D1))), .int (nI ((Dsa D1))), .int (Dtk D1), .int (Dvl D1)])), (x 17, .inr (2, [.int (Pbo P_36), .int (Psz P_36), .ref (x 18), .ref (x 19), .ref (x 20), .int (Pnx P_36), .int (Ppt P_36), .int (Pbl P_36)])), (x 18, .inl (cI, 6, .inl (Pkd P_36))), (x 19, .inl (cI, 6, .inl (Plg P_36))), (x 20, .inl (cI, 6, .inl (Pwh P_36))), (x 14, .inl (cI, 150, .inl Tx))]) H := hP
            have hD : va_D A ([(x 16, .inr (3, [.ref (x 17), .ref (x 14), .int (nI ((Dln D1))), .int (nI ((Dbh D1))), .int (nI ((Dsa D1))), .int (Dtk D1), .int (Dvl D1)])), (x 17, .inr (2, [.int (Pbo P_36), .int (Psz P_36), .ref (x 18), .ref (x 19), .ref (x 20), .int (Pnx P_36), .int (Ppt P_36), .int (Pbl P_36)])), (x 18, .inl (cI, 6, .inl (Pkd P_36))), (x 19, .inl (cI, 6, .inl (Plg P_36))), (x 20, .inl (cI, 6, .inl (Pwh P_36))), (x 14, .inl (cI, 150, .inl Tx))]) := hD
            have a_36 := ball_at hw_36
            rw [hw_36, let2_mk r_36 P_36] at hF
            refine lv_pop hx hb dX3_readHits_39 rfl ?_
            refine lv_iinc (v := nI (fo + 1)) (lv' := [(1, .int (nI (fo + 1))), (0, .ref (x 16))]) hx hb dX3_readHits_40 hl (k := 0) rfl (qn_inc (c := 1) rfl (by omega)) (by decide) rfl (fun ls hl => ?_)
            refine lv_aload_n hx hb dX3_readHits_43 rfl (lv_at hl 1 rfl) ?_
            refine qx_Vv (C := RX3) (As := []) (rest := []) (ci := 3) (k0 := 0) (wr := [(x 17, .inr (2, [.int (Pbo P_36), .int (Psz P_36), .ref (x 18), .ref (x 19), .ref (x 20), .int (Pnx P_36), .int (Ppt P_36), .int (Pbl P_36)])), (x 18, .inl (cI, 6, .inl (Pkd P_36))), (x 19, .inl (cI, 6, .inl (Plg P_36))), (x 20, .inl (cI, 6, .inl (Pwh P_36)))]) (ws2 := fun u => [(x 16, .inr (3, [.ref (x 17), .ref (x 14), .int (nI ((Dln u))), .int (nI ((Dbh u))), .int (nI ((Dsa u))), .int (Dtk u), .int (Dvl u)])), (x 17, .inr (2, [.int (Pbo P_36), .int (Psz P_36), .ref (x 18), .ref (x 19), .ref (x 20), .int (Pnx P_36), .int (Ppt P_36), .int (Pbl P_36)])), (x 18, .inl (cI, 6, .inl (Pkd P_36))), (x 19, .inl (cI, 6, .inl (Plg P_36))), (x 20, .inl (cI, 6, .inl (Pwh P_36))), (x 14, .inl (cI, 150, .inl Tx))]) [0, 5] [1, 2, 3, 4] [4, 0, 1, 2, 3, 5] ⟨hx, hb, hml, hown, hts⟩ (c_X3_step l dC dI x cI H.size D1 Tx  (by omega) (by omega)) (cwV 0 hts gX3_readHits_X3_step rfl rfl rfl (by decide +kernel) ⟨Nat.le_of_ble_eq_true rfl, Nat.le_of_ble_eq_true rfl⟩) (hK.sub [0] rfl) hK hP hD hS hA hN rfl rfl (by decide) (by decide) (by decide) (by decide) (fun _ => rfl) rfl rfl rfl rfl hl.1 rfl (Nat.le_of_ble_eq_true rfl) dX3_readHits_44 ⟨Nat.zero_le _, Nat.zero_le _⟩ (fun u_44 H locs hw_44 hP hD hS => ?_)
            obtain ⟨Rd_44, rfl⟩ : ∃ z, z = u_44 := ⟨_, rfl⟩
            have hP : va_P (dC, dI) vwCl ([(x 16, .inr (3, [.ref (x 17), .ref (x 14), .int (nI ((Dln Rd_44))), .int (nI ((Dbh Rd_44))), .int (nI ((Dsa Rd_44))), .int (Dtk Rd_44), .int (Dvl Rd_44)])), (x 17, .inr (2, [.int (Pbo P_36), .int (Psz P_36), .ref (x 18), .ref (x 19), .ref (x 20), .int (Pnx P_36), .int (Ppt P_36), .int (Pbl P_36)])), (x 18, .inl (cI, 6, .inl (Pkd P_36))), (x 19, .inl (cI, 6, .inl (Plg P_36))), (x 20, .inl (cI, 6, .inl (Pwh P_36))), (x 14, .inl (cI, 150, .inl Tx))]) H := hP
            have hD : va_D A ([(x 16, .inr (3, [.ref (x 17), .ref (x 14), .int (nI ((Dln Rd_44))), .int (nI ((Dbh Rd_44))), .int (nI ((Dsa Rd_44))), .int (Dtk Rd_44), .int (Dvl Rd_44)])), (x 17, .inr (2, [.int (Pbo P_36), .int (Psz P_36), .ref (x 18), .ref (x 19), .ref (x 20), .int (Pnx P_36), .int (Ppt P_36), .int (Pbl P_36)])), (x 18, .inl (cI, 6, .inl (Pkd P_36))), (x 19, .inl (cI, 6, .inl (Plg P_36))), (x 20, .inl (cI, 6, .inl (Pwh P_36))), (x 14, .inl (cI, 150, .inl Tx))]) := hD
            have w_44 : wD ((Dln D1)) Rd_44 := step_w hw_44 rfl (show (Dbh D1) ≤ (Dln D1) by omega)
            have x_44 : Dln Rd_44 = (Dln D1) := w_44.1
            have y_44 : Dbh Rd_44 ≤ Dln Rd_44 := w_44.2.1
            have t_44 : Dsa Rd_44 ≤ Dbh Rd_44 := w_44.2.2
            rw [hw_44, let1_mk Rd_44] at hF
            refine lv_goto (tgt := 2) hx hb dX3_readHits_47 (by decide) ?_
            exact ih_2 (fo + 1) Rd_44 P_36 H locs (by omega) (by omega) (by omega) (by omega) (by rw [show Psz P_36 = Psz P1 from a_36]; exact (i4 : inB (Psz P1) 6)) (by omega) hP hD hS ls (lv_sub hl [0, 1] rfl) hF
  exact L_2 10 0 Rd P s.heap [] (by omega) (by omega) (by omega) (by omega) (pz : inB (Psz P) 6) (by omega) hP hD hS ls (lv_sub hl [0, 1] rfl) hF
