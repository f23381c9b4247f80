set_option maxHeartbeats 4000000 in
set_option maxRecDepth 100000 in
theorem lw_case_chance {p : Program} {l : Launch} {e : Env} {s : State} {m : MethodId} {below : List Frame} {meth : Method} {c : Code} {dC : Nat → ClassId} {dI : Nat → Nat → Nat} {x q : Nat → Nat} {b L : Nat} {xs : Nat → Int32} {cI cP cA cF cZ : ClassId} {t fr : Nat} {adK adV : Nat → Nat} (hC : LawC p s m meth c b L xs dC dI cI cP cA cF cZ t fr adK adV) {n i : Nat} (hn : HeadQ p l e s m below meth c dC dI x q b L cI cP cA cF cZ n) (hi : i + 5 ≤ L) (hf : L < i + (n + 1)) {X : xS} {P : pS} {Rw : Nat → Int32} {No : rS} {Ma : rS} {Pa : rS} {fI : Nat → Option Nat} {Tx : Nat → Int32} {Rf : Nat → Int32} {bb : Nat} {Rd : dS} {P3 : pS} {Eb : Nat → Int32} {L0 : pS} {L1 : pS} {L2 : pS} {L3 : pS} {L4 : pS} {W0 : Nat → Int32} {W1 : Nat → Int32} {W2 : Nat → Int32} {W3 : Nat → Int32} {W4 : Nat → Int32} {Cs : Nat → Int32} {Tr : pS} {Tu : Nat → Int32} {Be : Nat → Int32} {Se : Nat → Int32} {Gm : Nat → Nat → Int32} {w : Nat → Int32} {kp : Nat → Int32} {po : Int32} {st : Int32} {nu : Int32} {li : Nat → Int32} {fi : Nat → Int32} {ga : Nat → Int32} {hh : Int64} {im0 im1 : iT} {H : Heap} {locs : List Loc} {ls : Array Slot} (hR : RelL X P Rw No Ma Pa fI Tx w kp im0 im1) (hP : va_P (dC, dI) vwCl ((XW x cI cP cA cF X P Rw No Ma Pa fI Tx Rf bb Rd P3 Eb L0 L1 L2 L3 L4 W0 W1 W2 W3 W4 Cs Tr Tu Be Se Gm ++ mW q cI cZ w kp Tx (Xtl X) (Xab X) (Xbe X) Rf po st nu li fi ga hh) ++ (imC cI im0 ++ imC cI im1)) H) (hD : va_D (lA s) ((XW x cI cP cA cF X P Rw No Ma Pa fI Tx Rf bb Rd P3 Eb L0 L1 L2 L3 L4 W0 W1 W2 W3 W4 Cs Tr Tu Be Se Gm ++ mW q cI cZ w kp Tx (Xtl X) (Xab X) (Xbe X) Rf po st nu li fi ga hh) ++ (imC cI im0 ++ imC cI im1))) (hS : va_S (lA s) s.heap H locs) (hl : lv_has ls 4 [(0, .ref b), (1, .ref (x 0)), (2, .ref (q 0)), (3, .int (nI i))]) : W p l e room_1 s m #[Value.ref b] below meth c H locs (100 + 12 * i) (2000 + 162 * i) (lw_Z below #[Value.ref b] s) (F0 m 555 ls []) := by
  have hC0 := hC
  obtain ⟨hx, hb, hr, hml, hown, hts, hX, hbl, hlocks, hK, hN, hE, hG, hXA, hL⟩ := hC
  have hrm : 100 + 12 * i + 0 ≤ room_1.cells ∧ 2000 + 162 * i + 0 ≤ room_1.slots := ⟨Nat.le_trans (show 100 + 12 * i + 0 ≤ 600000 by omega) (Nat.le_of_ble_eq_true rfl), Nat.le_trans (show 2000 + 162 * i + 0 ≤ 7302250 by omega) (Nat.le_of_ble_eq_true rfl)⟩
  refine lv_aload_n hx hb dL_law_555 rfl (lv_at hl 1 rfl) ?_
  refine lv_aload_n hx hb dL_law_556 rfl (lv_at hl 0 rfl) ?_
  refine lv_iload_n hx hb dL_law_557 rfl (lv_at hl 3 rfl) ?_
  refine lv_iconst (v := nI 1) hx hb dL_law_558 (by decide) ?_
  refine qv_iadd hx hb (i + 1) dL_law_559 rfl ?_
  refine qv_sld hx hb hX hbl hS (k := i + 1) (by omega) hL dL_law_560 ?_
  refine lv_aload_n hx hb dL_law_561 rfl (lv_at hl 0 rfl) ?_
  refine lv_iload_n hx hb dL_law_562 rfl (lv_at hl 3 rfl) ?_
  refine lv_iconst (v := nI 2) hx hb dL_law_563 (by decide) ?_
  refine qv_iadd hx hb (i + 2) dL_law_564 rfl ?_
  refine qv_sld hx hb hX hbl hS (k := i + 2) (by omega) hL dL_law_565 ?_
  have hP := lw_as hP
  have hD := lw_asD hD
  refine lz_i (Y := XW x cI cP cA cF X P Rw No Ma Pa fI Tx Rf bb Rd P3 Eb L0 L1 L2 L3 L4 W0 W1 W2 W3 W4 Cs Tr Tu Be Se Gm) (As := [.int (xs (i + 1)), .int (xs (i + 2))]) (rest := []) (wr := [(x 6, .inl (cI, 8, .inl Rw)), (x 7, .inr (4, [.int (nI 3), .ref (x 8), .int (Rus No)])), (x 8, .inl (cI, 18, .inl (Rce No))), (x 9, .inr (4, [.int (nI 4), .ref (x 10), .int (Rus Ma)])), (x 10, .inl (cI, 24, .inl (Rce Ma))), (x 11, .inr (4, [.int (nI 9), .ref (x 12), .int (Rus Pa)])), (x 12, .inl (cI, 72, .inl (Rce Pa))), (x 13, .inl (cF, 2, .inr (.inr (.inr (.inr fI))))), (x 14, .inl (cI, 150, .inl Tx)), (x 16, .inr (3, [.ref (x 17), .ref bb, .int (nI ((Dln Rd))), .int (nI ((Dbh Rd))), .int (nI ((Dsa Rd))), .int (Dtk Rd), .int (Dvl Rd)])), (x 17, .inr (2, [.int (Pbo P3), .int (Psz P3), .ref (x 18), .ref (x 19), .ref (x 20), .int (Pnx P3), .int (Ppt P3), .int (Pbl P3)])), (x 18, .inl (cI, 6, .inl (Pkd P3))), (x 19, .inl (cI, 6, .inl (Plg P3))), (x 20, .inl (cI, 6, .inl (Pwh P3))), (x 21, .inl (cI, 0, .inl Eb)), (x 45, .inl (cI, 6, .inl W0)), (x 51, .inr (2, [.int (Pbo Tr), .int (Psz Tr), .ref (x 52), .ref (x 53), .ref (x 54), .int (Pnx Tr), .int (Ppt Tr), .int (Pbl Tr)])), (x 52, .inl (cI, 6, .inl (Pkd Tr))), (x 53, .inl (cI, 6, .inl (Plg Tr))), (x 54, .inl (cI, 6, .inl (Pwh Tr))), (x 55, .inl (cI, 6, .inl Tu)), (x 56, .inl (cI, 6, .inl Be)), (x 57, .inl (cI, 6, .inl Se)), (x 58, .inl (cA, 6, .inr (.inr (.inr (.inr (gaF x)))))), (x 59, .inl (cI, 6, .inl (Gm 0))), (x 60, .inl (cI, 6, .inl (Gm 1))), (x 61, .inl (cI, 6, .inl (Gm 2))), (x 62, .inl (cI, 6, .inl (Gm 3))), (x 63, .inl (cI, 6, .inl (Gm 4))), (x 64, .inl (cI, 6, .inl (Gm 5)))]) (w2 := fun u => XW x cI cP cA cF u.1 P Rw No Ma Pa fI Tx u.2.1 bb Rd P3 Eb u.2.2.1 u.2.2.2.1 u.2.2.2.2.1 u.2.2.2.2.2.1 u.2.2.2.2.2.2.1 W0 u.2.2.2.2.2.2.2.1 u.2.2.2.2.2.2.2.2.1 u.2.2.2.2.2.2.2.2.2.1 u.2.2.2.2.2.2.2.2.2.2.1 u.2.2.2.2.2.2.2.2.2.2.2 Tr Tu Be Se Gm) [0, 1, 2, 3, 4, 5, 15, 22, 23, 24, 25, 26, 27, 28, 29, 30, 31, 32, 33, 34, 35, 36, 37, 38, 39, 40, 41, 42, 43, 44, 46, 47, 48, 49, 50] [6, 7, 8, 9, 10, 11, 12, 13, 14, 16, 17, 18, 19, 20, 21, 45, 51, 52, 53, 54, 55, 56, 57, 58, 59, 60, 61, 62, 63, 64] [30, 31, 32, 33, 34, 35, 0, 1, 2, 3, 4, 5, 6, 7, 8, 36, 9, 10, 11, 12, 13, 14, 37, 38, 39, 40, 41, 42, 43, 44, 45, 46, 47, 48, 49, 50, 51, 52, 53, 54, 55, 56, 57, 58, 59, 15, 60, 61, 62, 63, 64, 16, 17, 18, 19, 20, 21, 22, 23, 24, 25, 26, 27, 28, 29] ⟨hx, hb, hml, hown, hts⟩ (c_X5_chance l dC dI x cI cP cA t H.size X P Rf L0 L1 L2 L3 L4 W1 W2 W3 W4 Cs (xs (i + 1)) (xs (i + 2)) (rel_sz hR.1)) (cwV 2 hts gL_law_X5_chance rfl rfl rfl (by decide +kernel) ⟨Nat.le_of_ble_eq_true rfl, Nat.le_of_ble_eq_true rfl⟩) (preE (ci := 5) [0, 1, 2, 3, 4, 5, 15, 22, 23, 24, 25, 26, 27, 28, 29, 30, 31, 32, 33, 34, 35, 36, 37, 38, 39, 40, 41, 42, 43, 44, 46, 47, 48, 49, 50] hP hD hS (fun _ h => h) (by decide) rfl (hK.sub [0, 1, 2] rfl) hN hE rfl rfl rfl) hP hD hS (fun _ h => h) rfl rfl (by decide) (by decide) (by decide) (by decide) (fun _ => rfl) rfl hl.1 rfl (Nat.le_of_ble_eq_true rfl) dL_law_566 hrm (fun r5 u5 H locs h5 hP hD hS => ?_)
  obtain ⟨X_5, Rf_5, L0_5, L1_5, L2_5, L3_5, L4_5, W1_5, W2_5, W3_5, W4_5, Cs_5⟩ := u5
  refine lv_aload_n hx hb dL_law_569 rfl (lv_at hl 2 rfl) ?_
  refine lv_aload_n hx hb dL_law_570 rfl (lv_at hl 0 rfl) ?_
  refine lv_iload_n hx hb dL_law_571 rfl (lv_at hl 3 rfl) ?_
  refine lv_iconst (v := nI 1) hx hb dL_law_572 (by decide) ?_
  refine qv_iadd hx hb (i + 1) dL_law_573 rfl ?_
  refine qv_sld hx hb hX hbl hS (k := i + 1) (by omega) hL dL_law_574 ?_
  refine lv_aload_n hx hb dL_law_575 rfl (lv_at hl 0 rfl) ?_
  refine lv_iload_n hx hb dL_law_576 rfl (lv_at hl 3 rfl) ?_
  refine lv_iconst (v := nI 2) hx hb dL_law_577 (by decide) ?_
  refine qv_iadd hx hb (i + 2) dL_law_578 rfl ?_
  refine qv_sld hx hb hX hbl hS (k := i + 2) (by omega) hL dL_law_579 ?_
  have hP : va_P (dC, dI) vwCl (XW x cI cP cA cF X_5 P Rw No Ma Pa fI Tx Rf_5 bb Rd P3 Eb L0_5 L1_5 L2_5 L3_5 L4_5 W0 W1_5 W2_5 W3_5 W4_5 Cs_5 Tr Tu Be Se Gm ++ (mW q cI cZ w kp Tx (Xtl X) (Xab X) (Xbe X) Rf po st nu li fi ga hh ++ (imC cI im0 ++ imC cI im1))) H := hP
  have hD : va_D (lA s) (XW x cI cP cA cF X_5 P Rw No Ma Pa fI Tx Rf_5 bb Rd P3 Eb L0_5 L1_5 L2_5 L3_5 L4_5 W0 W1_5 W2_5 W3_5 W4_5 Cs_5 Tr Tu Be Se Gm ++ (mW q cI cZ w kp Tx (Xtl X) (Xab X) (Xbe X) Rf po st nu li fi ga hh ++ (imC cI im0 ++ imC cI im1))) := hD
  have hP := lw_m1 (lw_sa hP)
  have hD := lw_m1D (lw_saD hD)
  refine lz_i (Y := mW q cI cZ w kp Tx (Xtl X) (Xab X) (Xbe X) Rf po st nu li fi ga hh) (pl := XW x cI cP cA cF X_5 P Rw No Ma Pa fI Tx Rf_5 bb Rd P3 Eb L0_5 L1_5 L2_5 L3_5 L4_5 W0 W1_5 W2_5 W3_5 W4_5 Cs_5 Tr Tu Be Se Gm ++ (imC cI im0 ++ imC cI im1)) (As := [.int (xs (i + 1)), .int (xs (i + 2))]) (rest := [.int r5]) (wr := []) (w2 := fun u => mW q cI cZ u.1 kp Tx (Xtl X) u.2.1 u.2.2.1 u.2.2.2 po st nu li fi ga hh) [0, 1, 2, 3, 4, 5, 6, 7] [] [0, 1, 2, 3, 4, 5, 6, 7] ⟨hx, hb, hml, hown, hts⟩ (c_X6_chance l dC dI q cI cZ H.size w kp Tx (Xtl X) (Xab X) (Xbe X) Rf po st nu li fi ga hh (xs (i + 1)) (xs (i + 2)) (rel_w0 hR.1).1 (rel_w0 hR.1).2.1) (cwV 2 hts gL_law_X6_chance rfl rfl rfl (by decide +kernel) ⟨Nat.le_of_ble_eq_true rfl, Nat.le_of_ble_eq_true rfl⟩) (preM (ci := 6) [0, 1, 2, 3, 4, 5, 6, 7] hP hD (by decide) rfl (hK.sub [0, 4] rfl) rfl rfl rfl) hP hD hS (fun _ h => h) rfl rfl (by decide) (by decide) (by decide) (by decide) (fun _ => rfl) rfl hl.1 rfl (Nat.le_of_ble_eq_true rfl) dL_law_580 hrm (fun r6 u6 H locs h6 hP hD hS => ?_)
  have hP := lw_m2 hP
  have hD := lw_m2D hD
  obtain ⟨w_6, ab_6, be_6, su_6⟩ := u6
  obtain ⟨u, X2, w2, su2, r, g5, g6, g7, g8⟩ := chance_eq (su := Rf) hR.1 X L0 L1 L2 L3 L4 W1 W2 W3 W4 Cs (xs (i + 1)) (xs (i + 2))
  have E5 := h5.symm.trans g5
  have E6 := h6.symm.trans g6
  cases E5
  cases E6
  rw [← g7] at hP hD
  refine lv_icmp_eq (tgt := 1011) hx hb dL_law_583 (by decide) (fun _ => ?_) (fun z => absurd rfl z)
  exact lw_tail hC0 hn hi hf (by omega) (by omega) (by exact (RelL_keep (X := X_5) ⟨hR.1, by rw [g7]; exact hR.2.1, by rw [g7]; exact hR.2.2.1, hR.2.2.2⟩ g8)) hP hD hS hl
set_option maxHeartbeats 4000000 in
set_option maxRecDepth 100000 in
theorem lw_case_mean {p : Program} {l : Launch} {e : Env} {s : State} {m : MethodId} {below : List Frame} {meth : Method} {c : Code} {dC : Nat → ClassId} {dI : Nat → Nat → Nat} {x q : Nat → Nat} {b L : Nat} {xs : Nat → Int32} {cI cP cA cF cZ : ClassId} {t fr : Nat} {adK adV : Nat → Nat} (hC : LawC p s m meth c b L xs dC dI cI cP cA cF cZ t fr adK adV) {n i : Nat} (hn : HeadQ p l e s m below meth c dC dI x q b L cI cP cA cF cZ n) (hi : i + 5 ≤ L) (hf : L < i + (n + 1)) {X : xS} {P : pS} {Rw : Nat → Int32} {No : rS} {Ma : rS} {Pa : rS} {fI : Nat → Option Nat} {Tx : Nat → Int32} {Rf : Nat → Int32} {bb : Nat} {Rd : dS} {P3 : pS} {Eb : Nat → Int32} {L0 : pS} {L1 : pS} {L2 : pS} {L3 : pS} {L4 : pS} {W0 : Nat → Int32} {W1 : Nat → Int32} {W2 : Nat → Int32} {W3 : Nat → Int32} {W4 : Nat → Int32} {Cs : Nat → Int32} {Tr : pS} {Tu : Nat → Int32} {Be : Nat → Int32} {Se : Nat → Int32} {Gm : Nat → Nat → Int32} {w : Nat → Int32} {kp : Nat → Int32} {po : Int32} {st : Int32} {nu : Int32} {li : Nat → Int32} {fi : Nat → Int32} {ga : Nat → Int32} {hh : Int64} {im0 im1 : iT} {H : Heap} {locs : List Loc} {ls : Array Slot} (hR : RelL X P Rw No Ma Pa fI Tx w kp im0 im1) (hP : va_P (dC, dI) vwCl ((XW x cI cP cA cF X P Rw No Ma Pa fI Tx Rf bb Rd P3 Eb L0 L1 L2 L3 L4 W0 W1 W2 W3 W4 Cs Tr Tu Be Se Gm ++ mW q cI cZ w kp Tx (Xtl X) (Xab X) (Xbe X) Rf po st nu li fi ga hh) ++ (imC cI im0 ++ imC cI im1)) H) (hD : va_D (lA s) ((XW x cI cP cA cF X P Rw No Ma Pa fI Tx Rf bb Rd P3 Eb L0 L1 L2 L3 L4 W0 W1 W2 W3 W4 Cs Tr Tu Be Se Gm ++ mW q cI cZ w kp Tx (Xtl X) (Xab X) (Xbe X) Rf po st nu li fi ga hh) ++ (imC cI im0 ++ imC cI im1))) (hS : va_S (lA s) s.heap H locs) (hl : lv_has ls 4 [(0, .ref b), (1, .ref (x 0)), (2, .ref (q 0)), (3, .int (nI i))]) : W p l e room_1 s m #[Value.ref b] below meth c H locs (100 + 12 * i) (2000 + 162 * i) (lw_Z below #[Value.ref b] s) (F0 m 588 ls []) := by
  have hC0 := hC
  obtain ⟨hx, hb, hr, hml, hown, hts, hX, hbl, hlocks, hK, hN, hE, hG, hXA, hL⟩ := hC
  have hrm : 100 + 12 * i + 0 ≤ room_1.cells ∧ 2000 + 162 * i + 0 ≤ room_1.slots := ⟨Nat.le_trans (show 100 + 12 * i + 0 ≤ 600000 by omega) (Nat.le_of_ble_eq_true rfl), Nat.le_trans (show 2000 + 162 * i + 0 ≤ 7302250 by omega) (Nat.le_of_ble_eq_true rfl)⟩
  refine lv_aload_n hx hb dL_law_588 rfl (lv_at hl 1 rfl) ?_
  refine lv_aload_n hx hb dL_law_589 rfl (lv_at hl 0 rfl) ?_
  refine lv_iload_n hx hb dL_law_590 rfl (lv_at hl 3 rfl) ?_
  refine lv_iconst (v := nI 1) hx hb dL_law_591 (by decide) ?_
  refine qv_iadd hx hb (i + 1) dL_law_592 rfl ?_
  refine qv_sld hx hb hX hbl hS (k := i + 1) (by omega) hL dL_law_593 ?_
  have hP := lw_as hP
  have hD := lw_asD hD
  refine lz_i (Y := XW x cI cP cA cF X P Rw No Ma Pa fI Tx Rf bb Rd P3 Eb L0 L1 L2 L3 L4 W0 W1 W2 W3 W4 Cs Tr Tu Be Se Gm) (As := [.int (xs (i + 1))]) (rest := []) (wr := [(x 6, .inl (cI, 8, .inl Rw)), (x 7, .inr (4, [.int (nI 3), .ref (x 8), .int (Rus No)])), (x 8, .inl (cI, 18, .inl (Rce No))), (x 9, .inr (4, [.int (nI 4), .ref (x 10), .int (Rus Ma)])), (x 10, .inl (cI, 24, .inl (Rce Ma))), (x 11, .inr (4, [.int (nI 9), .ref (x 12), .int (Rus Pa)])), (x 12, .inl (cI, 72, .inl (Rce Pa))), (x 13, .inl (cF, 2, .inr (.inr (.inr (.inr fI))))), (x 14, .inl (cI, 150, .inl Tx)), (x 16, .inr (3, [.ref (x 17), .ref bb, .int (nI ((Dln Rd))), .int (nI ((Dbh Rd))), .int (nI ((Dsa Rd))), .int (Dtk Rd), .int (Dvl Rd)])), (x 17, .inr (2, [.int (Pbo P3), .int (Psz P3), .ref (x 18), .ref (x 19), .ref (x 20), .int (Pnx P3), .int (Ppt P3), .int (Pbl P3)])), (x 18, .inl (cI, 6, .inl (Pkd P3))), (x 19, .inl (cI, 6, .inl (Plg P3))), (x 20, .inl (cI, 6, .inl (Pwh P3))), (x 21, .inl (cI, 0, .inl Eb)), (x 45, .inl (cI, 6, .inl W0)), (x 51, .inr (2, [.int (Pbo Tr), .int (Psz Tr), .ref (x 52), .ref (x 53), .ref (x 54), .int (Pnx Tr), .int (Ppt Tr), .int (Pbl Tr)])), (x 52, .inl (cI, 6, .inl (Pkd Tr))), (x 53, .inl (cI, 6, .inl (Plg Tr))), (x 54, .inl (cI, 6, .inl (Pwh Tr))), (x 55, .inl (cI, 6, .inl Tu)), (x 56, .inl (cI, 6, .inl Be)), (x 57, .inl (cI, 6, .inl Se)), (x 58, .inl (cA, 6, .inr (.inr (.inr (.inr (gaF x)))))), (x 59, .inl (cI, 6, .inl (Gm 0))), (x 60, .inl (cI, 6, .inl (Gm 1))), (x 61, .inl (cI, 6, .inl (Gm 2))), (x 62, .inl (cI, 6, .inl (Gm 3))), (x 63, .inl (cI, 6, .inl (Gm 4))), (x 64, .inl (cI, 6, .inl (Gm 5)))]) (w2 := fun u => XW x cI cP cA cF u.1 P Rw No Ma Pa fI Tx u.2.1 bb Rd P3 Eb u.2.2.1 u.2.2.2.1 u.2.2.2.2.1 u.2.2.2.2.2.1 u.2.2.2.2.2.2.1 W0 u.2.2.2.2.2.2.2.1 u.2.2.2.2.2.2.2.2.1 u.2.2.2.2.2.2.2.2.2.1 u.2.2.2.2.2.2.2.2.2.2.1 u.2.2.2.2.2.2.2.2.2.2.2 Tr Tu Be Se Gm) [0, 1, 2, 3, 4, 5, 15, 22, 23, 24, 25, 26, 27, 28, 29, 30, 31, 32, 33, 34, 35, 36, 37, 38, 39, 40, 41, 42, 43, 44, 46, 47, 48, 49, 50] [6, 7, 8, 9, 10, 11, 12, 13, 14, 16, 17, 18, 19, 20, 21, 45, 51, 52, 53, 54, 55, 56, 57, 58, 59, 60, 61, 62, 63, 64] [30, 31, 32, 33, 34, 35, 0, 1, 2, 3, 4, 5, 6, 7, 8, 36, 9, 10, 11, 12, 13, 14, 37, 38, 39, 40, 41, 42, 43, 44, 45, 46, 47, 48, 49, 50, 51, 52, 53, 54, 55, 56, 57, 58, 59, 15, 60, 61, 62, 63, 64, 16, 17, 18, 19, 20, 21, 22, 23, 24, 25, 26, 27, 28, 29] ⟨hx, hb, hml, hown, hts⟩ (c_X5_mean l dC dI x cI cP cA t H.size X P Rf L0 L1 L2 L3 L4 W1 W2 W3 W4 Cs (xs (i + 1)) (rel_sz hR.1)) (cwV 1 hts gL_law_X5_mean rfl rfl rfl (by decide +kernel) ⟨Nat.le_of_ble_eq_true rfl, Nat.le_of_ble_eq_true rfl⟩) (preE (ci := 5) [0, 1, 2, 3, 4, 5, 15, 22, 23, 24, 25, 26, 27, 28, 29, 30, 31, 32, 33, 34, 35, 36, 37, 38, 39, 40, 41, 42, 43, 44, 46, 47, 48, 49, 50] hP hD hS (fun _ h => h) (by decide) rfl (hK.sub [0, 1, 2] rfl) hN hE rfl rfl rfl) hP hD hS (fun _ h => h) rfl rfl (by decide) (by decide) (by decide) (by decide) (fun _ => rfl) rfl hl.1 rfl (Nat.le_of_ble_eq_true rfl) dL_law_594 hrm (fun r5 u5 H locs h5 hP hD hS => ?_)
  obtain ⟨X_5, Rf_5, L0_5, L1_5, L2_5, L3_5, L4_5, W1_5, W2_5, W3_5, W4_5, Cs_5⟩ := u5
  refine lv_aload_n hx hb dL_law_597 rfl (lv_at hl 2 rfl) ?_
  refine lv_aload_n hx hb dL_law_598 rfl (lv_at hl 0 rfl) ?_
  refine lv_iload_n hx hb dL_law_599 rfl (lv_at hl 3 rfl) ?_
  refine lv_iconst (v := nI 1) hx hb dL_law_600 (by decide) ?_
  refine qv_iadd hx hb (i + 1) dL_law_601 rfl ?_
  refine qv_sld hx hb hX hbl hS (k := i + 1) (by omega) hL dL_law_602 ?_
  have hP : va_P (dC, dI) vwCl (XW x cI cP cA cF X_5 P Rw No Ma Pa fI Tx Rf_5 bb Rd P3 Eb L0_5 L1_5 L2_5 L3_5 L4_5 W0 W1_5 W2_5 W3_5 W4_5 Cs_5 Tr Tu Be Se Gm ++ (mW q cI cZ w kp Tx (Xtl X) (Xab X) (Xbe X) Rf po st nu li fi ga hh ++ (imC cI im0 ++ imC cI im1))) H := hP
  have hD : va_D (lA s) (XW x cI cP cA cF X_5 P Rw No Ma Pa fI Tx Rf_5 bb Rd P3 Eb L0_5 L1_5 L2_5 L3_5 L4_5 W0 W1_5 W2_5 W3_5 W4_5 Cs_5 Tr Tu Be Se Gm ++ (mW q cI cZ w kp Tx (Xtl X) (Xab X) (Xbe X) Rf po st nu li fi ga hh ++ (imC cI im0 ++ imC cI im1))) := hD
  have hP := lw_m1 (lw_sa hP)
  have hD := lw_m1D (lw_saD hD)
  refine lz_i (Y := mW q cI cZ w kp Tx (Xtl X) (Xab X) (Xbe X) Rf po st nu li fi ga hh) (pl := XW x cI cP cA cF X_5 P Rw No Ma Pa fI Tx Rf_5 bb Rd P3 Eb L0_5 L1_5 L2_5 L3_5 L4_5 W0 W1_5 W2_5 W3_5 W4_5 Cs_5 Tr Tu Be Se Gm ++ (imC cI im0 ++ imC cI im1)) (As := [.int (xs (i + 1))]) (rest := [.int r5]) (wr := []) (w2 := fun u => mW q cI cZ u.1 kp Tx (Xtl X) u.2.1 u.2.2.1 u.2.2.2 po st nu li fi ga hh) [0, 1, 2, 3, 4, 5, 6, 7] [] [0, 1, 2, 3, 4, 5, 6, 7] ⟨hx, hb, hml, hown, hts⟩ (c_X6_mean l dC dI q cI cZ H.size w kp Tx (Xtl X) (Xab X) (Xbe X) Rf po st nu li fi ga hh (xs (i + 1)) (rel_w0 hR.1).1 (rel_w0 hR.1).2.1) (cwV 1 hts gL_law_X6_mean rfl rfl rfl (by decide +kernel) ⟨Nat.le_of_ble_eq_true rfl, Nat.le_of_ble_eq_true rfl⟩) (preM (ci := 6) [0, 1, 2, 3, 4, 5, 6, 7] hP hD (by decide) rfl (hK.sub [0, 4] rfl) rfl rfl rfl) hP hD hS (fun _ h => h) rfl rfl (by decide) (by decide) (by decide) (by decide) (fun _ => rfl) rfl hl.1 rfl (Nat.le_of_ble_eq_true rfl) dL_law_603 hrm (fun r6 u6 H locs h6 hP hD hS => ?_)
  have hP := lw_m2 hP
  have hD := lw_m2D hD
  obtain ⟨w_6, ab_6, be_6, su_6⟩ := u6
  obtain ⟨u, X2, w2, su2, r, g5, g6, g7, g8⟩ := mean_eq (su := Rf) hR.1 X L0 L1 L2 L3 L4 W1 W2 W3 W4 Cs (xs (i + 1))
  have E5 := h5.symm.trans g5
  have E6 := h6.symm.trans g6
  cases E5
  cases E6
  rw [← g7] at hP hD
  refine lv_icmp_eq (tgt := 1011) hx hb dL_law_606 (by decide) (fun _ => ?_) (fun z => absurd rfl z)
  exact lw_tail hC0 hn hi hf (by omega) (by omega) (by exact (RelL_keep (X := X_5) ⟨hR.1, by rw [g7]; exact hR.2.1, by rw [g7]; exact hR.2.2.1, hR.2.2.2⟩ g8)) hP hD hS hl
set_option maxHeartbeats 4000000 in
set_option maxRecDepth 100000 in
theorem lw_case_send {p : Program} {l : Launch} {e : Env} {s : State} {m : MethodId} {below : List Frame} {meth : Method} {c : Code} {dC : Nat → ClassId} {dI : Nat → Nat → Nat} {x q : Nat → Nat} {b L : Nat} {xs : Nat → Int32} {cI cP cA cF cZ : ClassId} {t fr : Nat} {adK adV : Nat → Nat} (hC : LawC p s m meth c b L xs dC dI cI cP cA cF cZ t fr adK adV) {n i : Nat} (hn : HeadQ p l e s m below meth c dC dI x q b L cI cP cA cF cZ n) (hi : i + 5 ≤ L) (hf : L < i + (n + 1)) {X : xS} {P : pS} {Rw : Nat → Int32} {No : rS} {Ma : rS} {Pa : rS} {fI : Nat → Option Nat} {Tx : Nat → Int32} {Rf : Nat → Int32} {bb : Nat} {Rd : dS} {P3 : pS} {Eb : Nat → Int32} {L0 : pS} {L1 : pS} {L2 : pS} {L3 : pS} {L4 : pS} {W0 : Nat → Int32} {W1 : Nat → Int32} {W2 : Nat → Int32} {W3 : Nat → Int32} {W4 : Nat → Int32} {Cs : Nat → Int32} {Tr : pS} {Tu : Nat → Int32} {Be : Nat → Int32} {Se : Nat → Int32} {Gm : Nat → Nat → Int32} {w : Nat → Int32} {kp : Nat → Int32} {po : Int32} {st : Int32} {nu : Int32} {li : Nat → Int32} {fi : Nat → Int32} {ga : Nat → Int32} {hh : Int64} {im0 im1 : iT} {H : Heap} {locs : List Loc} {ls : Array Slot} (hR : RelL X P Rw No Ma Pa fI Tx w kp im0 im1) (hP : va_P (dC, dI) vwCl ((XW x cI cP cA cF X P Rw No Ma Pa fI Tx Rf bb Rd P3 Eb L0 L1 L2 L3 L4 W0 W1 W2 W3 W4 Cs Tr Tu Be Se Gm ++ mW q cI cZ w kp Tx (Xtl X) (Xab X) (Xbe X) Rf po st nu li fi ga hh) ++ (imC cI im0 ++ imC cI im1)) H) (hD : va_D (lA s) ((XW x cI cP cA cF X P Rw No Ma Pa fI Tx Rf bb Rd P3 Eb L0 L1 L2 L3 L4 W0 W1 W2 W3 W4 Cs Tr Tu Be Se Gm ++ mW q cI cZ w kp Tx (Xtl X) (Xab X) (Xbe X) Rf po st nu li fi ga hh) ++ (imC cI im0 ++ imC cI im1))) (hS : va_S (lA s) s.heap H locs) (hl : lv_has ls 4 [(0, .ref b), (1, .ref (x 0)), (2, .ref (q 0)), (3, .int (nI i))]) : W p l e room_1 s m #[Value.ref b] below meth c H locs (100 + 12 * i) (2000 + 162 * i) (lw_Z below #[Value.ref b] s) (F0 m 611 ls []) := by
  have hC0 := hC
  obtain ⟨hx, hb, hr, hml, hown, hts, hX, hbl, hlocks, hK, hN, hE, hG, hXA, hL⟩ := hC
  have hrm : 100 + 12 * i + 0 ≤ room_1.cells ∧ 2000 + 162 * i + 0 ≤ room_1.slots := ⟨Nat.le_trans (show 100 + 12 * i + 0 ≤ 600000 by omega) (Nat.le_of_ble_eq_true rfl), Nat.le_trans (show 2000 + 162 * i + 0 ≤ 7302250 by omega) (Nat.le_of_ble_eq_true rfl)⟩
  refine lv_aload_n hx hb dL_law_611 rfl (lv_at hl 1 rfl) ?_
  refine lv_aload_n hx hb dL_law_612 rfl (lv_at hl 0 rfl) ?_
  refine lv_iload_n hx hb dL_law_613 rfl (lv_at hl 3 rfl) ?_
  refine lv_iconst (v := nI 1) hx hb dL_law_614 (by decide) ?_
  refine qv_iadd hx hb (i + 1) dL_law_615 rfl ?_
  refine qv_sld hx hb hX hbl hS (k := i + 1) (by omega) hL dL_law_616 ?_
  have hP := lw_as hP
  have hD := lw_asD hD
  refine lz_i (Y := XW x cI cP cA cF X P Rw No Ma Pa fI Tx Rf bb Rd P3 Eb L0 L1 L2 L3 L4 W0 W1 W2 W3 W4 Cs Tr Tu Be Se Gm) (As := [.int (xs (i + 1))]) (rest := []) (wr := [(x 6, .inl (cI, 8, .inl Rw)), (x 7, .inr (4, [.int (nI 3), .ref (x 8), .int (Rus No)])), (x 8, .inl (cI, 18, .inl (Rce No))), (x 9, .inr (4, [.int (nI 4), .ref (x 10), .int (Rus Ma)])), (x 10, .inl (cI, 24, .inl (Rce Ma))), (x 11, .inr (4, [.int (nI 9), .ref (x 12), .int (Rus Pa)])), (x 12, .inl (cI, 72, .inl (Rce Pa))), (x 13, .inl (cF, 2, .inr (.inr (.inr (.inr fI))))), (x 14, .inl (cI, 150, .inl Tx)), (x 16, .inr (3, [.ref (x 17), .ref bb, .int (nI ((Dln Rd))), .int (nI ((Dbh Rd))), .int (nI ((Dsa Rd))), .int (Dtk Rd), .int (Dvl Rd)])), (x 17, .inr (2, [.int (Pbo P3), .int (Psz P3), .ref (x 18), .ref (x 19), .ref (x 20), .int (Pnx P3), .int (Ppt P3), .int (Pbl P3)])), (x 18, .inl (cI, 6, .inl (Pkd P3))), (x 19, .inl (cI, 6, .inl (Plg P3))), (x 20, .inl (cI, 6, .inl (Pwh P3))), (x 21, .inl (cI, 0, .inl Eb)), (x 40, .inr (2, [.int (Pbo L4), .int (Psz L4), .ref (x 41), .ref (x 42), .ref (x 43), .int (Pnx L4), .int (Ppt L4), .int (Pbl L4)])), (x 41, .inl (cI, 6, .inl (Pkd L4))), (x 42, .inl (cI, 6, .inl (Plg L4))), (x 43, .inl (cI, 6, .inl (Pwh L4))), (x 45, .inl (cI, 6, .inl W0)), (x 49, .inl (cI, 6, .inl W4)), (x 55, .inl (cI, 6, .inl Tu)), (x 56, .inl (cI, 6, .inl Be)), (x 57, .inl (cI, 6, .inl Se)), (x 58, .inl (cA, 6, .inr (.inr (.inr (.inr (gaF x)))))), (x 59, .inl (cI, 6, .inl (Gm 0))), (x 60, .inl (cI, 6, .inl (Gm 1))), (x 61, .inl (cI, 6, .inl (Gm 2))), (x 62, .inl (cI, 6, .inl (Gm 3))), (x 63, .inl (cI, 6, .inl (Gm 4))), (x 64, .inl (cI, 6, .inl (Gm 5)))]) (w2 := fun u => XW x cI cP cA cF X P Rw No Ma Pa fI Tx u.1 bb Rd P3 Eb u.2.1 u.2.2.1 u.2.2.2.1 u.2.2.2.2.1 L4 W0 u.2.2.2.2.2.1 u.2.2.2.2.2.2.1 u.2.2.2.2.2.2.2.1 W4 u.2.2.2.2.2.2.2.2.1 u.2.2.2.2.2.2.2.2.2 Tu Be Se Gm) [0, 1, 2, 3, 4, 5, 15, 22, 23, 24, 25, 26, 27, 28, 29, 30, 31, 32, 33, 34, 35, 36, 37, 38, 39, 44, 46, 47, 48, 50, 51, 52, 53, 54] [6, 7, 8, 9, 10, 11, 12, 13, 14, 16, 17, 18, 19, 20, 21, 40, 41, 42, 43, 45, 49, 55, 56, 57, 58, 59, 60, 61, 62, 63, 64] [31, 32, 33, 34, 35, 36, 0, 1, 2, 3, 4, 5, 6, 7, 8, 37, 9, 10, 11, 12, 13, 14, 38, 39, 40, 41, 42, 43, 44, 45, 46, 47, 48, 49, 50, 51, 52, 53, 54, 55, 15, 16, 17, 18, 56, 19, 57, 58, 59, 20, 60, 61, 62, 63, 64, 21, 22, 23, 24, 25, 26, 27, 28, 29, 30] ⟨hx, hb, hml, hown, hts⟩ (c_X5_send l dC dI x cI cP cA t H.size X P Rf L0 L1 L2 L3 W1 W2 W3 Cs Tr (xs (i + 1)) (rel_sz hR.1)) (cwV 1 hts gL_law_X5_send rfl rfl rfl (by decide +kernel) ⟨Nat.le_of_ble_eq_true rfl, Nat.le_of_ble_eq_true rfl⟩) (preE (ci := 5) [0, 1, 2, 3, 4, 5, 15, 22, 23, 24, 25, 26, 27, 28, 29, 30, 31, 32, 33, 34, 35, 36, 37, 38, 39, 44, 46, 47, 48, 50, 51, 52, 53, 54] hP hD hS (fun _ h => h) (by decide) rfl (hK.sub [0, 1, 2] rfl) hN hE rfl rfl rfl) hP hD hS (fun _ h => h) rfl rfl (by decide) (by decide) (by decide) (by decide) (fun _ => rfl) rfl hl.1 rfl (Nat.le_of_ble_eq_true rfl) dL_law_617 hrm (fun r5 u5 H locs h5 hP hD hS => ?_)
  obtain ⟨Rf_5, L0_5, L1_5, L2_5, L3_5, W1_5, W2_5, W3_5, Cs_5, Tr_5⟩ := u5
  refine lv_aload_n hx hb dL_law_620 rfl (lv_at hl 2 rfl) ?_
  refine lv_aload_n hx hb dL_law_621 rfl (lv_at hl 0 rfl) ?_
  refine lv_iload_n hx hb dL_law_622 rfl (lv_at hl 3 rfl) ?_
  refine lv_iconst (v := nI 1) hx hb dL_law_623 (by decide) ?_
  refine qv_iadd hx hb (i + 1) dL_law_624 rfl ?_
  refine qv_sld hx hb hX hbl hS (k := i + 1) (by omega) hL dL_law_625 ?_
  have hP : va_P (dC, dI) vwCl (XW x cI cP cA cF X P Rw No Ma Pa fI Tx Rf_5 bb Rd P3 Eb L0_5 L1_5 L2_5 L3_5 L4 W0 W1_5 W2_5 W3_5 W4 Cs_5 Tr_5 Tu Be Se Gm ++ (mW q cI cZ w kp Tx (Xtl X) (Xab X) (Xbe X) Rf po st nu li fi ga hh ++ (imC cI im0 ++ imC cI im1))) H := hP
  have hD : va_D (lA s) (XW x cI cP cA cF X P Rw No Ma Pa fI Tx Rf_5 bb Rd P3 Eb L0_5 L1_5 L2_5 L3_5 L4 W0 W1_5 W2_5 W3_5 W4 Cs_5 Tr_5 Tu Be Se Gm ++ (mW q cI cZ w kp Tx (Xtl X) (Xab X) (Xbe X) Rf po st nu li fi ga hh ++ (imC cI im0 ++ imC cI im1))) := hD
  have hP := lw_m1 (lw_sa hP)
  have hD := lw_m1D (lw_saD hD)
  refine lz_i (Y := mW q cI cZ w kp Tx (Xtl X) (Xab X) (Xbe X) Rf po st nu li fi ga hh) (pl := XW x cI cP cA cF X P Rw No Ma Pa fI Tx Rf_5 bb Rd P3 Eb L0_5 L1_5 L2_5 L3_5 L4 W0 W1_5 W2_5 W3_5 W4 Cs_5 Tr_5 Tu Be Se Gm ++ (imC cI im0 ++ imC cI im1)) (As := [.int (xs (i + 1))]) (rest := [.int r5]) (wr := []) (w2 := fun u => mW q cI cZ u.1 kp Tx (Xtl X) (Xab X) (Xbe X) u.2 po st nu li fi ga hh) [0, 1, 2, 3, 4, 5, 6, 7] [] [0, 1, 2, 3, 4, 5, 6, 7] ⟨hx, hb, hml, hown, hts⟩ (c_X6_send l dC dI q cI cZ H.size w kp Tx (Xtl X) (Xab X) (Xbe X) Rf po st nu li fi ga hh (xs (i + 1)) (rel_w0 hR.1).1) (cwV 1 hts gL_law_X6_send rfl rfl rfl (by decide +kernel) ⟨Nat.le_of_ble_eq_true rfl, Nat.le_of_ble_eq_true rfl⟩) (preM (ci := 6) [0, 1, 2, 3, 4, 5, 6, 7] hP hD (by decide) rfl (hK.sub [0, 4] rfl) rfl rfl rfl) hP hD hS (fun _ h => h) rfl rfl (by decide) (by decide) (by decide) (by decide) (fun _ => rfl) rfl hl.1 rfl (Nat.le_of_ble_eq_true rfl) dL_law_626 hrm (fun r6 u6 H locs h6 hP hD hS => ?_)
  have hP := lw_m2 hP
  have hD := lw_m2D hD
  obtain ⟨w_6, su_6⟩ := u6
  have E := send_eq (su := Rf) hR.1 L0 L1 L2 L3 W1 W2 W3 Cs Tr (xs (i + 1))
  rw [h5, h6] at E
  obtain ⟨e1, e2, e4⟩ := E
  have e1 : r6 = r5 := e1
  have e2 : su_6 = Rf_5 := e2
  subst e1
  subst e2
  refine lv_icmp_eq (tgt := 1011) hx hb dL_law_629 (by decide) (fun _ => ?_) (fun z => absurd rfl z)
  exact lw_tail hC0 hn hi hf (by omega) (by omega) (by exact (RelL_keep hR e4)) hP hD hS hl
set_option maxHeartbeats 4000000 in
set_option maxRecDepth 100000 in
theorem lw_case_note {p : Program} {l : Launch} {e : Env} {s : State} {m : MethodId} {below : List Frame} {meth : Method} {c : Code} {dC : Nat → ClassId} {dI : Nat → Nat → Nat} {x q : Nat → Nat} {b L : Nat} {xs : Nat → Int32} {cI cP cA cF cZ : ClassId} {t fr : Nat} {adK adV : Nat → Nat} (hC : LawC p s m meth c b L xs dC dI cI cP cA cF cZ t fr adK adV) {n i : Nat} (hn : HeadQ p l e s m below meth c dC dI x q b L cI cP cA cF cZ n) (hi : i + 5 ≤ L) (hf : L < i + (n + 1)) {X : xS} {P : pS} {Rw : Nat → Int32} {No : rS} {Ma : rS} {Pa : rS} {fI : Nat → Option Nat} {Tx : Nat → Int32} {Rf : Nat → Int32} {bb : Nat} {Rd : dS} {P3 : pS} {Eb : Nat → Int32} {L0 : pS} {L1 : pS} {L2 : pS} {L3 : pS} {L4 : pS} {W0 : Nat → Int32} {W1 : Nat → Int32} {W2 : Nat → Int32} {W3 : Nat → Int32} {W4 : Nat → Int32} {Cs : Nat → Int32} {Tr : pS} {Tu : Nat → Int32} {Be : Nat → Int32} {Se : Nat → Int32} {Gm : Nat → Nat → Int32} {w : Nat → Int32} {kp : Nat → Int32} {po : Int32} {st : Int32} {nu : Int32} {li : Nat → Int32} {fi : Nat → Int32} {ga : Nat → Int32} {hh : Int64} {im0 im1 : iT} {H : Heap} {locs : List Loc} {ls : Array Slot} (hR : RelL X P Rw No Ma Pa fI Tx w kp im0 im1) (hP : va_P (dC, dI) vwCl ((XW x cI cP cA cF X P Rw No Ma Pa fI Tx Rf bb Rd P3 Eb L0 L1 L2 L3 L4 W0 W1 W2 W3 W4 Cs Tr Tu Be Se Gm ++ mW q cI cZ w kp Tx (Xtl X) (Xab X) (Xbe X) Rf po st nu li fi ga hh) ++ (imC cI im0 ++ imC cI im1)) H) (hD : va_D (lA s) ((XW x cI cP cA cF X P Rw No Ma Pa fI Tx Rf bb Rd P3 Eb L0 L1 L2 L3 L4 W0 W1 W2 W3 W4 Cs Tr Tu Be Se Gm ++ mW q cI cZ w kp Tx (Xtl X) (Xab X) (Xbe X) Rf po st nu li fi ga hh) ++ (imC cI im0 ++ imC cI im1))) (hS : va_S (lA s) s.heap H locs) (hl : lv_has ls 4 [(0, .ref b), (1, .ref (x 0)), (2, .ref (q 0)), (3, .int (nI i))]) : W p l e room_1 s m #[Value.ref b] below meth c H locs (100 + 12 * i) (2000 + 162 * i) (lw_Z below #[Value.ref b] s) (F0 m 634 ls []) := by
  have hC0 := hC
  obtain ⟨hx, hb, hr, hml, hown, hts, hX, hbl, hlocks, hK, hN, hE, hG, hXA, hL⟩ := hC
  have hrm : 100 + 12 * i + 0 ≤ room_1.cells ∧ 2000 + 162 * i + 0 ≤ room_1.slots := ⟨Nat.le_trans (show 100 + 12 * i + 0 ≤ 600000 by omega) (Nat.le_of_ble_eq_true rfl), Nat.le_trans (show 2000 + 162 * i + 0 ≤ 7302250 by omega) (Nat.le_of_ble_eq_true rfl)⟩
  refine lv_aload_n hx hb dL_law_634 rfl (lv_at hl 1 rfl) ?_
  refine lv_aload_n hx hb dL_law_635 rfl (lv_at hl 0 rfl) ?_
  refine lv_iload_n hx hb dL_law_636 rfl (lv_at hl 3 rfl) ?_
  refine lv_iconst (v := nI 1) hx hb dL_law_637 (by decide) ?_
  refine qv_iadd hx hb (i + 1) dL_law_638 rfl ?_
  refine qv_sld hx hb hX hbl hS (k := i + 1) (by omega) hL dL_law_639 ?_
  refine lv_aload_n hx hb dL_law_640 rfl (lv_at hl 0 rfl) ?_
  refine lv_iload_n hx hb dL_law_641 rfl (lv_at hl 3 rfl) ?_
  refine lv_iconst (v := nI 2) hx hb dL_law_642 (by decide) ?_
  refine qv_iadd hx hb (i + 2) dL_law_643 rfl ?_
  refine qv_sld hx hb hX hbl hS (k := i + 2) (by omega) hL dL_law_644 ?_
  refine lv_aload_n hx hb dL_law_645 rfl (lv_at hl 0 rfl) ?_
  refine lv_iload_n hx hb dL_law_646 rfl (lv_at hl 3 rfl) ?_
  refine lv_iconst (v := nI 3) hx hb dL_law_647 (by decide) ?_
  refine qv_iadd hx hb (i + 3) dL_law_648 rfl ?_
  refine qv_sld hx hb hX hbl hS (k := i + 3) (by omega) hL dL_law_649 ?_
  have hP := lw_as hP
  have hD := lw_asD hD
  refine lz_i (Y := XW x cI cP cA cF X P Rw No Ma Pa fI Tx Rf bb Rd P3 Eb L0 L1 L2 L3 L4 W0 W1 W2 W3 W4 Cs Tr Tu Be Se Gm) (As := [.int (xs (i + 1)), .int (xs (i + 2)), .int (xs (i + 3))]) (rest := []) (wr := [(x 2, .inr (2, [.int (Pbo P), .int (Psz P), .ref (x 3), .ref (x 4), .ref (x 5), .int (Pnx P), .int (Ppt P), .int (Pbl P)])), (x 3, .inl (cI, 6, .inl (Pkd P))), (x 4, .inl (cI, 6, .inl (Plg P))), (x 5, .inl (cI, 6, .inl (Pwh P))), (x 6, .inl (cI, 8, .inl Rw)), (x 9, .inr (4, [.int (nI 4), .ref (x 10), .int (Rus Ma)])), (x 10, .inl (cI, 24, .inl (Rce Ma))), (x 11, .inr (4, [.int (nI 9), .ref (x 12), .int (Rus Pa)])), (x 12, .inl (cI, 72, .inl (Rce Pa))), (x 13, .inl (cF, 2, .inr (.inr (.inr (.inr fI))))), (x 14, .inl (cI, 150, .inl Tx)), (x 16, .inr (3, [.ref (x 17), .ref bb, .int (nI ((Dln Rd))), .int (nI ((Dbh Rd))), .int (nI ((Dsa Rd))), .int (Dtk Rd), .int (Dvl Rd)])), (x 17, .inr (2, [.int (Pbo P3), .int (Psz P3), .ref (x 18), .ref (x 19), .ref (x 20), .int (Pnx P3), .int (Ppt P3), .int (Pbl P3)])), (x 18, .inl (cI, 6, .inl (Pkd P3))), (x 19, .inl (cI, 6, .inl (Plg P3))), (x 20, .inl (cI, 6, .inl (Pwh P3))), (x 21, .inl (cI, 0, .inl Eb)), (x 22, .inr (0, [.ref (x 23), .ref (x 44), .ref (x 50)])), (x 23, .inl (cP, 5, .inr (.inr (.inr (.inr (lvF x)))))), (x 24, .inr (2, [.int (Pbo L0), .int (Psz L0), .ref (x 25), .ref (x 26), .ref (x 27), .int (Pnx L0), .int (Ppt L0), .int (Pbl L0)])), (x 25, .inl (cI, 6, .inl (Pkd L0))), (x 26, .inl (cI, 6, .inl (Plg L0))), (x 27, .inl (cI, 6, .inl (Pwh L0))), (x 28, .inr (2, [.int (Pbo L1), .int (Psz L1), .ref (x 29), .ref (x 30), .ref (x 31), .int (Pnx L1), .int (Ppt L1), .int (Pbl L1)])), (x 29, .inl (cI, 6, .inl (Pkd L1))), (x 30, .inl (cI, 6, .inl (Plg L1))), (x 31, .inl (cI, 6, .inl (Pwh L1))), (x 32, .inr (2, [.int (Pbo L2), .int (Psz L2), .ref (x 33), .ref (x 34), .ref (x 35), .int (Pnx L2), .int (Ppt L2), .int (Pbl L2)])), (x 33, .inl (cI, 6, .inl (Pkd L2))), (x 34, .inl (cI, 6, .inl (Plg L2))), (x 35, .inl (cI, 6, .inl (Pwh L2))), (x 36, .inr (2, [.int (Pbo L3), .int (Psz L3), .ref (x 37), .ref (x 38), .ref (x 39), .int (Pnx L3), .int (Ppt L3), .int (Pbl L3)])), (x 37, .inl (cI, 6, .inl (Pkd L3))), (x 38, .inl (cI, 6, .inl (Plg L3))), (x 39, .inl (cI, 6, .inl (Pwh L3))), (x 40, .inr (2, [.int (Pbo L4), .int (Psz L4), .ref (x 41), .ref (x 42), .ref (x 43), .int (Pnx L4), .int (Ppt L4), .int (Pbl L4)])), (x 41, .inl (cI, 6, .inl (Pkd L4))), (x 42, .inl (cI, 6, .inl (Plg L4))), (x 43, .inl (cI, 6, .inl (Pwh L4))), (x 44, .inl (cA, 5, .inr (.inr (.inr (.inr (wyF x)))))), (x 45, .inl (cI, 6, .inl W0)), (x 46, .inl (cI, 6, .inl W1)), (x 47, .inl (cI, 6, .inl W2)), (x 48, .inl (cI, 6, .inl W3)), (x 49, .inl (cI, 6, .inl W4)), (x 50, .inl (cI, 21, .inl Cs)), (x 51, .inr (2, [.int (Pbo Tr), .int (Psz Tr), .ref (x 52), .ref (x 53), .ref (x 54), .int (Pnx Tr), .int (Ppt Tr), .int (Pbl Tr)])), (x 52, .inl (cI, 6, .inl (Pkd Tr))), (x 53, .inl (cI, 6, .inl (Plg Tr))), (x 54, .inl (cI, 6, .inl (Pwh Tr))), (x 55, .inl (cI, 6, .inl Tu)), (x 56, .inl (cI, 6, .inl Be)), (x 57, .inl (cI, 6, .inl Se)), (x 58, .inl (cA, 6, .inr (.inr (.inr (.inr (gaF x)))))), (x 59, .inl (cI, 6, .inl (Gm 0))), (x 60, .inl (cI, 6, .inl (Gm 1))), (x 61, .inl (cI, 6, .inl (Gm 2))), (x 62, .inl (cI, 6, .inl (Gm 3))), (x 63, .inl (cI, 6, .inl (Gm 4))), (x 64, .inl (cI, 6, .inl (Gm 5)))]) (w2 := fun u => XW x cI cP cA cF X P Rw u.1 Ma Pa fI Tx u.2 bb Rd P3 Eb L0 L1 L2 L3 L4 W0 W1 W2 W3 W4 Cs Tr Tu Be Se Gm) [0, 1, 7, 8, 15] [2, 3, 4, 5, 6, 9, 10, 11, 12, 13, 14, 16, 17, 18, 19, 20, 21, 22, 23, 24, 25, 26, 27, 28, 29, 30, 31, 32, 33, 34, 35, 36, 37, 38, 39, 40, 41, 42, 43, 44, 45, 46, 47, 48, 49, 50, 51, 52, 53, 54, 55, 56, 57, 58, 59, 60, 61, 62, 63, 64] [60, 61, 0, 1, 2, 3, 4, 62, 63, 5, 6, 7, 8, 9, 10, 64, 11, 12, 13, 14, 15, 16, 17, 18, 19, 20, 21, 22, 23, 24, 25, 26, 27, 28, 29, 30, 31, 32, 33, 34, 35, 36, 37, 38, 39, 40, 41, 42, 43, 44, 45, 46, 47, 48, 49, 50, 51, 52, 53, 54, 55, 56, 57, 58, 59] ⟨hx, hb, hml, hown, hts⟩ (c_X5_note l dC dI x cI H.size X No Rf (xs (i + 1)) (xs (i + 2)) (xs (i + 3)) (rel_no hR.1)) (cwV 3 hts gL_law_X5_note rfl rfl rfl (by decide +kernel) ⟨Nat.le_of_ble_eq_true rfl, Nat.le_of_ble_eq_true rfl⟩) (preX (ci := 5) [0, 1, 7, 8, 15] hP hD (by decide) rfl (hK.sub [0] rfl) hN rfl rfl rfl) hP hD hS (fun _ h => h) rfl rfl (by decide) (by decide) (by decide) (by decide) (fun _ => rfl) rfl hl.1 rfl (Nat.le_of_ble_eq_true rfl) dL_law_650 hrm (fun r5 u5 H locs h5 hP hD hS => ?_)
  obtain ⟨No_5, Rf_5⟩ := u5
  refine lv_aload_n hx hb dL_law_653 rfl (lv_at hl 2 rfl) ?_
  refine lv_aload_n hx hb dL_law_654 rfl (lv_at hl 0 rfl) ?_
  refine lv_iload_n hx hb dL_law_655 rfl (lv_at hl 3 rfl) ?_
  refine lv_iconst (v := nI 1) hx hb dL_law_656 (by decide) ?_
  refine qv_iadd hx hb (i + 1) dL_law_657 rfl ?_
  refine qv_sld hx hb hX hbl hS (k := i + 1) (by omega) hL dL_law_658 ?_
  refine lv_aload_n hx hb dL_law_659 rfl (lv_at hl 0 rfl) ?_
  refine lv_iload_n hx hb dL_law_660 rfl (lv_at hl 3 rfl) ?_
  refine lv_iconst (v := nI 2) hx hb dL_law_661 (by decide) ?_
  refine qv_iadd hx hb (i + 2) dL_law_662 rfl ?_
  refine qv_sld hx hb hX hbl hS (k := i + 2) (by omega) hL dL_law_663 ?_
  refine lv_aload_n hx hb dL_law_664 rfl (lv_at hl 0 rfl) ?_
  refine lv_iload_n hx hb dL_law_665 rfl (lv_at hl 3 rfl) ?_
  refine lv_iconst (v := nI 3) hx hb dL_law_666 (by decide) ?_
  refine qv_iadd hx hb (i + 3) dL_law_667 rfl ?_
  refine qv_sld hx hb hX hbl hS (k := i + 3) (by omega) hL dL_law_668 ?_
  have hP : va_P (dC, dI) vwCl (XW x cI cP cA cF X P Rw No_5 Ma Pa fI Tx Rf_5 bb Rd P3 Eb L0 L1 L2 L3 L4 W0 W1 W2 W3 W4 Cs Tr Tu Be Se Gm ++ (mW q cI cZ w kp Tx (Xtl X) (Xab X) (Xbe X) Rf po st nu li fi ga hh ++ (imC cI im0 ++ imC cI im1))) H := hP
  have hD : va_D (lA s) (XW x cI cP cA cF X P Rw No_5 Ma Pa fI Tx Rf_5 bb Rd P3 Eb L0 L1 L2 L3 L4 W0 W1 W2 W3 W4 Cs Tr Tu Be Se Gm ++ (mW q cI cZ w kp Tx (Xtl X) (Xab X) (Xbe X) Rf po st nu li fi ga hh ++ (imC cI im0 ++ imC cI im1))) := hD
  have hP := lw_m1 (lw_sa hP)
  have hD := lw_m1D (lw_saD hD)
  refine lz_i (Y := mW q cI cZ w kp Tx (Xtl X) (Xab X) (Xbe X) Rf po st nu li fi ga hh) (pl := XW x cI cP cA cF X P Rw No_5 Ma Pa fI Tx Rf_5 bb Rd P3 Eb L0 L1 L2 L3 L4 W0 W1 W2 W3 W4 Cs Tr Tu Be Se Gm ++ (imC cI im0 ++ imC cI im1)) (As := [.int (xs (i + 1)), .int (xs (i + 2)), .int (xs (i + 3))]) (rest := [.int r5]) (wr := []) (w2 := fun u => mW q cI cZ u.1 kp Tx (Xtl X) (Xab X) (Xbe X) u.2 po st nu li fi ga hh) [0, 1, 2, 3, 4, 5, 6, 7] [] [0, 1, 2, 3, 4, 5, 6, 7] ⟨hx, hb, hml, hown, hts⟩ (c_X6_note l dC dI q cI cZ H.size w kp Tx (Xtl X) (Xab X) (Xbe X) Rf po st nu li fi ga hh (xs (i + 1)) (xs (i + 2)) (xs (i + 3)) (rel_w0 hR.1).2.2.1) (cwV 3 hts gL_law_X6_note rfl rfl rfl (by decide +kernel) ⟨Nat.le_of_ble_eq_true rfl, Nat.le_of_ble_eq_true rfl⟩) (preM (ci := 6) [0, 1, 2, 3, 4, 5, 6, 7] hP hD (by decide) rfl (hK.sub [0, 4] rfl) rfl rfl rfl) hP hD hS (fun _ h => h) rfl rfl (by decide) (by decide) (by decide) (by decide) (fun _ => rfl) rfl hl.1 rfl (Nat.le_of_ble_eq_true rfl) dL_law_669 hrm (fun r6 u6 H locs h6 hP hD hS => ?_)
  have hP := lw_m2 hP
  have hD := lw_m2D hD
  obtain ⟨w_6, su_6⟩ := u6
  have E := note_eq (su := Rf) hR.1 (xs (i + 1)) (xs (i + 2)) (xs (i + 3))
  rw [h5, h6] at E
  obtain ⟨e1, e2, e3, e4⟩ := E
  have e1 : r6 = r5 := e1
  have e2 : su_6 = Rf_5 := e2
  subst e1
  subst e2
  refine lv_icmp_eq (tgt := 1011) hx hb dL_law_672 (by decide) (fun _ => ?_) (fun z => absurd rfl z)
  exact lw_tail hC0 hn hi hf (by omega) (by omega) (by exact (RelL_upd hR e3 (fun j a b => e4 j a))) hP hD hS hl
set_option maxHeartbeats 4000000 in
set_option maxRecDepth 100000 in
theorem lw_case_mark {p : Program} {l : Launch} {e : Env} {s : State} {m : MethodId} {below : List Frame} {meth : Method} {c : Code} {dC : Nat → ClassId} {dI : Nat → Nat → Nat} {x q : Nat → Nat} {b L : Nat} {xs : Nat → Int32} {cI cP cA cF cZ : ClassId} {t fr : Nat} {adK adV : Nat → Nat} (hC : LawC p s m meth c b L xs dC dI cI cP cA cF cZ t fr adK adV) {n i : Nat} (hn : HeadQ p l e s m below meth c dC dI x q b L cI cP cA cF cZ n) (hi : i + 5 ≤ L) (hf : L < i + (n + 1)) {X : xS} {P : pS} {Rw : Nat → Int32} {No : rS} {Ma : rS} {Pa : rS} {fI : Nat → Option Nat} {Tx : Nat → Int32} {Rf : Nat → Int32} {bb : Nat} {Rd : dS} {P3 : pS} {Eb : Nat → Int32} {L0 : pS} {L1 : pS} {L2 : pS} {L3 : pS} {L4 : pS} {W0 : Nat → Int32} {W1 : Nat → Int32} {W2 : Nat → Int32} {W3 : Nat → Int32} {W4 : Nat → Int32} {Cs : Nat → Int32} {Tr : pS} {Tu : Nat → Int32} {Be : Nat → Int32} {Se : Nat → Int32} {Gm : Nat → Nat → Int32} {w : Nat → Int32} {kp : Nat → Int32} {po : Int32} {st : Int32} {nu : Int32} {li : Nat → Int32} {fi : Nat → Int32} {ga : Nat → Int32} {hh : Int64} {im0 im1 : iT} {H : Heap} {locs : List Loc} {ls : Array Slot} (hR : RelL X P Rw No Ma Pa fI Tx w kp im0 im1) (hP : va_P (dC, dI) vwCl ((XW x cI cP cA cF X P Rw No Ma Pa fI Tx Rf bb Rd P3 Eb L0 L1 L2 L3 L4 W0 W1 W2 W3 W4 Cs Tr Tu Be Se Gm ++ mW q cI cZ w kp Tx (Xtl X) (Xab X) (Xbe X) Rf po st nu li fi ga hh) ++ (imC cI im0 ++ imC cI im1)) H) (hD : va_D (lA s) ((XW x cI cP cA cF X P Rw No Ma Pa fI Tx Rf bb Rd P3 Eb L0 L1 L2 L3 L4 W0 W1 W2 W3 W4 Cs Tr Tu Be Se Gm ++ mW q cI cZ w kp Tx (Xtl X) (Xab X) (Xbe X) Rf po st nu li fi ga hh) ++ (imC cI im0 ++ imC cI im1))) (hS : va_S (lA s) s.heap H locs) (hl : lv_has ls 4 [(0, .ref b), (1, .ref (x 0)), (2, .ref (q 0)), (3, .int (nI i))]) : W p l e room_1 s m #[Value.ref b] below meth c H locs (100 + 12 * i) (2000 + 162 * i) (lw_Z below #[Value.ref b] s) (F0 m 677 ls []) := by
  have hC0 := hC
  obtain ⟨hx, hb, hr, hml, hown, hts, hX, hbl, hlocks, hK, hN, hE, hG, hXA, hL⟩ := hC
  have hrm : 100 + 12 * i + 0 ≤ room_1.cells ∧ 2000 + 162 * i + 0 ≤ room_1.slots := ⟨Nat.le_trans (show 100 + 12 * i + 0 ≤ 600000 by omega) (Nat.le_of_ble_eq_true rfl), Nat.le_trans (show 2000 + 162 * i + 0 ≤ 7302250 by omega) (Nat.le_of_ble_eq_true rfl)⟩
  refine lv_aload_n hx hb dL_law_677 rfl (lv_at hl 1 rfl) ?_
  refine lv_aload_n hx hb dL_law_678 rfl (lv_at hl 0 rfl) ?_
  refine lv_iload_n hx hb dL_law_679 rfl (lv_at hl 3 rfl) ?_
  refine lv_iconst (v := nI 1) hx hb dL_law_680 (by decide) ?_
  refine qv_iadd hx hb (i + 1) dL_law_681 rfl ?_
  refine qv_sld hx hb hX hbl hS (k := i + 1) (by omega) hL dL_law_682 ?_
  refine lv_aload_n hx hb dL_law_683 rfl (lv_at hl 0 rfl) ?_
  refine lv_iload_n hx hb dL_law_684 rfl (lv_at hl 3 rfl) ?_
  refine lv_iconst (v := nI 2) hx hb dL_law_685 (by decide) ?_
  refine qv_iadd hx hb (i + 2) dL_law_686 rfl ?_
  refine qv_sld hx hb hX hbl hS (k := i + 2) (by omega) hL dL_law_687 ?_
  refine lv_aload_n hx hb dL_law_688 rfl (lv_at hl 0 rfl) ?_
  refine lv_iload_n hx hb dL_law_689 rfl (lv_at hl 3 rfl) ?_
  refine lv_iconst (v := nI 3) hx hb dL_law_690 (by decide) ?_
  refine qv_iadd hx hb (i + 3) dL_law_691 rfl ?_
  refine qv_sld hx hb hX hbl hS (k := i + 3) (by omega) hL dL_law_692 ?_
  refine lv_aload_n hx hb dL_law_693 rfl (lv_at hl 0 rfl) ?_
  refine lv_iload_n hx hb dL_law_694 rfl (lv_at hl 3 rfl) ?_
  refine lv_iconst (v := nI 4) hx hb dL_law_695 (by decide) ?_
  refine qv_iadd hx hb (i + 4) dL_law_696 rfl ?_
  refine qv_sld hx hb hX hbl hS (k := i + 4) (by omega) hL dL_law_697 ?_
  have hP := lw_as hP
  have hD := lw_asD hD
  refine lz_i (Y := XW x cI cP cA cF X P Rw No Ma Pa fI Tx Rf bb Rd P3 Eb L0 L1 L2 L3 L4 W0 W1 W2 W3 W4 Cs Tr Tu Be Se Gm) (As := [.int (xs (i + 1)), .int (xs (i + 2)), .int (xs (i + 3)), .int (xs (i + 4))]) (rest := []) (wr := [(x 6, .inl (cI, 8, .inl Rw)), (x 7, .inr (4, [.int (nI 3), .ref (x 8), .int (Rus No)])), (x 8, .inl (cI, 18, .inl (Rce No))), (x 11, .inr (4, [.int (nI 9), .ref (x 12), .int (Rus Pa)])), (x 12, .inl (cI, 72, .inl (Rce Pa))), (x 13, .inl (cF, 2, .inr (.inr (.inr (.inr fI))))), (x 14, .inl (cI, 150, .inl Tx)), (x 16, .inr (3, [.ref (x 17), .ref bb, .int (nI ((Dln Rd))), .int (nI ((Dbh Rd))), .int (nI ((Dsa Rd))), .int (Dtk Rd), .int (Dvl Rd)])), (x 17, .inr (2, [.int (Pbo P3), .int (Psz P3), .ref (x 18), .ref (x 19), .ref (x 20), .int (Pnx P3), .int (Ppt P3), .int (Pbl P3)])), (x 18, .inl (cI, 6, .inl (Pkd P3))), (x 19, .inl (cI, 6, .inl (Plg P3))), (x 20, .inl (cI, 6, .inl (Pwh P3))), (x 21, .inl (cI, 0, .inl Eb)), (x 22, .inr (0, [.ref (x 23), .ref (x 44), .ref (x 50)])), (x 23, .inl (cP, 5, .inr (.inr (.inr (.inr (lvF x)))))), (x 24, .inr (2, [.int (Pbo L0), .int (Psz L0), .ref (x 25), .ref (x 26), .ref (x 27), .int (Pnx L0), .int (Ppt L0), .int (Pbl L0)])), (x 25, .inl (cI, 6, .inl (Pkd L0))), (x 26, .inl (cI, 6, .inl (Plg L0))), (x 27, .inl (cI, 6, .inl (Pwh L0))), (x 28, .inr (2, [.int (Pbo L1), .int (Psz L1), .ref (x 29), .ref (x 30), .ref (x 31), .int (Pnx L1), .int (Ppt L1), .int (Pbl L1)])), (x 29, .inl (cI, 6, .inl (Pkd L1))), (x 30, .inl (cI, 6, .inl (Plg L1))), (x 31, .inl (cI, 6, .inl (Pwh L1))), (x 32, .inr (2, [.int (Pbo L2), .int (Psz L2), .ref (x 33), .ref (x 34), .ref (x 35), .int (Pnx L2), .int (Ppt L2), .int (Pbl L2)])), (x 33, .inl (cI, 6, .inl (Pkd L2))), (x 34, .inl (cI, 6, .inl (Plg L2))), (x 35, .inl (cI, 6, .inl (Pwh L2))), (x 36, .inr (2, [.int (Pbo L3), .int (Psz L3), .ref (x 37), .ref (x 38), .ref (x 39), .int (Pnx L3), .int (Ppt L3), .int (Pbl L3)])), (x 37, .inl (cI, 6, .inl (Pkd L3))), (x 38, .inl (cI, 6, .inl (Plg L3))), (x 39, .inl (cI, 6, .inl (Pwh L3))), (x 40, .inr (2, [.int (Pbo L4), .int (Psz L4), .ref (x 41), .ref (x 42), .ref (x 43), .int (Pnx L4), .int (Ppt L4), .int (Pbl L4)])), (x 41, .inl (cI, 6, .inl (Pkd L4))), (x 42, .inl (cI, 6, .inl (Plg L4))), (x 43, .inl (cI, 6, .inl (Pwh L4))), (x 44, .inl (cA, 5, .inr (.inr (.inr (.inr (wyF x)))))), (x 45, .inl (cI, 6, .inl W0)), (x 46, .inl (cI, 6, .inl W1)), (x 47, .inl (cI, 6, .inl W2)), (x 48, .inl (cI, 6, .inl W3)), (x 49, .inl (cI, 6, .inl W4)), (x 50, .inl (cI, 21, .inl Cs)), (x 51, .inr (2, [.int (Pbo Tr), .int (Psz Tr), .ref (x 52), .ref (x 53), .ref (x 54), .int (Pnx Tr), .int (Ppt Tr), .int (Pbl Tr)])), (x 52, .inl (cI, 6, .inl (Pkd Tr))), (x 53, .inl (cI, 6, .inl (Plg Tr))), (x 54, .inl (cI, 6, .inl (Pwh Tr))), (x 55, .inl (cI, 6, .inl Tu)), (x 56, .inl (cI, 6, .inl Be)), (x 57, .inl (cI, 6, .inl Se)), (x 58, .inl (cA, 6, .inr (.inr (.inr (.inr (gaF x)))))), (x 59, .inl (cI, 6, .inl (Gm 0))), (x 60, .inl (cI, 6, .inl (Gm 1))), (x 61, .inl (cI, 6, .inl (Gm 2))), (x 62, .inl (cI, 6, .inl (Gm 3))), (x 63, .inl (cI, 6, .inl (Gm 4))), (x 64, .inl (cI, 6, .inl (Gm 5)))]) (w2 := fun u => XW x cI cP cA cF X P Rw No u.1 Pa fI Tx u.2 bb Rd P3 Eb L0 L1 L2 L3 L4 W0 W1 W2 W3 W4 Cs Tr Tu Be Se Gm) [0, 1, 2, 3, 4, 5, 9, 10, 15] [6, 7, 8, 11, 12, 13, 14, 16, 17, 18, 19, 20, 21, 22, 23, 24, 25, 26, 27, 28, 29, 30, 31, 32, 33, 34, 35, 36, 37, 38, 39, 40, 41, 42, 43, 44, 45, 46, 47, 48, 49, 50, 51, 52, 53, 54, 55, 56, 57, 58, 59, 60, 61, 62, 63, 64] [56, 57, 58, 59, 60, 61, 0, 1, 2, 62, 63, 3, 4, 5, 6, 64, 7, 8, 9, 10, 11, 12, 13, 14, 15, 16, 17, 18, 19, 20, 21, 22, 23, 24, 25, 26, 27, 28, 29, 30, 31, 32, 33, 34, 35, 36, 37, 38, 39, 40, 41, 42, 43, 44, 45, 46, 47, 48, 49, 50, 51, 52, 53, 54, 55] ⟨hx, hb, hml, hown, hts⟩ (c_X5_mark l dC dI x cI H.size X P Ma Rf (xs (i + 1)) (xs (i + 2)) (xs (i + 3)) (xs (i + 4)) (rel_sz hR.1) (rel_ma hR.1)) (cwV 4 hts gL_law_X5_mark rfl rfl rfl (by decide +kernel) ⟨Nat.le_of_ble_eq_true rfl, Nat.le_of_ble_eq_true rfl⟩) (preX (ci := 5) [0, 1, 2, 3, 4, 5, 9, 10, 15] hP hD (by decide) rfl (hK.sub [0] rfl) hN rfl rfl rfl) hP hD hS (fun _ h => h) rfl rfl (by decide) (by decide) (by decide) (by decide) (fun _ => rfl) rfl hl.1 rfl (Nat.le_of_ble_eq_true rfl) dL_law_698 hrm (fun r5 u5 H locs h5 hP hD hS => ?_)
  obtain ⟨Ma_5, Rf_5⟩ := u5
  refine lv_aload_n hx hb dL_law_701 rfl (lv_at hl 2 rfl) ?_
  refine lv_aload_n hx hb dL_law_702 rfl (lv_at hl 0 rfl) ?_
  refine lv_iload_n hx hb dL_law_703 rfl (lv_at hl 3 rfl) ?_
  refine lv_iconst (v := nI 1) hx hb dL_law_704 (by decide) ?_
  refine qv_iadd hx hb (i + 1) dL_law_705 rfl ?_
  refine qv_sld hx hb hX hbl hS (k := i + 1) (by omega) hL dL_law_706 ?_
  refine lv_aload_n hx hb dL_law_707 rfl (lv_at hl 0 rfl) ?_
  refine lv_iload_n hx hb dL_law_708 rfl (lv_at hl 3 rfl) ?_
  refine lv_iconst (v := nI 2) hx hb dL_law_709 (by decide) ?_
  refine qv_iadd hx hb (i + 2) dL_law_710 rfl ?_
  refine qv_sld hx hb hX hbl hS (k := i + 2) (by omega) hL dL_law_711 ?_
  refine lv_aload_n hx hb dL_law_712 rfl (lv_at hl 0 rfl) ?_
  refine lv_iload_n hx hb dL_law_713 rfl (lv_at hl 3 rfl) ?_
  refine lv_iconst (v := nI 3) hx hb dL_law_714 (by decide) ?_
  refine qv_iadd hx hb (i + 3) dL_law_715 rfl ?_
  refine qv_sld hx hb hX hbl hS (k := i + 3) (by omega) hL dL_law_716 ?_
  refine lv_aload_n hx hb dL_law_717 rfl (lv_at hl 0 rfl) ?_
  refine lv_iload_n hx hb dL_law_718 rfl (lv_at hl 3 rfl) ?_
  refine lv_iconst (v := nI 4) hx hb dL_law_719 (by decide) ?_
  refine qv_iadd hx hb (i + 4) dL_law_720 rfl ?_
  refine qv_sld hx hb hX hbl hS (k := i + 4) (by omega) hL dL_law_721 ?_
  have hP : va_P (dC, dI) vwCl (XW x cI cP cA cF X P Rw No Ma_5 Pa fI Tx Rf_5 bb Rd P3 Eb L0 L1 L2 L3 L4 W0 W1 W2 W3 W4 Cs Tr Tu Be Se Gm ++ (mW q cI cZ w kp Tx (Xtl X) (Xab X) (Xbe X) Rf po st nu li fi ga hh ++ (imC cI im0 ++ imC cI im1))) H := hP
  have hD : va_D (lA s) (XW x cI cP cA cF X P Rw No Ma_5 Pa fI Tx Rf_5 bb Rd P3 Eb L0 L1 L2 L3 L4 W0 W1 W2 W3 W4 Cs Tr Tu Be Se Gm ++ (mW q cI cZ w kp Tx (Xtl X) (Xab X) (Xbe X) Rf po st nu li fi ga hh ++ (imC cI im0 ++ imC cI im1))) := hD
  have hP := lw_m1 (lw_sa hP)
  have hD := lw_m1D (lw_saD hD)
  refine lz_i (Y := mW q cI cZ w kp Tx (Xtl X) (Xab X) (Xbe X) Rf po st nu li fi ga hh) (pl := XW x cI cP cA cF X P Rw No Ma_5 Pa fI Tx Rf_5 bb Rd P3 Eb L0 L1 L2 L3 L4 W0 W1 W2 W3 W4 Cs Tr Tu Be Se Gm ++ (imC cI im0 ++ imC cI im1)) (As := [.int (xs (i + 1)), .int (xs (i + 2)), .int (xs (i + 3)), .int (xs (i + 4))]) (rest := [.int r5]) (wr := []) (w2 := fun u => mW q cI cZ u.1 kp Tx (Xtl X) (Xab X) (Xbe X) u.2 po st nu li fi ga hh) [0, 1, 2, 3, 4, 5, 6, 7] [] [0, 1, 2, 3, 4, 5, 6, 7] ⟨hx, hb, hml, hown, hts⟩ (c_X6_mark l dC dI q cI cZ H.size w kp Tx (Xtl X) (Xab X) (Xbe X) Rf po st nu li fi ga hh (xs (i + 1)) (xs (i + 2)) (xs (i + 3)) (xs (i + 4)) (rel_w0 hR.1).1 (rel_w0 hR.1).2.2.2.1) (cwV 4 hts gL_law_X6_mark rfl rfl rfl (by decide +kernel) ⟨Nat.le_of_ble_eq_true rfl, Nat.le_of_ble_eq_true rfl⟩) (preM (ci := 6) [0, 1, 2, 3, 4, 5, 6, 7] hP hD (by decide) rfl (hK.sub [0, 4] rfl) rfl rfl rfl) hP hD hS (fun _ h => h) rfl rfl (by decide) (by decide) (by decide) (by decide) (fun _ => rfl) rfl hl.1 rfl (Nat.le_of_ble_eq_true rfl) dL_law_722 hrm (fun r6 u6 H locs h6 hP hD hS => ?_)
  have hP := lw_m2 hP
  have hD := lw_m2D hD
  obtain ⟨w_6, su_6⟩ := u6
  have E := mark_eq (su := Rf) hR.1 (xs (i + 1)) (xs (i + 2)) (xs (i + 3)) (xs (i + 4))
  rw [h5, h6] at E
  obtain ⟨e1, e2, e3, e4⟩ := E
  have e1 : r6 = r5 := e1
  have e2 : su_6 = Rf_5 := e2
  subst e1
  subst e2
  refine lv_icmp_eq (tgt := 1011) hx hb dL_law_725 (by decide) (fun _ => ?_) (fun z => absurd rfl z)
  exact lw_tail hC0 hn hi hf (by omega) (by omega) (by exact (RelL_upd hR e3 (fun j a b => e4 j a))) hP hD hS hl
set_option maxHeartbeats 4000000 in
set_option maxRecDepth 100000 in
theorem lw_case_forget {p : Program} {l : Launch} {e : Env} {s : State} {m : MethodId} {below : List Frame} {meth : Method} {c : Code} {dC : Nat → ClassId} {dI : Nat → Nat → Nat} {x q : Nat → Nat} {b L : Nat} {xs : Nat → Int32} {cI cP cA cF cZ : ClassId} {t fr : Nat} {adK adV : Nat → Nat} (hC : LawC p s m meth c b L xs dC dI cI cP cA cF cZ t fr adK adV) {n i : Nat} (hn : HeadQ p l e s m below meth c dC dI x q b L cI cP cA cF cZ n) (hi : i + 5 ≤ L) (hf : L < i + (n + 1)) {X : xS} {P : pS} {Rw : Nat → Int32} {No : rS} {Ma : rS} {Pa : rS} {fI : Nat → Option Nat} {Tx : Nat → Int32} {Rf : Nat → Int32} {bb : Nat} {Rd : dS} {P3 : pS} {Eb : Nat → Int32} {L0 : pS} {L1 : pS} {L2 : pS} {L3 : pS} {L4 : pS} {W0 : Nat → Int32} {W1 : Nat → Int32} {W2 : Nat → Int32} {W3 : Nat → Int32} {W4 : Nat → Int32} {Cs : Nat → Int32} {Tr : pS} {Tu : Nat → Int32} {Be : Nat → Int32} {Se : Nat → Int32} {Gm : Nat → Nat → Int32} {w : Nat → Int32} {kp : Nat → Int32} {po : Int32} {st : Int32} {nu : Int32} {li : Nat → Int32} {fi : Nat → Int32} {ga : Nat → Int32} {hh : Int64} {im0 im1 : iT} {H : Heap} {locs : List Loc} {ls : Array Slot} (hR : RelL X P Rw No Ma Pa fI Tx w kp im0 im1) (hP : va_P (dC, dI) vwCl ((XW x cI cP cA cF X P Rw No Ma Pa fI Tx Rf bb Rd P3 Eb L0 L1 L2 L3 L4 W0 W1 W2 W3 W4 Cs Tr Tu Be Se Gm ++ mW q cI cZ w kp Tx (Xtl X) (Xab X) (Xbe X) Rf po st nu li fi ga hh) ++ (imC cI im0 ++ imC cI im1)) H) (hD : va_D (lA s) ((XW x cI cP cA cF X P Rw No Ma Pa fI Tx Rf bb Rd P3 Eb L0 L1 L2 L3 L4 W0 W1 W2 W3 W4 Cs Tr Tu Be Se Gm ++ mW q cI cZ w kp Tx (Xtl X) (Xab X) (Xbe X) Rf po st nu li fi ga hh) ++ (imC cI im0 ++ imC cI im1))) (hS : va_S (lA s) s.heap H locs) (hl : lv_has ls 4 [(0, .ref b), (1, .ref (x 0)), (2, .ref (q 0)), (3, .int (nI i))]) : W p l e room_1 s m #[Value.ref b] below meth c H locs (100 + 12 * i) (2000 + 162 * i) (lw_Z below #[Value.ref b] s) (F0 m 730 ls []) := by
  have hC0 := hC
  obtain ⟨hx, hb, hr, hml, hown, hts, hX, hbl, hlocks, hK, hN, hE, hG, hXA, hL⟩ := hC
  have hrm : 100 + 12 * i + 0 ≤ room_1.cells ∧ 2000 + 162 * i + 0 ≤ room_1.slots := ⟨Nat.le_trans (show 100 + 12 * i + 0 ≤ 600000 by omega) (Nat.le_of_ble_eq_true rfl), Nat.le_trans (show 2000 + 162 * i + 0 ≤ 7302250 by omega) (Nat.le_of_ble_eq_true rfl)⟩
  refine lv_aload_n hx hb dL_law_730 rfl (lv_at hl 1 rfl) ?_
  refine lv_aload_n hx hb dL_law_731 rfl (lv_at hl 0 rfl) ?_
  refine lv_iload_n hx hb dL_law_732 rfl (lv_at hl 3 rfl) ?_
  refine lv_iconst (v := nI 1) hx hb dL_law_733 (by decide) ?_
  refine qv_iadd hx hb (i + 1) dL_law_734 rfl ?_
  refine qv_sld hx hb hX hbl hS (k := i + 1) (by omega) hL dL_law_735 ?_
  have hP := lw_as hP
  have hD := lw_asD hD
  refine lz_i (Y := XW x cI cP cA cF X P Rw No Ma Pa fI Tx Rf bb Rd P3 Eb L0 L1 L2 L3 L4 W0 W1 W2 W3 W4 Cs Tr Tu Be Se Gm) (As := [.int (xs (i + 1))]) (rest := []) (wr := [(x 2, .inr (2, [.int (Pbo P), .int (Psz P), .ref (x 3), .ref (x 4), .ref (x 5), .int (Pnx P), .int (Ppt P), .int (Pbl P)])), (x 3, .inl (cI, 6, .inl (Pkd P))), (x 4, .inl (cI, 6, .inl (Plg P))), (x 5, .inl (cI, 6, .inl (Pwh P))), (x 6, .inl (cI, 8, .inl Rw)), (x 11, .inr (4, [.int (nI 9), .ref (x 12), .int (Rus Pa)])), (x 12, .inl (cI, 72, .inl (Rce Pa))), (x 13, .inl (cF, 2, .inr (.inr (.inr (.inr fI))))), (x 14, .inl (cI, 150, .inl Tx)), (x 16, .inr (3, [.ref (x 17), .ref bb, .int (nI ((Dln Rd))), .int (nI ((Dbh Rd))), .int (nI ((Dsa Rd))), .int (Dtk Rd), .int (Dvl Rd)])), (x 17, .inr (2, [.int (Pbo P3), .int (Psz P3), .ref (x 18), .ref (x 19), .ref (x 20), .int (Pnx P3), .int (Ppt P3), .int (Pbl P3)])), (x 18, .inl (cI, 6, .inl (Pkd P3))), (x 19, .inl (cI, 6, .inl (Plg P3))), (x 20, .inl (cI, 6, .inl (Pwh P3))), (x 21, .inl (cI, 0, .inl Eb)), (x 22, .inr (0, [.ref (x 23), .ref (x 44), .ref (x 50)])), (x 23, .inl (cP, 5, .inr (.inr (.inr (.inr (lvF x)))))), (x 24, .inr (2, [.int (Pbo L0), .int (Psz L0), .ref (x 25), .ref (x 26), .ref (x 27), .int (Pnx L0), .int (Ppt L0), .int (Pbl L0)])), (x 25, .inl (cI, 6, .inl (Pkd L0))), (x 26, .inl (cI, 6, .inl (Plg L0))), (x 27, .inl (cI, 6, .inl (Pwh L0))), (x 28, .inr (2, [.int (Pbo L1), .int (Psz L1), .ref (x 29), .ref (x 30), .ref (x 31), .int (Pnx L1), .int (Ppt L1), .int (Pbl L1)])), (x 29, .inl (cI, 6, .inl (Pkd L1))), (x 30, .inl (cI, 6, .inl (Plg L1))), (x 31, .inl (cI, 6, .inl (Pwh L1))), (x 32, .inr (2, [.int (Pbo L2), .int (Psz L2), .ref (x 33), .ref (x 34), .ref (x 35), .int (Pnx L2), .int (Ppt L2), .int (Pbl L2)])), (x 33, .inl (cI, 6, .inl (Pkd L2))), (x 34, .inl (cI, 6, .inl (Plg L2))), (x 35, .inl (cI, 6, .inl (Pwh L2))), (x 36, .inr (2, [.int (Pbo L3), .int (Psz L3), .ref (x 37), .ref (x 38), .ref (x 39), .int (Pnx L3), .int (Ppt L3), .int (Pbl L3)])), (x 37, .inl (cI, 6, .inl (Pkd L3))), (x 38, .inl (cI, 6, .inl (Plg L3))), (x 39, .inl (cI, 6, .inl (Pwh L3))), (x 40, .inr (2, [.int (Pbo L4), .int (Psz L4), .ref (x 41), .ref (x 42), .ref (x 43), .int (Pnx L4), .int (Ppt L4), .int (Pbl L4)])), (x 41, .inl (cI, 6, .inl (Pkd L4))), (x 42, .inl (cI, 6, .inl (Plg L4))), (x 43, .inl (cI, 6, .inl (Pwh L4))), (x 44, .inl (cA, 5, .inr (.inr (.inr (.inr (wyF x)))))), (x 45, .inl (cI, 6, .inl W0)), (x 46, .inl (cI, 6, .inl W1)), (x 47, .inl (cI, 6, .inl W2)), (x 48, .inl (cI, 6, .inl W3)), (x 49, .inl (cI, 6, .inl W4)), (x 50, .inl (cI, 21, .inl Cs)), (x 51, .inr (2, [.int (Pbo Tr), .int (Psz Tr), .ref (x 52), .ref (x 53), .ref (x 54), .int (Pnx Tr), .int (Ppt Tr), .int (Pbl Tr)])), (x 52, .inl (cI, 6, .inl (Pkd Tr))), (x 53, .inl (cI, 6, .inl (Plg Tr))), (x 54, .inl (cI, 6, .inl (Pwh Tr))), (x 55, .inl (cI, 6, .inl Tu)), (x 56, .inl (cI, 6, .inl Be)), (x 57, .inl (cI, 6, .inl Se)), (x 58, .inl (cA, 6, .inr (.inr (.inr (.inr (gaF x)))))), (x 59, .inl (cI, 6, .inl (Gm 0))), (x 60, .inl (cI, 6, .inl (Gm 1))), (x 61, .inl (cI, 6, .inl (Gm 2))), (x 62, .inl (cI, 6, .inl (Gm 3))), (x 63, .inl (cI, 6, .inl (Gm 4))), (x 64, .inl (cI, 6, .inl (Gm 5)))]) (w2 := fun u => XW x cI cP cA cF X P Rw u.1 u.2.1 Pa fI Tx u.2.2 bb Rd P3 Eb L0 L1 L2 L3 L4 W0 W1 W2 W3 W4 Cs Tr Tu Be Se Gm) [0, 1, 7, 8, 9, 10, 15] [2, 3, 4, 5, 6, 11, 12, 13, 14, 16, 17, 18, 19, 20, 21, 22, 23, 24, 25, 26, 27, 28, 29, 30, 31, 32, 33, 34, 35, 36, 37, 38, 39, 40, 41, 42, 43, 44, 45, 46, 47, 48, 49, 50, 51, 52, 53, 54, 55, 56, 57, 58, 59, 60, 61, 62, 63, 64] [58, 59, 0, 1, 2, 3, 4, 60, 61, 62, 63, 5, 6, 7, 8, 64, 9, 10, 11, 12, 13, 14, 15, 16, 17, 18, 19, 20, 21, 22, 23, 24, 25, 26, 27, 28, 29, 30, 31, 32, 33, 34, 35, 36, 37, 38, 39, 40, 41, 42, 43, 44, 45, 46, 47, 48, 49, 50, 51, 52, 53, 54, 55, 56, 57] ⟨hx, hb, hml, hown, hts⟩ (c_X5_forget l dC dI x cI H.size X No Ma Rf (xs (i + 1)) (rel_no hR.1) (rel_ma hR.1)) (cwV 1 hts gL_law_X5_forget rfl rfl rfl (by decide +kernel) ⟨Nat.le_of_ble_eq_true rfl, Nat.le_of_ble_eq_true rfl⟩) (preX (ci := 5) [0, 1, 7, 8, 9, 10, 15] hP hD (by decide) rfl (hK.sub [0] rfl) hN rfl rfl rfl) hP hD hS (fun _ h => h) rfl rfl (by decide) (by decide) (by decide) (by decide) (fun _ => rfl) rfl hl.1 rfl (Nat.le_of_ble_eq_true rfl) dL_law_736 hrm (fun r5 u5 H locs h5 hP hD hS => ?_)
  obtain ⟨No_5, Ma_5, Rf_5⟩ := u5
  refine lv_aload_n hx hb dL_law_739 rfl (lv_at hl 2 rfl) ?_
  refine lv_aload_n hx hb dL_law_740 rfl (lv_at hl 0 rfl) ?_
  refine lv_iload_n hx hb dL_law_741 rfl (lv_at hl 3 rfl) ?_
  refine lv_iconst (v := nI 1) hx hb dL_law_742 (by decide) ?_
  refine qv_iadd hx hb (i + 1) dL_law_743 rfl ?_
  refine qv_sld hx hb hX hbl hS (k := i + 1) (by omega) hL dL_law_744 ?_
  have hP : va_P (dC, dI) vwCl (XW x cI cP cA cF X P Rw No_5 Ma_5 Pa fI Tx Rf_5 bb Rd P3 Eb L0 L1 L2 L3 L4 W0 W1 W2 W3 W4 Cs Tr Tu Be Se Gm ++ (mW q cI cZ w kp Tx (Xtl X) (Xab X) (Xbe X) Rf po st nu li fi ga hh ++ (imC cI im0 ++ imC cI im1))) H := hP
  have hD : va_D (lA s) (XW x cI cP cA cF X P Rw No_5 Ma_5 Pa fI Tx Rf_5 bb Rd P3 Eb L0 L1 L2 L3 L4 W0 W1 W2 W3 W4 Cs Tr Tu Be Se Gm ++ (mW q cI cZ w kp Tx (Xtl X) (Xab X) (Xbe X) Rf po st nu li fi ga hh ++ (imC cI im0 ++ imC cI im1))) := hD
  have hP := lw_m1 (lw_sa hP)
  have hD := lw_m1D (lw_saD hD)
  refine lz_i (Y := mW q cI cZ w kp Tx (Xtl X) (Xab X) (Xbe X) Rf po st nu li fi ga hh) (pl := XW x cI cP cA cF X P Rw No_5 Ma_5 Pa fI Tx Rf_5 bb Rd P3 Eb L0 L1 L2 L3 L4 W0 W1 W2 W3 W4 Cs Tr Tu Be Se Gm ++ (imC cI im0 ++ imC cI im1)) (As := [.int (xs (i + 1))]) (rest := [.int r5]) (wr := []) (w2 := fun u => mW q cI cZ u.1 kp Tx (Xtl X) (Xab X) (Xbe X) u.2 po st nu li fi ga hh) [0, 1, 2, 3, 4, 5, 6, 7] [] [0, 1, 2, 3, 4, 5, 6, 7] ⟨hx, hb, hml, hown, hts⟩ (c_X6_forget l dC dI q cI cZ H.size w kp Tx (Xtl X) (Xab X) (Xbe X) Rf po st nu li fi ga hh (xs (i + 1)) ) (cwV 1 hts gL_law_X6_forget rfl rfl rfl (by decide +kernel) ⟨Nat.le_of_ble_eq_true rfl, Nat.le_of_ble_eq_true rfl⟩) (preM (ci := 6) [0, 1, 2, 3, 4, 5, 6, 7] hP hD (by decide) rfl (hK.sub [0, 4] rfl) rfl rfl rfl) hP hD hS (fun _ h => h) rfl rfl (by decide) (by decide) (by decide) (by decide) (fun _ => rfl) rfl hl.1 rfl (Nat.le_of_ble_eq_true rfl) dL_law_745 hrm (fun r6 u6 H locs h6 hP hD hS => ?_)
  have hP := lw_m2 hP
  have hD := lw_m2D hD
  obtain ⟨w_6, su_6⟩ := u6
  have E := forget_eq (su := Rf) hR.1 (xs (i + 1))
  rw [h5, h6] at E
  obtain ⟨e1, e2, e3, e4⟩ := E
  have e1 : r6 = r5 := e1
  have e2 : su_6 = Rf_5 := e2
  subst e1
  subst e2
  refine lv_icmp_eq (tgt := 1011) hx hb dL_law_748 (by decide) (fun _ => ?_) (fun z => absurd rfl z)
  exact lw_tail hC0 hn hi hf (by omega) (by omega) (by exact (RelL_upd hR e3 (fun j a b => e4 j a))) hP hD hS hl
