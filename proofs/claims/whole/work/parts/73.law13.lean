theorem lw_begin : RelL (0, 0, 1) (0, 0, fun _ => 0, fun _ => 0, fun _ => 0, -1, 0, 0) fl8 (fun _ => 0, 0) (fun _ => 0, 0) (fun _ => 0, 0) (fun _ => none) (fun _ => 0) mw0 (fun _ => 0) none none := by
  refine ⟨?_, inB_nI (n := 0) (by decide) (by decide), fun j hj => absurd hj (by show ¬ j < tN (nI 0); rw [tN_nI (by decide)]; omega), ⟨rfl, rfl⟩, rfl, rfl⟩
  refine relF_new (kd := nI 0) (k := 0) (by decide) rfl (fun j hj => ?_) (fun k hk => fl8_at _ _ hk)
  unfold mw0
  rw [beg_at]
  simp only [Nat.zero_add]
  by_cases a : 23 ≤ j ∧ j < 31
  · rw [if_pos a, if_pos a]
  · rw [if_neg a, if_neg a]
    by_cases b : j = 2
    · rw [if_pos b, if_pos b]
    · rw [if_neg b, if_neg b]
      by_cases d : j = 1
      · rw [if_pos d, if_pos d]
      · rw [if_neg d, if_neg d, if_pos ⟨Nat.zero_le _, hj⟩]
section LAWV
variable {p : Program} {l : Launch} {e : Env} {R : Room} {s : State} {m : MethodId} {args : Array Value} {below : List Frame} {meth : Method} {c : Code} {H : Heap} {locs : List Loc} {cells slots : Nat} {Q : State → Prop}
variable {cc : ByteArray} {pc : Nat} {ls : Array Slot} {rest : List Value} {D : va_G} {cl : List vw_C} {A : Nat → Prop} {tysC : List (ClassId × FieldType)} {Y pl wc wr : va_W} {H0 : Heap}
variable {y : MethodName} {wy Ts : List Cond} {rm : Room} {own : String} {index maxL nL nA b mc ms : Nat} {bytes : ByteArray} {As st0 : List Value} {Pc : Array Value → State → Prop}
theorem preMS (isC : List Nat) (hP : va_P D cl (Y ++ pl) H) (hD : va_D A (Y ++ pl)) (hn : va_nd isC = true) (hC : isC.map (fun i => Y[i]?) = wc.map some) (hK : va_K D cl tysC s) : PreS s H (mPc D cl tysC wc H.size As) As := by
  have hPc := lw_part hP isC hC
  have hDc := lw_partD hD isC hn hC
  exact ⟨mPc_blind, fun U hU hW => ⟨rfl, by rw [hU], by rw [hU]; exact hPc, va_K.moved hW.alike hK, hDc.weaken (fun _ _ _ _ => trivial)⟩⟩
theorem lz_v {S : Type} {post : S → Prop} {wc' : S → va_W} (isC isR : List Nat) (S0 : CallFix p m c cc nL s args Ts own)
    (hM : Met l y wy rm Pc (va_Qv post (mB D cl tysC (va_A wc H.size) wc') (va_A wc H.size)) mc ms (va_A wc H.size))
    (cw : CallB R s args own index y bytes maxL none wy rm mc ms nA ∧ y.name = "<init>" ∧ (Cond.instanceMethod y).before args s = true) (hpre : PreS s H Pc (.ref b :: As)) (hP : va_P D cl (Y ++ pl) H) (hD : va_D A (Y ++ pl)) (hS : va_S A H0 H locs) (hA : ∀ q, H0.size ≤ q → A q)
    (hC : isC.map (fun i => Y[i]?) = wc.map some) (hR : isR.map (fun i => Y[i]?) = wr.map some) (hnC : va_nd isC = true) (hnR : va_nd isR = true) (hdis : ∀ i ∈ isR, i ∉ isC)
    (hn : As.length = nA) (hsize : ls.size = nL) (hst : st0 = As.reverse ++ .ref b :: rest) (hW : (rest.map fun v => v.category).sum ≤ 8) (hdg : decode cc pc = .ok (.invokespecial index, 3)) (hf : cells + mc ≤ R.cells ∧ slots + ms ≤ R.slots)
    (kk : ∀ (u : S) (H1 : Heap) (locs1 : List Loc), post u → va_P D cl ((wr ++ wc' u) ++ pl) H1 → va_D A ((wr ++ wc' u) ++ pl) → va_S A H0 H1 locs1 → W p l e R s m args below meth c H1 locs1 (cells + mc) (slots + ms) Q (F0 m (pc + 3) ls rest)) : W p l e R s m args below meth c H locs cells slots Q (F0 m pc ls st0) := by
  have hFc := lw_partF hD hS hA isC hnC hC
  refine va_callv (va_runI (As := As) (rest := rest) (b := b) S0 hM cw hpre rfl hn hsize hst (lv_room hW) hdg hf) hS (fun q _ h => hFc q h) hFc (fun u t H1 locs1 ht hvm hw hB hz1 hk1 hS1 => ?_)
  obtain ⟨hP1, -, hD1⟩ := hB
  rw [ht] at hP1
  obtain ⟨hP2, hD2⟩ := va_joinQ (wr := wr) (w1 := wc' u) hP hD isC isR hC hR hnR hdis hk1 hFc hP1 hD1
  exact kk u H1 locs1 hw hP2 hD2 hS1
end LAWV
set_option maxHeartbeats 4000000 in
set_option maxRecDepth 100000 in
/-- from the entry, for every script of at most 2560 ints, the law comes to its end with true -/
theorem whole_start {p : Program} {e : Env} {s : State} {m : MethodId} {below : List Frame} {meth : Method} {c : Code} (l : Launch) {b L : Nat} {xs : Nat → Int32} (hL : L ≤ 2560) (C0 : lw_At p s m meth c b L xs) : W p l e room_1 s m #[Value.ref b] below meth c s.heap [] 0 0 (lw_Z below #[Value.ref b] s) (entryFrame m ([Value.ref b] : List Value).toArray 4) := by
  obtain ⟨hx, hb, hr, hml, hown, hts, hX, hbl, hlocks, hgv⟩ := C0
  have htl : ∀ w ∈ lw_tbl, w.before #[Value.ref b] s = true := hts
  have hown : s.vm.findClass RL = some m.cls := hown
  have hb : c.code = cL_law := hb
  obtain ⟨dC, dI, cI, cP, cA, cF, cZ, hK⟩ := lw_xK hts
  obtain ⟨t, hE⟩ := lw_xE hts hgv
  obtain ⟨fr, adK, adV, hG⟩ := lw_xG hts hgv
  have hN := lw_xN hts
  have hXA := lw_xA hts
  have hC : LawC p s m meth c b L xs dC dI cI cP cA cF cZ t fr adK adV := ⟨hx, hb, hr, hml, hown, htl, hX, hbl, hlocks, hK, hN, hE, hG, hXA, hL⟩
  have hS : va_S (lA s) s.heap s.heap [] := va_S.rf
  have hP : va_P (dC, dI) vwCl [] s.heap := fun k q h => by simp at h
  have hD : va_D (lA s) [] := ⟨fun i j p q h => by simp at h, fun k q h => by simp at h⟩
  have hl := lv_entry ([.ref b]) (n := 4) (Nat.le_of_ble_eq_true rfl)
  rw [lg_entry_eq]
  generalize (lg_sl ([.ref b]) ++ List.replicate (4 - (lg_sl ([.ref b])).length) Slot.unset).toArray = ls at hl ⊢
  have hl : lv_has ls 4 [(0, .ref b)] := hl
  refine va_new (ci := 5) (fs := [.null, .null, .null, .int 0, .long 0, .long 0, .null, .null, .null, .null, .null, .null, .null, .null]) (C := RX5) (T := TX5) (N := 14) hx hb htl inX5 tyX5 tyX5_ok hown (htl (.classLink RL 7 RX5) (by decide +kernel)) (htl (.instantiable RX5 14) (by decide +kernel)) (htl (.initialized RX5) (by decide +kernel)) hK hP hD hS (fun _ h => h) rfl (fun j hj => by rcases (show j = 0 ∨ j = 1 ∨ j = 2 ∨ j = 3 ∨ j = 4 ∨ j = 5 ∨ j = 6 ∨ j = 7 ∨ j = 8 ∨ j = 9 ∨ j = 10 ∨ j = 11 ∨ j = 12 ∨ j = 13 by omega) with rfl | rfl | rfl | rfl | rfl | rfl | rfl | rfl | rfl | rfl | rfl | rfl | rfl | rfl <;> rfl) (Nat.le_of_ble_eq_true rfl) (Nat.le_of_ble_eq_true rfl) dL_law_0 (fun a H hP hD hS => ?_)
  have hP : va_P (dC, dI) vwCl [(a, .inr (5, [.null, .null, .null, .int 0, .long 0, .long 0, .null, .null, .null, .null, .null, .null, .null, .null]))] H := hP
  have hD : va_D (lA s) [(a, .inr (5, [.null, .null, .null, .int 0, .long 0, .long 0, .null, .null, .null, .null, .null, .null, .null, .null]))] := hD
  refine lv_dup hx hb dL_law_3 rfl ?_
  refine qx_I (As := []) (rest := [.ref a]) (wr := []) [0] [] ⟨hx, hb, hml, hown, htl⟩ (c_X5_init l dC dI a cI cP cA cF H.size) (cwI 0 htl gL_law_X5_init rfl rfl rfl (htl (.initialized RX5) (by decide +kernel)) (htl (.methodLink RL 9 yX5_init) (by decide +kernel)) (htl (.instanceMethod yX5_init) (by decide +kernel)) rfl (by decide +kernel) ⟨Nat.le_of_ble_eq_true rfl, Nat.le_of_ble_eq_true rfl⟩) (hK.sub [0, 1, 2, 3] rfl) hP hD hS (fun _ h => h) hN hXA rfl rfl (by decide) (by decide) (by decide) rfl hl.1 rfl (Nat.le_of_ble_eq_true rfl) dL_law_4 ⟨Nat.le_of_ble_eq_true rfl, Nat.le_of_ble_eq_true rfl⟩ (fun x H locs hx0 hP5 hD5 hS => ?_)
  subst hx0
  have hP : va_P (dC, dI) vwCl (XW x cI cP cA cF (0, 0, 1) (0, 0, fun _ => 0, fun _ => 0, fun _ => 0, -1, 0, 0) fl8 (fun _ => 0, 0) (fun _ => 0, 0) (fun _ => 0, 0) (fun _ => none) (fun _ => 0) (fun _ => 0) (x 21) (0, 0, 0, 0, 0) (0, 0, fun _ => 0, fun _ => 0, fun _ => 0, -1, 0, 0) (fun _ => 0) (0, 0, fun _ => 0, fun _ => 0, fun _ => 0, -1, 0, 0) (0, 0, fun _ => 0, fun _ => 0, fun _ => 0, -1, 0, 0) (0, 0, fun _ => 0, fun _ => 0, fun _ => 0, -1, 0, 0) (0, 0, fun _ => 0, fun _ => 0, fun _ => 0, -1, 0, 0) (0, 0, fun _ => 0, fun _ => 0, fun _ => 0, -1, 0, 0) (fun _ => 0) (fun _ => 0) (fun _ => 0) (fun _ => 0) (fun _ => 0) (fun _ => 0) (0, 0, fun _ => 0, fun _ => 0, fun _ => 0, -1, 0, 0) (fun _ => 0) (fun _ => 0) (fun _ => 0) (fun _ _ => 0)) H := hP5
  have hD : va_D (lA s) (XW x cI cP cA cF (0, 0, 1) (0, 0, fun _ => 0, fun _ => 0, fun _ => 0, -1, 0, 0) fl8 (fun _ => 0, 0) (fun _ => 0, 0) (fun _ => 0, 0) (fun _ => none) (fun _ => 0) (fun _ => 0) (x 21) (0, 0, 0, 0, 0) (0, 0, fun _ => 0, fun _ => 0, fun _ => 0, -1, 0, 0) (fun _ => 0) (0, 0, fun _ => 0, fun _ => 0, fun _ => 0, -1, 0, 0) (0, 0, fun _ => 0, fun _ => 0, fun _ => 0, -1, 0, 0) (0, 0, fun _ => 0, fun _ => 0, fun _ => 0, -1, 0, 0) (0, 0, fun _ => 0, fun _ => 0, fun _ => 0, -1, 0, 0) (0, 0, fun _ => 0, fun _ => 0, fun _ => 0, -1, 0, 0) (fun _ => 0) (fun _ => 0) (fun _ => 0) (fun _ => 0) (fun _ => 0) (fun _ => 0) (0, 0, fun _ => 0, fun _ => 0, fun _ => 0, -1, 0, 0) (fun _ => 0) (fun _ => 0) (fun _ => 0) (fun _ _ => 0)) := hD5
  refine lv_astore_n (lv' := [(1, .ref (x 0)), (0, .ref b)]) hx hb dL_law_7 rfl hl (by decide) rfl (fun ls hl => ?_)
  refine va_new (ci := 6) (fs := [.null, .null, .null, .int 0, .long 0, .long 0, .null, .int 0, .int 0, .int 0, .null, .null, .null, .long 0]) (C := RX6) (T := TX6) (N := 14) hx hb htl inX6 tyX6 tyX6_ok hown (htl (.classLink RL 10 RX6) (by decide +kernel)) (htl (.instantiable RX6 14) (by decide +kernel)) (htl (.initialized RX6) (by decide +kernel)) hK hP hD hS (fun _ h => h) rfl (fun j hj => by rcases (show j = 0 ∨ j = 1 ∨ j = 2 ∨ j = 3 ∨ j = 4 ∨ j = 5 ∨ j = 6 ∨ j = 7 ∨ j = 8 ∨ j = 9 ∨ j = 10 ∨ j = 11 ∨ j = 12 ∨ j = 13 by omega) with rfl | rfl | rfl | rfl | rfl | rfl | rfl | rfl | rfl | rfl | rfl | rfl | rfl | rfl <;> rfl) (Nat.le_of_ble_eq_true rfl) (Nat.le_of_ble_eq_true rfl) dL_law_8 (fun a H hP hD hS => ?_)
  refine lv_dup hx hb dL_law_11 rfl ?_
  have hP := lw_m1 (c := []) (by rw [List.append_nil]; exact hP)
  have hD := lw_m1D (c := []) (by rw [List.append_nil]; exact hD)
  refine lz_v (Y := [(a, .inr (6, [.null, .null, .null, .int 0, .long 0, .long 0, .null, .int 0, .int 0, .int 0, .null, .null, .null, .long 0]))]) (As := []) (rest := [.ref a]) (wr := []) [0] [] ⟨hx, hb, hml, hown, htl⟩ (c_X6_init l dC dI a cI cZ H.size) (cwI 0 htl gL_law_X6_init rfl rfl rfl (htl (.initialized RX6) (by decide +kernel)) (htl (.methodLink RL 12 yX6_init) (by decide +kernel)) (htl (.instanceMethod yX6_init) (by decide +kernel)) rfl (by decide +kernel) ⟨Nat.le_of_ble_eq_true rfl, Nat.le_of_ble_eq_true rfl⟩) (preMS [0] hP hD (by decide) rfl (hK.sub [0, 4] rfl)) hP hD hS (fun _ h => h) rfl rfl (by decide) (by decide) (by decide) rfl hl.1 rfl (Nat.le_of_ble_eq_true rfl) dL_law_12 ⟨Nat.le_of_ble_eq_true rfl, Nat.le_of_ble_eq_true rfl⟩ (fun q H locs hq0 hP6 hD6 hS => ?_)
  subst hq0
  have hP := lw_m2 hP6
  have hD := lw_m2D hD6
  have hP : va_P (dC, dI) vwCl ((XW x cI cP cA cF (0, 0, 1) (0, 0, fun _ => 0, fun _ => 0, fun _ => 0, -1, 0, 0) fl8 (fun _ => 0, 0) (fun _ => 0, 0) (fun _ => 0, 0) (fun _ => none) (fun _ => 0) (fun _ => 0) (x 21) (0, 0, 0, 0, 0) (0, 0, fun _ => 0, fun _ => 0, fun _ => 0, -1, 0, 0) (fun _ => 0) (0, 0, fun _ => 0, fun _ => 0, fun _ => 0, -1, 0, 0) (0, 0, fun _ => 0, fun _ => 0, fun _ => 0, -1, 0, 0) (0, 0, fun _ => 0, fun _ => 0, fun _ => 0, -1, 0, 0) (0, 0, fun _ => 0, fun _ => 0, fun _ => 0, -1, 0, 0) (0, 0, fun _ => 0, fun _ => 0, fun _ => 0, -1, 0, 0) (fun _ => 0) (fun _ => 0) (fun _ => 0) (fun _ => 0) (fun _ => 0) (fun _ => 0) (0, 0, fun _ => 0, fun _ => 0, fun _ => 0, -1, 0, 0) (fun _ => 0) (fun _ => 0) (fun _ => 0) (fun _ _ => 0) ++ mW q cI cZ mw0 (fun _ => 0) (fun _ => 0) 0 0 1 (fun _ => 0) 0 0 0 (fun _ => 0) (fun _ => 0) (fun _ => 0) 0) ++ (imC cI none ++ imC cI none)) H := hP
  have hD : va_D (lA s) ((XW x cI cP cA cF (0, 0, 1) (0, 0, fun _ => 0, fun _ => 0, fun _ => 0, -1, 0, 0) fl8 (fun _ => 0, 0) (fun _ => 0, 0) (fun _ => 0, 0) (fun _ => none) (fun _ => 0) (fun _ => 0) (x 21) (0, 0, 0, 0, 0) (0, 0, fun _ => 0, fun _ => 0, fun _ => 0, -1, 0, 0) (fun _ => 0) (0, 0, fun _ => 0, fun _ => 0, fun _ => 0, -1, 0, 0) (0, 0, fun _ => 0, fun _ => 0, fun _ => 0, -1, 0, 0) (0, 0, fun _ => 0, fun _ => 0, fun _ => 0, -1, 0, 0) (0, 0, fun _ => 0, fun _ => 0, fun _ => 0, -1, 0, 0) (0, 0, fun _ => 0, fun _ => 0, fun _ => 0, -1, 0, 0) (fun _ => 0) (fun _ => 0) (fun _ => 0) (fun _ => 0) (fun _ => 0) (fun _ => 0) (0, 0, fun _ => 0, fun _ => 0, fun _ => 0, -1, 0, 0) (fun _ => 0) (fun _ => 0) (fun _ => 0) (fun _ _ => 0) ++ mW q cI cZ mw0 (fun _ => 0) (fun _ => 0) 0 0 1 (fun _ => 0) 0 0 0 (fun _ => 0) (fun _ => 0) (fun _ => 0) 0) ++ (imC cI none ++ imC cI none)) := hD
  refine lv_astore_n (lv' := [(2, .ref (q 0)), (1, .ref (x 0)), (0, .ref b)]) hx hb dL_law_15 rfl hl (by decide) rfl (fun ls hl => ?_)
  refine lv_iconst (v := nI 0) hx hb dL_law_16 (by decide) ?_
  refine lv_istore_n (lv' := [(3, .int (nI 0)), (2, .ref (q 0)), (1, .ref (x 0)), (0, .ref b)]) hx hb dL_law_17 rfl hl (by decide) rfl (fun ls hl => ?_)
  refine W.widen (k := 100 + 12 * 0) (n := 2000 + 162 * 0) (by decide) (by decide) ?_
  exact lw_loop hC (L + 1) 0 (0, 0, 1) (0, 0, fun _ => 0, fun _ => 0, fun _ => 0, -1, 0, 0) fl8 (fun _ => 0, 0) (fun _ => 0, 0) (fun _ => 0, 0) (fun _ => none) (fun _ => 0) (fun _ => 0) (x 21) (0, 0, 0, 0, 0) (0, 0, fun _ => 0, fun _ => 0, fun _ => 0, -1, 0, 0) (fun _ => 0) (0, 0, fun _ => 0, fun _ => 0, fun _ => 0, -1, 0, 0) (0, 0, fun _ => 0, fun _ => 0, fun _ => 0, -1, 0, 0) (0, 0, fun _ => 0, fun _ => 0, fun _ => 0, -1, 0, 0) (0, 0, fun _ => 0, fun _ => 0, fun _ => 0, -1, 0, 0) (0, 0, fun _ => 0, fun _ => 0, fun _ => 0, -1, 0, 0) (fun _ => 0) (fun _ => 0) (fun _ => 0) (fun _ => 0) (fun _ => 0) (fun _ => 0) (0, 0, fun _ => 0, fun _ => 0, fun _ => 0, -1, 0, 0) (fun _ => 0) (fun _ => 0) (fun _ => 0) (fun _ _ => 0) mw0 (fun _ => 0) 0 0 0 (fun _ => 0) (fun _ => 0) (fun _ => 0) 0 none none H locs ls (Nat.zero_le _) (by omega) lw_begin hP hD hS (lv_sub hl [3, 2, 1, 0] rfl)
