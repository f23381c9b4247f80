/-! calls out of the law: the callee's cells out of a list, all behind it kept -/
abbrev lA (s : State) : Nat → Prop := fun q => s.heap.size ≤ q
theorem lw_part {D : va_G} {cl : List vw_C} {Y pl wc : va_W} {H : Heap} (hP : va_P D cl (Y ++ pl) H) (isC : List Nat) (hC : isC.map (fun i => Y[i]?) = wc.map some) : va_P D cl wc H := fun k q hk => (hP.part isC hC) k q (by rw [List.getElem?_append_left (List.getElem?_eq_some_iff.mp hk).1]; exact hk)
theorem lw_partD {A : Nat → Prop} {Y pl wc : va_W} (hD : va_D A (Y ++ pl)) (isC : List Nat) (hn : va_nd isC = true) (hC : isC.map (fun i => Y[i]?) = wc.map some) : va_D A wc := by
  have h := hD.part isC hn hC
  have up : ∀ (k : Nat) (q : Nat × va_E), wc[k]? = some q → (wc ++ pl)[k]? = some q := fun k q hk => by
    rw [List.getElem?_append_left (List.getElem?_eq_some_iff.mp hk).1]; exact hk
  exact ⟨fun i j a b hi hj e => h.1 i j a b (up i a hi) (up j b hj) e, fun k q hk => h.2 k q (up k q hk)⟩
theorem lw_partF {A : Nat → Prop} {Y pl wc : va_W} {H0 H : Heap} {locs : List Loc} (hD : va_D A (Y ++ pl)) (hS : va_S A H0 H locs) (hA : ∀ q, H0.size ≤ q → A q) (isC : List Nat) (hn : va_nd isC = true) (hC : isC.map (fun i => Y[i]?) = wc.map some) : ∀ q, va_A wc H.size q → A q := by
  intro q h
  rcases h with ⟨k, e, h⟩ | h
  · exact (lw_partD hD isC hn hC).2 k (q, e) h
  · exact hA q (Nat.le_trans hS.1 h)
theorem lw_m1 {D : va_G} {cl : List vw_C} {a b c : va_W} {H : Heap} (h : va_P D cl ((a ++ b) ++ c) H) : va_P D cl (b ++ (a ++ c)) H := by
  have h1 : va_P D cl (([] ++ (a ++ c)) ++ b) H := va_P.swap (a := a) (b := b) (c := c) h
  exact va_P.swap h1
theorem lw_m1D {A : Nat → Prop} {a b c : va_W} (h : va_D A ((a ++ b) ++ c)) : va_D A (b ++ (a ++ c)) := by
  have h1 : va_D A (([] ++ (a ++ c)) ++ b) := va_D.swap (a := a) (b := b) (c := c) h
  exact va_D.swap h1
theorem lw_m2 {D : va_G} {cl : List vw_C} {a b c : va_W} {H : Heap} (h : va_P D cl (b ++ (a ++ c)) H) : va_P D cl ((a ++ b) ++ c) H := by
  have h0 : va_P D cl (([] ++ b) ++ (a ++ c)) H := h
  have h1 : va_P D cl ((a ++ c) ++ b) H := va_P.swap (a := []) (b := b) (c := a ++ c) h0
  exact va_P.swap h1
theorem lw_m2D {A : Nat → Prop} {a b c : va_W} (h : va_D A (b ++ (a ++ c))) : va_D A ((a ++ b) ++ c) := by
  have h0 : va_D A (([] ++ b) ++ (a ++ c)) := h
  have h1 : va_D A ((a ++ c) ++ b) := va_D.swap (a := []) (b := b) (c := a ++ c) h0
  exact va_D.swap h1
theorem lw_as {D : va_G} {cl : List vw_C} {a b c : va_W} {H : Heap} (h : va_P D cl ((a ++ b) ++ c) H) : va_P D cl (a ++ (b ++ c)) H := by rw [← List.append_assoc]; exact h
theorem lw_asD {A : Nat → Prop} {a b c : va_W} (h : va_D A ((a ++ b) ++ c)) : va_D A (a ++ (b ++ c)) := by rw [← List.append_assoc]; exact h
theorem lw_sa {D : va_G} {cl : List vw_C} {a b c : va_W} {H : Heap} (h : va_P D cl (a ++ (b ++ c)) H) : va_P D cl ((a ++ b) ++ c) H := by rw [List.append_assoc]; exact h
theorem lw_saD {A : Nat → Prop} {a b c : va_W} (h : va_D A (a ++ (b ++ c))) : va_D A ((a ++ b) ++ c) := by rw [List.append_assoc]; exact h
section LAWC
variable {p : Program} {l : Launch} {e : Env} {R : Room} {s : State} {m : MethodId} {args : Array Value} {below : List Frame} {meth : Method} {c : Code} {H : Heap} {locs : List Loc} {cells slots : Nat} {Q : State → Prop}
variable {cc : ByteArray} {pc : Nat} {ls : Array Slot} {rest : List Value} {D : va_G} {cl : List vw_C} {A : Nat → Prop} {tysC : List (ClassId × FieldType)} {Y pl wc wr : va_W} {H0 : Heap}
variable {y : MethodName} {wy Ts : List Cond} {rm : Room} {own C : String} {index maxL nL nA ci b t fr mc ms : Nat} {adK adV : Nat → Nat} {ret : Option FieldType} {bytes : ByteArray} {As fs st0 : List Value} {qc : vw_C} {Pc : Array Value → State → Prop}
theorem lz_i {S : Type} {post : Int32 → S → Prop} {wc' w2 : S → va_W} (isC isR ix : List Nat) (S0 : CallFix p m c cc nL s args Ts own)
    (hM : Met l y wy rm Pc (va_Qi post (mB D cl tysC (va_A wc H.size) wc') (va_A wc H.size)) mc ms (va_A wc H.size))
    (cw : CallW R s args own C index y bytes maxL ret wy rm mc ms nA) (hpre : PreV s H C b Pc As) (hP : va_P D cl (Y ++ pl) H) (hD : va_D A (Y ++ pl)) (hS : va_S A H0 H locs) (hA : ∀ q, H0.size ≤ q → A q)
    (hC : isC.map (fun i => Y[i]?) = wc.map some) (hR : isR.map (fun i => Y[i]?) = wr.map some) (hnC : va_nd isC = true) (hnR : va_nd isR = true) (hnx : va_nd ix = true) (hdis : ∀ i ∈ isR, i ∉ isC) (hix : ∀ u, ix.map (fun i => (wr ++ wc' u)[i]?) = (w2 u).map some)
    (hn : As.length = nA) (hsize : ls.size = nL) (hst : st0 = As.reverse ++ .ref b :: rest) (hW : (rest.map fun v => v.category).sum ≤ 8) (hdg : decode cc pc = .ok (.invokevirtual index, 3)) (hf : cells + mc ≤ R.cells ∧ slots + ms ≤ R.slots)
    (kk : ∀ (r : Int32) (u : S) (H1 : Heap) (locs1 : List Loc), post r u → va_P D cl (w2 u ++ pl) H1 → va_D A (w2 u ++ pl) → va_S A H0 H1 locs1 → W p l e R s m args below meth c H1 locs1 (cells + mc) (slots + ms) Q (F0 m (pc + 3) ls (.int r :: rest))) : W p l e R s m args below meth c H locs cells slots Q (F0 m pc ls st0) := by
  have hFc := lw_partF hD hS hA isC hnC hC
  refine va_calli (va_runV (As := As) (rest := rest) (b := b) S0 hM cw hpre rfl hn hsize hst (lv_room hW) hdg hf) hS (fun q _ h => hFc q h) hFc (fun r u t H1 locs1 ht hvm hw hB hz1 hk1 hS1 => ?_)
  obtain ⟨hP1, -, hD1⟩ := hB
  rw [ht] at hP1
  obtain ⟨hP2, hD2⟩ := va_joinQ (wr := wr) (w1 := wc' u) hP hD isC isR hC hR hnR hdis hk1 hFc hP1 hD1
  exact kk r u H1 locs1 hw (hP2.part ix (hix u)) (hD2.part ix hnx (hix u)) hS1
theorem lz_l {S : Type} {post : Int64 → S → Prop} {wc' w2 : S → va_W} (isC isR ix : List Nat) (S0 : CallFix p m c cc nL s args Ts own)
    (hM : Met l y wy rm Pc (va_Ql post (mB D cl tysC (va_A wc H.size) wc') (va_A wc H.size)) mc ms (va_A wc H.size))
    (cw : CallW R s args own C index y bytes maxL ret wy rm mc ms nA) (hpre : PreV s H C b Pc As) (hP : va_P D cl (Y ++ pl) H) (hD : va_D A (Y ++ pl)) (hS : va_S A H0 H locs) (hA : ∀ q, H0.size ≤ q → A q)
    (hC : isC.map (fun i => Y[i]?) = wc.map some) (hR : isR.map (fun i => Y[i]?) = wr.map some) (hnC : va_nd isC = true) (hnR : va_nd isR = true) (hnx : va_nd ix = true) (hdis : ∀ i ∈ isR, i ∉ isC) (hix : ∀ u, ix.map (fun i => (wr ++ wc' u)[i]?) = (w2 u).map some)
    (hn : As.length = nA) (hsize : ls.size = nL) (hst : st0 = As.reverse ++ .ref b :: rest) (hW : (rest.map fun v => v.category).sum ≤ 8) (hdg : decode cc pc = .ok (.invokevirtual index, 3)) (hf : cells + mc ≤ R.cells ∧ slots + ms ≤ R.slots)
    (kk : ∀ (r : Int64) (u : S) (H1 : Heap) (locs1 : List Loc), post r u → va_P D cl (w2 u ++ pl) H1 → va_D A (w2 u ++ pl) → va_S A H0 H1 locs1 → W p l e R s m args below meth c H1 locs1 (cells + mc) (slots + ms) Q (F0 m (pc + 3) ls (.long r :: rest))) : W p l e R s m args below meth c H locs cells slots Q (F0 m pc ls st0) := by
  have hFc := lw_partF hD hS hA isC hnC hC
  refine va_calll (va_runV (As := As) (rest := rest) (b := b) S0 hM cw hpre rfl hn hsize hst (lv_room hW) hdg hf) hS (fun q _ h => hFc q h) hFc (fun r u t H1 locs1 ht hvm hw hB hz1 hk1 hS1 => ?_)
  obtain ⟨hP1, -, hD1⟩ := hB
  rw [ht] at hP1
  obtain ⟨hP2, hD2⟩ := va_joinQ (wr := wr) (w1 := wc' u) hP hD isC isR hC hR hnR hdis hk1 hFc hP1 hD1
  exact kk r u H1 locs1 hw (hP2.part ix (hix u)) (hD2.part ix hnx (hix u)) hS1
theorem lw_recv {tys : List (ClassId × FieldType)} (hK : va_K D cl tys s) (hP : va_P D cl wc H) (hc : cl[ci]? = some qc) (he : wc[0]? = some (b, .inr (ci, fs))) (hCn : qc.1 = C) : ∃ cellB : Cell, H[b]? = some cellB ∧ cellB.vm.isStatics = false ∧ s.vm.findClass C = some cellB.cls := by
  subst hCn
  exact va_recv hK hP hc he
theorem preX (isC : List Nat) (hP : va_P D cl (Y ++ pl) H) (hD : va_D A (Y ++ pl)) (hn : va_nd isC = true) (hC : isC.map (fun i => Y[i]?) = wc.map some) (hK : va_K D cl tysC s) (hN : xN s) (hc : cl[ci]? = some qc) (he : wc[0]? = some (b, .inr (ci, fs))) (hCn : qc.1 = C) : PreV s H C b (xPc D cl tysC wc H.size (.ref b :: As)) As := by
  have hPc := lw_part hP isC hC
  have hDc := lw_partD hD isC hn hC
  exact ⟨xPc_blind, lw_recv hK hPc hc he hCn, fun U hU hW => ⟨rfl, by rw [hU], by rw [hU]; exact hPc, va_K.moved hW.alike hK, hDc.weaken (fun _ _ _ _ => trivial), xN_warm hW hN⟩⟩
theorem preI (isC : List Nat) (hP : va_P D cl (Y ++ pl) H) (hD : va_D A (Y ++ pl)) (hn : va_nd isC = true) (hC : isC.map (fun i => Y[i]?) = wc.map some) (hK : va_K D cl tysC s) (hN : xN s) (hX : xA s) (hc : cl[ci]? = some qc) (he : wc[0]? = some (b, .inr (ci, fs))) (hCn : qc.1 = C) : PreV s H C b (xPcI D cl tysC wc H.size (.ref b :: As)) As := by
  have hPc := lw_part hP isC hC
  have hDc := lw_partD hD isC hn hC
  exact ⟨xPcI_blind, lw_recv hK hPc hc he hCn, fun U hU hW => ⟨rfl, by rw [hU], by rw [hU]; exact hPc, va_K.moved hW.alike hK, hDc.weaken (fun _ _ _ _ => trivial), xN_warm hW hN, xA_moved hW.alike hX⟩⟩
theorem preE (isC : List Nat) (hP : va_P D cl (Y ++ pl) H) (hD : va_D A (Y ++ pl)) (hS : va_S A s.heap H locs) (hA : ∀ q, s.heap.size ≤ q → A q) (hn : va_nd isC = true) (hC : isC.map (fun i => Y[i]?) = wc.map some) (hK : va_K D cl tysC s) (hN : xN s) (hE : xE t A s) (hc : cl[ci]? = some qc) (he : wc[0]? = some (b, .inr (ci, fs))) (hCn : qc.1 = C) : PreV s H C b (xPcE t D cl tysC wc H.size (.ref b :: As)) As := by
  have hPc := lw_part hP isC hC
  have hDc := lw_partD hD isC hn hC
  exact ⟨xPcE_blind, lw_recv hK hPc hc he hCn, fun U hU hW => ⟨rfl, by rw [hU], by rw [hU]; exact hPc, va_K.moved hW.alike hK, hDc.weaken (fun _ _ _ _ => trivial), xN_warm hW hN, xE_call hE hS (lw_partF hD hS hA isC hn hC) hU hW⟩⟩
theorem preG (isC : List Nat) (hP : va_P D cl (Y ++ pl) H) (hD : va_D A (Y ++ pl)) (hS : va_S A s.heap H locs) (hA : ∀ q, s.heap.size ≤ q → A q) (hn : va_nd isC = true) (hC : isC.map (fun i => Y[i]?) = wc.map some) (hK : va_K D cl tysC s) (hN : xN s) (hE : xG fr adK adV A s) (hc : cl[ci]? = some qc) (he : wc[0]? = some (b, .inr (ci, fs))) (hCn : qc.1 = C) : PreV s H C b (xPcG fr adK adV D cl tysC wc H.size (.ref b :: As)) As := by
  have hPc := lw_part hP isC hC
  have hDc := lw_partD hD isC hn hC
  exact ⟨xPcG_blind, lw_recv hK hPc hc he hCn, fun U hU hW => ⟨rfl, by rw [hU], by rw [hU]; exact hPc, va_K.moved hW.alike hK, hDc.weaken (fun _ _ _ _ => trivial), xN_warm hW hN, xG_call hE hS (lw_partF hD hS hA isC hn hC) hU hW⟩⟩
theorem preM (isC : List Nat) (hP : va_P D cl (Y ++ pl) H) (hD : va_D A (Y ++ pl)) (hn : va_nd isC = true) (hC : isC.map (fun i => Y[i]?) = wc.map some) (hK : va_K D cl tysC s) (hc : cl[ci]? = some qc) (he : wc[0]? = some (b, .inr (ci, fs))) (hCn : qc.1 = C) : PreV s H C b (mPc D cl tysC wc H.size (.ref b :: As)) As := by
  have hPc := lw_part hP isC hC
  have hDc := lw_partD hD isC hn hC
  exact ⟨mPc_blind, lw_recv hK hPc hc he hCn, fun U hU hW => ⟨rfl, by rw [hU], by rw [hU]; exact hPc, va_K.moved hW.alike hK, hDc.weaken (fun _ _ _ _ => trivial)⟩⟩
theorem qv_sld (hexec : p.tables.exec = Jvm.exec) (hb : c.code = cc) {b L : Nat} {xs : Nat → Int32} (hX : va_X b L xs s s.heap) (hbl : b < s.heap.size) (hS : va_S (lA s) s.heap H locs) {k : Nat} (hk : k < L) (hL : L ≤ 2560) (hdg : decode cc pc = .ok (.iaload, 1))
    (kk : W p l e R s m args below meth c H locs cells slots Q (F0 m (pc + 1) ls (.int (xs k) :: rest))) : W p l e R s m args below meth c H locs cells slots Q (F0 m pc ls (.int (nI k) :: .ref b :: rest)) :=
  va_sld (A := lA s) hexec hb hX hbl (Nat.not_le.mpr hbl) hS (vp_in_nI hk (by omega)) hdg (by rw [nI_clamp (by omega)]; exact kk)
end LAWC
theorem lw_lim {L i : Nat} (hL : L ≤ 2560) (hi : i ≤ 5000) (h : ¬ nI L - nI 5 < nI i) : i + 5 ≤ L := by
  by_cases c : L < 5
  · have n0 : nI L - nI 5 < 0 := (show ∀ L, L < 5 → nI L - nI 5 < 0 by decide) L c
    have h1 := Int32.lt_iff_toInt_lt.mp n0
    refine absurd (Int32.lt_iff_toInt_lt.mpr ?_) h
    rw [nI_toInt (by omega)]
    have : (0 : Int32).toInt = 0 := by decide
    omega
  · rw [pk_sub (by omega)] at h
    rcases Nat.lt_or_ge (L - 5) i with q | q
    · exact absurd ((nI_ltI (by omega) (by omega)).mpr q) h
    · omega
