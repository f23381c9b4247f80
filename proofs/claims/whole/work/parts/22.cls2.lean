section XSTAT
variable {p : Program} {l : Launch} {e : Env} {R : Room} {s : State} {m : MethodId} {args : Array Value} {below : List Frame} {meth : Method} {c : Code} {H : Heap} {locs : List Loc} {cells slots : Nat} {Q : State → Prop}
variable {cc : ByteArray} {pc : Nat} {ls : Array Slot} {rest : List Value} {D : va_G} {cl : List vw_C} {A : Nat → Prop} {tys tysC : List (ClassId × FieldType)} {ws wc wr : va_W} {H0 : Heap}
variable {y : MethodName} {wy Ts : List Cond} {rm : Room} {own : String} {index maxL nL nA : Nat} {ret : Option FieldType} {bytes : ByteArray} {As st0 : List Value}
theorem qx_Sv {S : Type} {post : S → Prop} {wc' ws2 : S → va_W} (isC isR ix : List Nat) (S0 : CallFix p m c cc nL s args Ts own)
    (hM : Met l y wy rm (xPc D cl tysC wc H.size As) (va_Qv post (mB D cl tysC (va_A wc H.size) wc') (va_A wc H.size)) 0 0 (va_A wc H.size))
    (cw : CallB R s args own index y bytes maxL ret wy rm 0 0 nA ∧ (Cond.static y).before args s = true) (hKc : va_K D cl tysC s) (hK : va_K D cl tys s) (hP : va_P D cl ws H) (hD : va_D A ws) (hS : va_S A H0 H locs) (hA : ∀ q, H0.size ≤ q → A q) (hN : xN s)
    (hC : isC.map (fun i => ws[i]?) = wc.map some) (hR : isR.map (fun i => ws[i]?) = wr.map some) (hnC : va_nd isC = true) (hnR : va_nd isR = true) (hnx : va_nd ix = true) (hdis : ∀ i ∈ isR, i ∉ isC) (hix : ∀ u, ix.map (fun i => (wr ++ wc' u)[i]?) = (ws2 u).map some)
    (hn : As.length = nA) (hsize : ls.size = nL) (hst : st0 = As.reverse ++ rest) (hW : (rest.map fun v => v.category).sum ≤ 8) (hdg : decode cc pc = .ok (.invokestatic index, 3)) (hf : cells ≤ R.cells ∧ slots ≤ R.slots)
    (kk : ∀ (u : S) (H1 : Heap) (locs1 : List Loc), post u → va_P D cl (ws2 u) H1 → va_D A (ws2 u) → va_S A H0 H1 locs1 → W p l e R s m args below meth c H1 locs1 cells slots Q (F0 m (pc + 3) ls (rest))) : W p l e R s m args below meth c H locs cells slots Q (F0 m pc ls st0) := by
  have hFc := sfree isC hC hD hS hA
  have hPc : va_P D cl wc H := va_Psub hP isC hC
  have hDc : va_D A wc := hD.sub isC hnC hC
  refine va_callv (va_runS (As := As) (rest := rest) S0 hM cw ⟨xPc_blind, fun U hU hW => ⟨rfl, by rw [hU], by rw [hU]; exact hPc, va_K.moved hW.alike hKc, hDc.weaken (fun _ _ _ _ => trivial), xN_warm hW hN⟩⟩ rfl hn hsize hst (lv_room hW) hdg hf) hS (fun q _ h => hFc q h) hFc (fun u t H1 locs1 ht hvm hw hB hz1 hk1 hS1 => ?_)
  obtain ⟨hP1, -, hD1⟩ := hB
  rw [ht] at hP1
  obtain ⟨hP2, hD2⟩ := va_join (wr := wr) (w1 := wc' u) hP hD isC isR hC hR hnR hdis hk1 hFc hP1 hD1
  exact kk u H1 locs1 hw (va_Psub hP2 ix (hix u)) (hD2.sub ix hnx (hix u)) hS1
theorem qx_Si {S : Type} {post : Int32 → S → Prop} {wc' ws2 : S → va_W} (isC isR ix : List Nat) (S0 : CallFix p m c cc nL s args Ts own)
    (hM : Met l y wy rm (xPc D cl tysC wc H.size As) (va_Qi post (mB D cl tysC (va_A wc H.size) wc') (va_A wc H.size)) 0 0 (va_A wc H.size))
    (cw : CallB R s args own index y bytes maxL ret wy rm 0 0 nA ∧ (Cond.static y).before args s = true) (hKc : va_K D cl tysC s) (hK : va_K D cl tys s) (hP : va_P D cl ws H) (hD : va_D A ws) (hS : va_S A H0 H locs) (hA : ∀ q, H0.size ≤ q → A q) (hN : xN s)
    (hC : isC.map (fun i => ws[i]?) = wc.map some) (hR : isR.map (fun i => ws[i]?) = wr.map some) (hnC : va_nd isC = true) (hnR : va_nd isR = true) (hnx : va_nd ix = true) (hdis : ∀ i ∈ isR, i ∉ isC) (hix : ∀ u, ix.map (fun i => (wr ++ wc' u)[i]?) = (ws2 u).map some)
    (hn : As.length = nA) (hsize : ls.size = nL) (hst : st0 = As.reverse ++ rest) (hW : (rest.map fun v => v.category).sum ≤ 8) (hdg : decode cc pc = .ok (.invokestatic index, 3)) (hf : cells ≤ R.cells ∧ slots ≤ R.slots)
    (kk : ∀ (r : Int32) (u : S) (H1 : Heap) (locs1 : List Loc), post r u → va_P D cl (ws2 u) H1 → va_D A (ws2 u) → va_S A H0 H1 locs1 → W p l e R s m args below meth c H1 locs1 cells slots Q (F0 m (pc + 3) ls (.int r :: rest))) : W p l e R s m args below meth c H locs cells slots Q (F0 m pc ls st0) := by
  have hFc := sfree isC hC hD hS hA
  have hPc : va_P D cl wc H := va_Psub hP isC hC
  have hDc : va_D A wc := hD.sub isC hnC hC
  refine va_calli (va_runS (As := As) (rest := rest) S0 hM cw ⟨xPc_blind, fun U hU hW => ⟨rfl, by rw [hU], by rw [hU]; exact hPc, va_K.moved hW.alike hKc, hDc.weaken (fun _ _ _ _ => trivial), xN_warm hW hN⟩⟩ rfl hn hsize hst (lv_room hW) hdg hf) hS (fun q _ h => hFc q h) hFc (fun r u t H1 locs1 ht hvm hw hB hz1 hk1 hS1 => ?_)
  obtain ⟨hP1, -, hD1⟩ := hB
  rw [ht] at hP1
  obtain ⟨hP2, hD2⟩ := va_join (wr := wr) (w1 := wc' u) hP hD isC isR hC hR hnR hdis hk1 hFc hP1 hD1
  exact kk r u H1 locs1 hw (va_Psub hP2 ix (hix u)) (hD2.sub ix hnx (hix u)) hS1

end XSTAT
abbrev fO (a : Nat → Nat) : va_W := [(a 0, .inr (1, [.ref (a 1), .ref (a 5), .ref (a 6), .ref (a 8), .ref (a 10)]))]
def F_J7_fill_53178_v6_L5 : Nat → (Int32) → (Nat) → (Nat → Int32) → (Nat) × (Nat → Int32)
  | 0, _, k, f1 => (k, f1)
  | n_5 + 1, v, k, f1 => if 6 ≤ k then (k, f1) else F_J7_fill_53178_v6_L5 n_5 v (k + 1) (upd f1 k v)
def F_J7_fill_53178_v6 (Ar : Nat → Int32) (v : Int32) : (Nat → Int32) := let2 (F_J7_fill_53178_v6_L5 7 v 0 Ar) (fun k f1 => f1)
set_option maxHeartbeats 4000000 in
set_option maxRecDepth 100000 in
theorem c_J7_fill_53178_v6 (l : Launch) (dC : Nat → ClassId) (dI : Nat → Nat → Nat) (r : Nat) (cI : ClassId) (sz : Nat) (Ar : Nat → Int32) (v : Int32) : Met l yJ7_fill_53178 wsJ7_fill_53178 { frames := 0, cells := 0, slots := 0, locals := 0 } (xPc (dC, dI) vwCl (xT cI) ([(r, .inl (cI, 6, .inl Ar))]) sz [.ref r, .int v]) (va_Qv (fun (u : (Nat → Int32)) => F_J7_fill_53178_v6 Ar v = u) (mB (dC, dI) vwCl (xT cI) (va_A ([(r, .inl (cI, 6, .inl Ar))]) sz) (fun u => [(r, .inl (cI, 6, .inl u))])) (va_A ([(r, .inl (cI, 6, .inl Ar))]) sz)) 0 0 (va_A ([(r, .inl (cI, 6, .inl Ar))]) sz) := by
  refine Met.ofW (cc := cJ7_fill_53178) (maxL := 4) (ret := none) (by decide) rfl ?_
  intro p e s m args below meth c s₁ B hml hv
  obtain ⟨rfl, hsz, hP, hK, hD0, hN⟩ := hv
  have hx := B.exec
  have hb := B.bytes
  have hr := B.returns
  have hts := atoms_spec (ws := wsJ7_fill_53178) B.pre
  have hown : s.vm.findClass RJ7 = some m.cls := findClass_of_methodNamed B.named
  have hlocks := B.notSynchronized
  subst hsz
  have hD := hD0.self (sz := s.heap.size)
  generalize hAe : va_A ([(r, .inl (cI, 6, .inl Ar))]) s.heap.size = A at hD ⊢
  have hA : ∀ q : Nat, s.heap.size ≤ q → A q := fun q h => by rw [← hAe]; exact Or.inr h
  have hS : va_S A s.heap s.heap [] := va_S.rf
  have hl := lv_entry ([.ref r, .int v]) (n := 4) (Nat.le_of_ble_eq_true rfl)
  rw [lg_entry_eq]
  generalize (lg_sl ([.ref r, .int v]) ++ List.replicate (4 - (lg_sl ([.ref r, .int v])).length) Slot.unset).toArray = ls at hl ⊢
  have hl : lv_has ls 4 [(0, .ref r), (1, .int v)] := hl
  obtain ⟨OUT, hO⟩ : ∃ z, z = F_J7_fill_53178_v6 Ar v := ⟨_, rfl⟩
  have hF := hO
  unfold F_J7_fill_53178_v6 at hF
  refine lv_iconst (v := nI 0) hx hb dJ7_fill_53178_0 (by decide) ?_
  refine lv_istore_n (lv' := [(2, .int (nI 0)), (0, .ref r), (1, .int v)]) hx hb dJ7_fill_53178_1 rfl hl (by decide) rfl (fun ls hl => ?_)
  refine lv_aload_n hx hb dJ7_fill_53178_2 rfl (lv_at hl 1 rfl) ?_
  refine va_alen (v := nI 6) hx hb hK hP 0 0 rfl rfl rfl dJ7_fill_53178_3 ?_
  refine lv_istore_n (lv' := [(3, .int (nI 6)), (2, .int (nI 0)), (0, .ref r), (1, .int v)]) hx hb dJ7_fill_53178_4 rfl hl (by decide) rfl (fun ls hl => ?_)
  have L_5 : ∀ (n_5 : Nat) (k : Nat) (f1 : Nat → Int32) (H : Heap) (locs : List Loc), k ≤ 6 → 6 - k < n_5 → va_P (dC, dI) vwCl ([(r, .inl (cI, 6, .inl f1))]) H → va_D A ([(r, .inl (cI, 6, .inl f1))]) → va_S A s.heap H locs → ∀ (ls : Array Slot), lv_has ls 4 [(3, .int (nI 6)), (2, .int (nI k)), (0, .ref r), (1, .int v)] → OUT = let2 (F_J7_fill_53178_v6_L5 n_5 v k f1) (fun k f1 => f1) → W p l e (headSpec wsJ7_fill_53178 { frames := 0, cells := 0, slots := 0, locals := 0 }).room s m ([.ref r, .int v] : List Value).toArray below meth c H locs 0 0 (MQ below (va_Qv (fun (u : (Nat → Int32)) => F_J7_fill_53178_v6 Ar v = u) (mB (dC, dI) vwCl (xT cI) A (fun u => [(r, .inl (cI, 6, .inl u))])) A) ([.ref r, .int v] : List Value).toArray s 0 0 A) (F0 m 5 ls []) := by
    intro n_5
    induction n_5 with
    | zero => intro k f1 H locs i0 hmu; exact absurd hmu (Nat.not_lt_zero _)
    | succ n_5 ih_5 =>
      intro k f1 H locs i0 hmu_5 hP hD hS ls hl hF
      rw [F_J7_fill_53178_v6_L5] at hF
      refine lv_iload_n hx hb dJ7_fill_53178_5 rfl (lv_at hl 1 rfl) ?_
      refine lv_iload_n hx hb dJ7_fill_53178_6 rfl (lv_at hl 0 rfl) ?_
      refine qv_icmp_ge (tgt := 20) hx hb dJ7_fill_53178_7 (by decide) (by omega) (by omega) (fun c_7 => ?_) (fun c_7 => ?_)
      · rw [if_pos c_7] at hF
        rw [let2_mk (k : Nat) (f1 : Nat → Int32)] at hF
        have hP9 : va_P (dC, dI) vwCl ([(r, .inl (cI, 6, .inl f1))]) H := hP
        exact W.vret hx hb hr (fun t ht hW => ⟨⟨(f1), rfl, hO.symm.trans hF, by rw [ht]; exact hP9, va_K.moved hW.alike hK, hD⟩, hS.F ht⟩) hS.2.2 dJ7_fill_53178_20
      · rw [if_neg c_7] at hF
        refine lv_aload_n hx hb dJ7_fill_53178_10 rfl (lv_at hl 2 rfl) ?_
        refine lv_iload_n hx hb dJ7_fill_53178_11 rfl (lv_at hl 1 rfl) ?_
        refine lv_iload_n hx hb dJ7_fill_53178_12 rfl (lv_at hl 3 rfl) ?_
        refine qv_ast (ws' := [(r, .inl (cI, 6, .inl (upd f1 k v)))]) hx hb hK hP hD hS 0 0 rfl rfl (by omega) (by decide) dJ7_fill_53178_13 rfl (fun H locs hP hD hS => ?_)
        refine lv_iinc (v := nI (k + 1)) (lv' := [(2, .int (nI (k + 1))), (3, .int (nI 6)), (0, .ref r), (1, .int v)]) hx hb dJ7_fill_53178_14 hl (k := 1) rfl (qn_inc (c := 1) rfl (by omega)) (by decide) rfl (fun ls hl => ?_)
        refine lv_goto (tgt := 5) hx hb dJ7_fill_53178_17 (by decide) ?_
        exact ih_5 (k + 1) (upd f1 k v) H locs (by omega) (by omega) hP hD hS ls (lv_sub hl [1, 0, 2, 3] rfl) hF
  exact L_5 7 0 Ar s.heap [] (by omega) (by omega) hP hD hS ls (lv_sub hl [0, 1, 2, 3] rfl) hF
def F_J7_fill_53178_v8_L5 : Nat → (Int32) → (Nat) → (Nat → Int32) → (Nat) × (Nat → Int32)
  | 0, _, k, f1 => (k, f1)
  | n_5 + 1, v, k, f1 => if 8 ≤ k then (k, f1) else F_J7_fill_53178_v8_L5 n_5 v (k + 1) (upd f1 k v)
def F_J7_fill_53178_v8 (Ar : Nat → Int32) (v : Int32) : (Nat → Int32) := let2 (F_J7_fill_53178_v8_L5 9 v 0 Ar) (fun k f1 => f1)
set_option maxHeartbeats 4000000 in
set_option maxRecDepth 100000 in
theorem c_J7_fill_53178_v8 (l : Launch) (dC : Nat → ClassId) (dI : Nat → Nat → Nat) (r : Nat) (cI : ClassId) (sz : Nat) (Ar : Nat → Int32) (v : Int32) : Met l yJ7_fill_53178 wsJ7_fill_53178 { frames := 0, cells := 0, slots := 0, locals := 0 } (xPc (dC, dI) vwCl (xT cI) ([(r, .inl (cI, 8, .inl Ar))]) sz [.ref r, .int v]) (va_Qv (fun (u : (Nat → Int32)) => F_J7_fill_53178_v8 Ar v = u) (mB (dC, dI) vwCl (xT cI) (va_A ([(r, .inl (cI, 8, .inl Ar))]) sz) (fun u => [(r, .inl (cI, 8, .inl u))])) (va_A ([(r, .inl (cI, 8, .inl Ar))]) sz)) 0 0 (va_A ([(r, .inl (cI, 8, .inl Ar))]) sz) := by
  refine Met.ofW (cc := cJ7_fill_53178) (maxL := 4) (ret := none) (by decide) rfl ?_
  intro p e s m args below meth c s₁ B hml hv
  obtain ⟨rfl, hsz, hP, hK, hD0, hN⟩ := hv
  have hx := B.exec
  have hb := B.bytes
  have hr := B.returns
  have hts := atoms_spec (ws := wsJ7_fill_53178) B.pre
  have hown : s.vm.findClass RJ7 = some m.cls := findClass_of_methodNamed B.named
  have hlocks := B.notSynchronized
  subst hsz
  have hD := hD0.self (sz := s.heap.size)
  generalize hAe : va_A ([(r, .inl (cI, 8, .inl Ar))]) s.heap.size = A at hD ⊢
  have hA : ∀ q : Nat, s.heap.size ≤ q → A q := fun q h => by rw [← hAe]; exact Or.inr h
  have hS : va_S A s.heap s.heap [] := va_S.rf
  have hl := lv_entry ([.ref r, .int v]) (n := 4) (Nat.le_of_ble_eq_true rfl)
  rw [lg_entry_eq]
  generalize (lg_sl ([.ref r, .int v]) ++ List.replicate (4 - (lg_sl ([.ref r, .int v])).length) Slot.unset).toArray = ls at hl ⊢
  have hl : lv_has ls 4 [(0, .ref r), (1, .int v)] := hl
  obtain ⟨OUT, hO⟩ : ∃ z, z = F_J7_fill_53178_v8 Ar v := ⟨_, rfl⟩
  have hF := hO
  unfold F_J7_fill_53178_v8 at hF
  refine lv_iconst (v := nI 0) hx hb dJ7_fill_53178_0 (by decide) ?_
  refine lv_istore_n (lv' := [(2, .int (nI 0)), (0, .ref r), (1, .int v)]) hx hb dJ7_fill_53178_1 rfl hl (by decide) rfl (fun ls hl => ?_)
  refine lv_aload_n hx hb dJ7_fill_53178_2 rfl (lv_at hl 1 rfl) ?_
  refine va_alen (v := nI 8) hx hb hK hP 0 0 rfl rfl rfl dJ7_fill_53178_3 ?_
  refine lv_istore_n (lv' := [(3, .int (nI 8)), (2, .int (nI 0)), (0, .ref r), (1, .int v)]) hx hb dJ7_fill_53178_4 rfl hl (by decide) rfl (fun ls hl => ?_)
  have L_5 : ∀ (n_5 : Nat) (k : Nat) (f1 : Nat → Int32) (H : Heap) (locs : List Loc), k ≤ 8 → 8 - k < n_5 → va_P (dC, dI) vwCl ([(r, .inl (cI, 8, .inl f1))]) H → va_D A ([(r, .inl (cI, 8, .inl f1))]) → va_S A s.heap H locs → ∀ (ls : Array Slot), lv_has ls 4 [(3, .int (nI 8)), (2, .int (nI k)), (0, .ref r), (1, .int v)] → OUT = let2 (F_J7_fill_53178_v8_L5 n_5 v k f1) (fun k f1 => f1) → W p l e (headSpec wsJ7_fill_53178 { frames := 0, cells := 0, slots := 0, locals := 0 }).room s m ([.ref r, .int v] : List Value).toArray below meth c H locs 0 0 (MQ below (va_Qv (fun (u : (Nat → Int32)) => F_J7_fill_53178_v8 Ar v = u) (mB (dC, dI) vwCl (xT cI) A (fun u => [(r, .inl (cI, 8, .inl u))])) A) ([.ref r, .int v] : List Value).toArray s 0 0 A) (F0 m 5 ls []) := by
    intro n_5
    induction n_5 with
    | zero => intro k f1 H locs i0 hmu; exact absurd hmu (Nat.not_lt_zero _)
    | succ n_5 ih_5 =>
      intro k f1 H locs i0 hmu_5 hP hD hS ls hl hF
      rw [F_J7_fill_53178_v8_L5] at hF
      refine lv_iload_n hx hb dJ7_fill_53178_5 rfl (lv_at hl 1 rfl) ?_
      refine lv_iload_n hx hb dJ7_fill_53178_6 rfl (lv_at hl 0 rfl) ?_
      refine qv_icmp_ge (tgt := 20) hx hb dJ7_fill_53178_7 (by decide) (by omega) (by omega) (fun c_7 => ?_) (fun c_7 => ?_)
      · rw [if_pos c_7] at hF
        rw [let2_mk (k : Nat) (f1 : Nat → Int32)] at hF
        have hP9 : va_P (dC, dI) vwCl ([(r, .inl (cI, 8, .inl f1))]) H := hP
        exact W.vret hx hb hr (fun t ht hW => ⟨⟨(f1), rfl, hO.symm.trans hF, by rw [ht]; exact hP9, va_K.moved hW.alike hK, hD⟩, hS.F ht⟩) hS.2.2 dJ7_fill_53178_20
      · rw [if_neg c_7] at hF
        refine lv_aload_n hx hb dJ7_fill_53178_10 rfl (lv_at hl 2 rfl) ?_
        refine lv_iload_n hx hb dJ7_fill_53178_11 rfl (lv_at hl 1 rfl) ?_
        refine lv_iload_n hx hb dJ7_fill_53178_12 rfl (lv_at hl 3 rfl) ?_
        refine qv_ast (ws' := [(r, .inl (cI, 8, .inl (upd f1 k v)))]) hx hb hK hP hD hS 0 0 rfl rfl (by omega) (by decide) dJ7_fill_53178_13 rfl (fun H locs hP hD hS => ?_)
        refine lv_iinc (v := nI (k + 1)) (lv' := [(2, .int (nI (k + 1))), (3, .int (nI 8)), (0, .ref r), (1, .int v)]) hx hb dJ7_fill_53178_14 hl (k := 1) rfl (qn_inc (c := 1) rfl (by omega)) (by decide) rfl (fun ls hl => ?_)
        refine lv_goto (tgt := 5) hx hb dJ7_fill_53178_17 (by decide) ?_
        exact ih_5 (k + 1) (upd f1 k v) H locs (by omega) (by omega) hP hD hS ls (lv_sub hl [1, 0, 2, 3] rfl) hF
  exact L_5 9 0 Ar s.heap [] (by omega) (by omega) hP hD hS ls (lv_sub hl [0, 1, 2, 3] rfl) hF
def F_J7_fill_53178_v21_L5 : Nat → (Int32) → (Nat) → (Nat → Int32) → (Nat) × (Nat → Int32)
  | 0, _, k, f1 => (k, f1)
  | n_5 + 1, v, k, f1 => if 21 ≤ k then (k, f1) else F_J7_fill_53178_v21_L5 n_5 v (k + 1) (upd f1 k v)
def F_J7_fill_53178_v21 (Ar : Nat → Int32) (v : Int32) : (Nat → Int32) := let2 (F_J7_fill_53178_v21_L5 22 v 0 Ar) (fun k f1 => f1)
set_option maxHeartbeats 4000000 in
set_option maxRecDepth 100000 in
theorem c_J7_fill_53178_v21 (l : Launch) (dC : Nat → ClassId) (dI : Nat → Nat → Nat) (r : Nat) (cI : ClassId) (sz : Nat) (Ar : Nat → Int32) (v : Int32) : Met l yJ7_fill_53178 wsJ7_fill_53178 { frames := 0, cells := 0, slots := 0, locals := 0 } (xPc (dC, dI) vwCl (xT cI) ([(r, .inl (cI, 21, .inl Ar))]) sz [.ref r, .int v]) (va_Qv (fun (u : (Nat → Int32)) => F_J7_fill_53178_v21 Ar v = u) (mB (dC, dI) vwCl (xT cI) (va_A ([(r, .inl (cI, 21, .inl Ar))]) sz) (fun u => [(r, .inl (cI, 21, .inl u))])) (va_A ([(r, .inl (cI, 21, .inl Ar))]) sz)) 0 0 (va_A ([(r, .inl (cI, 21, .inl Ar))]) sz) := by
  refine Met.ofW (cc := cJ7_fill_53178) (maxL := 4) (ret := none) (by decide) rfl ?_
  intro p e s m args below meth c s₁ B hml hv
  obtain ⟨rfl, hsz, hP, hK, hD0, hN⟩ := hv
  have hx := B.exec
  have hb := B.bytes
  have hr := B.returns
  have hts := atoms_spec (ws := wsJ7_fill_53178) B.pre
  have hown : s.vm.findClass RJ7 = some m.cls := findClass_of_methodNamed B.named
  have hlocks := B.notSynchronized
  subst hsz
  have hD := hD0.self (sz := s.heap.size)
  generalize hAe : va_A ([(r, .inl (cI, 21, .inl Ar))]) s.heap.size = A at hD ⊢
  have hA : ∀ q : Nat, s.heap.size ≤ q → A q := fun q h => by rw [← hAe]; exact Or.inr h
  have hS : va_S A s.heap s.heap [] := va_S.rf
  have hl := lv_entry ([.ref r, .int v]) (n := 4) (Nat.le_of_ble_eq_true rfl)
  rw [lg_entry_eq]
  generalize (lg_sl ([.ref r, .int v]) ++ List.replicate (4 - (lg_sl ([.ref r, .int v])).length) Slot.unset).toArray = ls at hl ⊢
  have hl : lv_has ls 4 [(0, .ref r), (1, .int v)] := hl
  obtain ⟨OUT, hO⟩ : ∃ z, z = F_J7_fill_53178_v21 Ar v := ⟨_, rfl⟩
  have hF := hO
  unfold F_J7_fill_53178_v21 at hF
  refine lv_iconst (v := nI 0) hx hb dJ7_fill_53178_0 (by decide) ?_
  refine lv_istore_n (lv' := [(2, .int (nI 0)), (0, .ref r), (1, .int v)]) hx hb dJ7_fill_53178_1 rfl hl (by decide) rfl (fun ls hl => ?_)
  refine lv_aload_n hx hb dJ7_fill_53178_2 rfl (lv_at hl 1 rfl) ?_
  refine va_alen (v := nI 21) hx hb hK hP 0 0 rfl rfl rfl dJ7_fill_53178_3 ?_
  refine lv_istore_n (lv' := [(3, .int (nI 21)), (2, .int (nI 0)), (0, .ref r), (1, .int v)]) hx hb dJ7_fill_53178_4 rfl hl (by decide) rfl (fun ls hl => ?_)
  have L_5 : ∀ (n_5 : Nat) (k : Nat) (f1 : Nat → Int32) (H : Heap) (locs : List Loc), k ≤ 21 → 21 - k < n_5 → va_P (dC, dI) vwCl ([(r, .inl (cI, 21, .inl f1))]) H → va_D A ([(r, .inl (cI, 21, .inl f1))]) → va_S A s.heap H locs → ∀ (ls : Array Slot), lv_has ls 4 [(3, .int (nI 21)), (2, .int (nI k)), (0, .ref r), (1, .int v)] → OUT = let2 (F_J7_fill_53178_v21_L5 n_5 v k f1) (fun k f1 => f1) → W p l e (headSpec wsJ7_fill_53178 { frames := 0, cells := 0, slots := 0, locals := 0 }).room s m ([.ref r, .int v] : List Value).toArray below meth c H locs 0 0 (MQ below (va_Qv (fun (u : (Nat → Int32)) => F_J7_fill_53178_v21 Ar v = u) (mB (dC, dI) vwCl (xT cI) A (fun u => [(r, .inl (cI, 21, .inl u))])) A) ([.ref r, .int v] : List Value).toArray s 0 0 A) (F0 m 5 ls []) := by
    intro n_5
    induction n_5 with
    | zero => intro k f1 H locs i0 hmu; exact absurd hmu (Nat.not_lt_zero _)
    | succ n_5 ih_5 =>
      intro k f1 H locs i0 hmu_5 hP hD hS ls hl hF
      rw [F_J7_fill_53178_v21_L5] at hF
      refine lv_iload_n hx hb dJ7_fill_53178_5 rfl (lv_at hl 1 rfl) ?_
      refine lv_iload_n hx hb dJ7_fill_53178_6 rfl (lv_at hl 0 rfl) ?_
      refine qv_icmp_ge (tgt := 20) hx hb dJ7_fill_53178_7 (by decide) (by omega) (by omega) (fun c_7 => ?_) (fun c_7 => ?_)
      · rw [if_pos c_7] at hF
        rw [let2_mk (k : Nat) (f1 : Nat → Int32)] at hF
        have hP9 : va_P (dC, dI) vwCl ([(r, .inl (cI, 21, .inl f1))]) H := hP
        exact W.vret hx hb hr (fun t ht hW => ⟨⟨(f1), rfl, hO.symm.trans hF, by rw [ht]; exact hP9, va_K.moved hW.alike hK, hD⟩, hS.F ht⟩) hS.2.2 dJ7_fill_53178_20
      · rw [if_neg c_7] at hF
        refine lv_aload_n hx hb dJ7_fill_53178_10 rfl (lv_at hl 2 rfl) ?_
        refine lv_iload_n hx hb dJ7_fill_53178_11 rfl (lv_at hl 1 rfl) ?_
        refine lv_iload_n hx hb dJ7_fill_53178_12 rfl (lv_at hl 3 rfl) ?_
        refine qv_ast (ws' := [(r, .inl (cI, 21, .inl (upd f1 k v)))]) hx hb hK hP hD hS 0 0 rfl rfl (by omega) (by decide) dJ7_fill_53178_13 rfl (fun H locs hP hD hS => ?_)
        refine lv_iinc (v := nI (k + 1)) (lv' := [(2, .int (nI (k + 1))), (3, .int (nI 21)), (0, .ref r), (1, .int v)]) hx hb dJ7_fill_53178_14 hl (k := 1) rfl (qn_inc (c := 1) rfl (by omega)) (by decide) rfl (fun ls hl => ?_)
        refine lv_goto (tgt := 5) hx hb dJ7_fill_53178_17 (by decide) ?_
        exact ih_5 (k + 1) (upd f1 k v) H locs (by omega) (by omega) hP hD hS ls (lv_sub hl [1, 0, 2, 3] rfl) hF
  exact L_5 22 0 Ar s.heap [] (by omega) (by omega) hP hD hS ls (lv_sub hl [0, 1, 2, 3] rfl) hF
def F_X4_size_v3 (R : rS) : Int32 := nI (((tN (Rus R)) / 3))
set_option maxHeartbeats 4000000 in
set_option maxRecDepth 100000 in
theorem c_X4_size_v3 (l : Launch) (dC : Nat → ClassId) (dI : Nat → Nat → Nat) (a : Nat → Nat) (cI : ClassId) (sz : Nat) (R : rS) (pu : inB (Rus R) 18) : Met l yX4_size wsX4_size { frames := 0, cells := 0, slots := 0, locals := 0 } (xPc (dC, dI) vwCl (xT cI) (rW a cI 3 18 R) sz [.ref (a 0)]) (va_Qi (fun (r : Int32) (u : Unit) => F_X4_size_v3 R = r) (mB (dC, dI) vwCl (xT cI) (va_A (rW a cI 3 18 R) sz) (fun u => rW a cI 3 18 R)) (va_A (rW a cI 3 18 R) sz)) 0 0 (va_A (rW a cI 3 18 R) sz) := by
  refine Met.ofW (cc := cX4_size) (maxL := 1) (ret := (some .int)) (by decide) rfl ?_
  intro p e s m args below meth c s₁ B hml hv
  obtain ⟨rfl, hsz, hP, hK, hD0, hN⟩ := hv
  have hx := B.exec
  have hb := B.bytes
  have hr := B.returns
  have hts := atoms_spec (ws := wsX4_size) B.pre
  have hown : s.vm.findClass RX4 = some m.cls := findClass_of_methodNamed B.named
  have hlocks := B.notSynchronized
  subst hsz
  have hD := hD0.self (sz := s.heap.size)
  generalize hAe : va_A (rW a cI 3 18 R) s.heap.size = A at hD ⊢
  have hA : ∀ q : Nat, s.heap.size ≤ q → A q := fun q h => by rw [← hAe]; exact Or.inr h
  have hS : va_S A s.heap s.heap [] := va_S.rf
  have hin4 : ∀ w ∈ wsX40, w ∈ wsX4_size := by decide +kernel
  have lk13 := hts (.fieldLink RX4 13 "PostRounders$Rows" "width" "I") (by decide +kernel)
  have lk23 := hts (.fieldLink RX4 23 "PostRounders$Rows" "used" "I") (by decide +kernel)
  have hl := lv_entry ([.ref (a 0)]) (n := 1) (Nat.le_of_ble_eq_true rfl)
  rw [lg_entry_eq]
  generalize (lg_sl ([.ref (a 0)]) ++ List.replicate (1 - (lg_sl ([.ref (a 0)])).length) Slot.unset).toArray = ls at hl ⊢
  have hl : lv_has ls 1 [(0, .ref (a 0))] := hl
  obtain ⟨OUT, hO⟩ : ∃ z, z = F_X4_size_v3 R := ⟨_, rfl⟩
  have hF := hO
  unfold F_X4_size_v3 at hF
  have e_pu := tN_eq pu.1
  have b_pu := pu.2
  refine lv_aload_n hx hb dX4_size_0 rfl (lv_at hl 0 rfl) ?_
  refine va_get (D := (dC, dI)) (ci := 4) (v := .int (nI 3)) (C := RX4) (T := TX4) (N := 3) hx hb hts hin4 hown hK hP 0 rfl rfl 0 (by decide) lk13 (fun _ h9 => h9) rfl dX4_size_1 ?_
  refine lv_iconst (v := nI 1) hx hb dX4_size_4 (by decide) ?_
  refine qv_icmp_ge (tgt := 12) hx hb dX4_size_5 (by decide) (by omega) (by omega) (fun _ => ?_) (fun c_5 => absurd c_5 (by decide))
  refine lv_aload_n hx hb dX4_size_12 rfl (lv_at hl 0 rfl) ?_
  refine va_get (D := (dC, dI)) (ci := 4) (v := .int (Rus R)) (C := RX4) (T := TX4) (N := 3) hx hb hts hin4 hown hK hP 0 rfl rfl 2 (by decide) lk23 (fun _ h9 => h9) rfl dX4_size_13 ?_
  refine qv_top (e_pu) ?_
  refine lv_aload_n hx hb dX4_size_16 rfl (lv_at hl 0 rfl) ?_
  refine va_get (D := (dC, dI)) (ci := 4) (v := .int (nI 3)) (C := RX4) (T := TX4) (N := 3) hx hb hts hin4 hown hK hP 0 rfl rfl 0 (by decide) lk13 (fun _ h9 => h9) rfl dX4_size_17 ?_
  refine qv_idiv hx hb dX4_size_20 (by omega) (by omega) (by omega) ?_
  have hP9 : va_P (dC, dI) vwCl (rW a cI 3 18 R) s.heap := hP
  exact W.iret (v := nI (((tN (Rus R)) / 3))) hx hb hr (fun t ht hW => ⟨⟨_, (()), rfl, hO.symm.trans hF, by rw [ht]; exact hP9, va_K.moved hW.alike hK, hD⟩, hS.F ht⟩) hS.2.2 dX4_size_21
def F_X4_isFull_v3 (R : rS) : Bool := if tN (Rus R) + 3 ≤ 18 then false else true
set_option maxHeartbeats 4000000 in
set_option maxRecDepth 100000 in
theorem c_X4_isFull_v3 (l : Launch) (dC : Nat → ClassId) (dI : Nat → Nat → Nat) (a : Nat → Nat) (cI : ClassId) (sz : Nat) (R : rS) (pu : inB (Rus R) 18) : Met l yX4_isFull wsX4_isFull { frames := 0, cells := 0, slots := 0, locals := 0 } (xPc (dC, dI) vwCl (xT cI) (rW a cI 3 18 R) sz [.ref (a 0)]) (va_Qi (fun (r : Int32) (u : Unit) => ∃ z : Bool, F_X4_isFull_v3 R = z ∧ r = if z = true then 1 else 0) (mB (dC, dI) vwCl (xT cI) (va_A (rW a cI 3 18 R) sz) (fun u => rW a cI 3 18 R)) (va_A (rW a cI 3 18 R) sz)) 0 0 (va_A (rW a cI 3 18 R) sz) := by
  refine Met.ofW (cc := cX4_isFull) (maxL := 1) (ret := (some .boolean)) (by decide) rfl ?_
  intro p e s m args below meth c s₁ B hml hv
  obtain ⟨rfl, hsz, hP, hK, hD0, hN⟩ := hv
  have hx := B.exec
  have hb := B.bytes
  have hr := B.returns
  have hts := atoms_spec (ws := wsX4_isFull) B.pre
  have hown : s.vm.findClass RX4 = some m.cls := findClass_of_methodNamed B.named
  have hlocks := B.notSynchronized
  subst hsz
  have hD := hD0.self (sz := s.heap.size)
  generalize hAe : va_A (rW a cI 3 18 R) s.heap.size = A at hD ⊢
  have hA : ∀ q : Nat, s.heap.size ≤ q → A q := fun q h => by rw [← hAe]; exact Or.inr h
  have hS : va_S A s.heap s.heap [] := va_S.rf
  have hin4 : ∀ w ∈ wsX40, w ∈ wsX4_isFull := by decide +kernel
  have lk13 := hts (.fieldLink RX4 13 "PostRounders$Rows" "width" "I") (by decide +kernel)
  have lk19 := hts (.fieldLink RX4 19 "PostRounders$Rows" "cells" "[I") (by decide +kernel)
  have lk23 := hts (.fieldLink RX4 23 "PostRounders$Rows" "used" "I") (by decide +kernel)
  have hl := lv_entry ([.ref (a 0)]) (n := 1) (Nat.le_of_ble_eq_true rfl)
  rw [lg_entry_eq]
  generalize (lg_sl ([.ref (a 0)]) ++ List.replicate (1 - (lg_sl ([.ref (a 0)])).length) Slot.unset).toArray = ls at hl ⊢
  have hl : lv_has ls 1 [(0, .ref (a 0))] := hl
  obtain ⟨OUT, hO⟩ : ∃ z, z = F_X4_isFull_v3 R := ⟨_, rfl⟩
  have hF := hO
  unfold F_X4_isFull_v3 at hF
  have e_pu := tN_eq pu.1
  have b_pu := pu.2
  refine lv_aload_n hx hb dX4_isFull_0 rfl (lv_at hl 0 rfl) ?_
  refine va_get (D := (dC, dI)) (ci := 4) (v := .int (Rus R)) (C := RX4) (T := TX4) (N := 3) hx hb hts hin4 hown hK hP 0 rfl rfl 2 (by decide) lk23 (fun _ h9 => h9) rfl dX4_isFull_1 ?_
  refine qv_top (e_pu) ?_
  refine lv_aload_n hx hb dX4_isFull_4 rfl (lv_at hl 0 rfl) ?_
  refine va_get (D := (dC, dI)) (ci := 4) (v := .int (nI 3)) (C := RX4) (T := TX4) (N := 3) hx hb hts hin4 hown hK hP 0 rfl rfl 0 (by decide) lk13 (fun _ h9 => h9) rfl dX4_isFull_5 ?_
  refine qv_iadd hx hb (tN (Rus R) + 3) dX4_isFull_8 (by omega) ?_
  refine lv_aload_n hx hb dX4_isFull_9 rfl (lv_at hl 0 rfl) ?_
  refine va_get (D := (dC, dI)) (ci := 4) (v := .ref (a 1)) (C := RX4) (T := TX4) (N := 3) hx hb hts hin4 hown hK hP 0 rfl rfl 1 (by decide) lk19 (fun _ h9 => h9) rfl dX4_isFull_10 ?_
  refine va_alen (v := nI 18) hx hb hK hP 1 0 rfl rfl rfl dX4_isFull_13 ?_
  refine qv_icmp_le (tgt := 21) hx hb dX4_isFull_14 (by decide) (by omega) (by omega) (fun c_14 => ?_) (fun c_14 => ?_)
  · rw [if_pos c_14] at hF
    refine lv_iconst (v := nI 0) hx hb dX4_isFull_21 (by decide) ?_
    have hP9 : va_P (dC, dI) vwCl (rW a cI 3 18 R) s.heap := hP
    exact W.zret (v := nI 0) hx hb hr (by rfl) (fun t ht hW => ⟨⟨_, (()), rfl, ⟨false, hO.symm.trans hF, rfl⟩, by rw [ht]; exact hP9, va_K.moved hW.alike hK, hD⟩, hS.F ht⟩) hS.2.2 dX4_isFull_22
  · rw [if_neg c_14] at hF
    refine lv_iconst (v := nI 1) hx hb dX4_isFull_17 (by decide) ?_
    refine lv_goto (tgt := 22) hx hb dX4_isFull_18 (by decide) ?_
    have hP9 : va_P (dC, dI) vwCl (rW a cI 3 18 R) s.heap := hP
    exact W.zret (v := nI 1) hx hb hr (by rfl) (fun t ht hW => ⟨⟨_, (()), rfl, ⟨true, hO.symm.trans hF, rfl⟩, by rw [ht]; exact hP9, va_K.moved hW.alike hK, hD⟩, hS.F ht⟩) hS.2.2 dX4_isFull_22
def F_X4_empty_v3 (R : rS) : (rS) := ((Rce R, nI 0))
set_option maxHeartbeats 4000000 in
set_option maxRecDepth 100000 in
theorem c_X4_empty_v3 (l : Launch) (dC : Nat → ClassId) (dI : Nat → Nat → Nat) (a : Nat → Nat) (cI : ClassId) (sz : Nat) (R : rS) : Met l yX4_empty wsX4_empty { frames := 0, cells := 0, slots := 0, locals := 0 } (xPc (dC, dI) vwCl (xT cI) (rW a cI 3 18 R) sz [.ref (a 0)]) (va_Qv (fun (u : (rS)) => F_X4_empty_v3 R = u) (mB (dC, dI) vwCl (xT cI) (va_A (rW a cI 3 18 R) sz) (fun u => rW a cI 3 18 u)) (va_A (rW a cI 3 18 R) sz)) 0 0 (va_A (rW a cI 3 18 R) sz) := by
  refine Met.ofW (cc := cX4_empty) (maxL := 1) (ret := none) (by decide) rfl ?_
  intro p e s m args below meth c s₁ B hml hv
  obtain ⟨rfl, hsz, hP, hK, hD0, hN⟩ := hv
  have hx := B.exec
  have hb := B.bytes
  have hr := B.returns
  have hts := atoms_spec (ws := wsX4_empty) B.pre
  have hown : s.vm.findClass RX4 = some m.cls := findClass_of_methodNamed B.named
  have hlocks := B.notSynchronized
  subst hsz
  have hD := hD0.self (sz := s.heap.size)
  generalize hAe : va_A (rW a cI 3 18 R) s.heap.size = A at hD ⊢
  have hA : ∀ q : Nat, s.heap.size ≤ q → A q := fun q h => by rw [← hAe]; exact Or.inr h
  have hS : va_S A s.heap s.heap [] := va_S.rf
  have hin4 : ∀ w ∈ wsX40, w ∈ wsX4_empty := by decide +kernel
  have lk23 := hts (.fieldLink RX4 23 "PostRounders$Rows" "used" "I") (by decide +kernel)
  have hl := lv_entry ([.ref (a 0)]) (n := 1) (Nat.le_of_ble_eq_true rfl)
  rw [lg_entry_eq]
  generalize (lg_sl ([.ref (a 0)]) ++ List.replicate (1 - (lg_sl ([.ref (a 0)])).length) Slot.unset).toArray = ls at hl ⊢
  have hl : lv_has ls 1 [(0, .ref (a 0))] := hl
  obtain ⟨OUT, hO⟩ : ∃ z, z = F_X4_empty_v3 R := ⟨_, rfl⟩
  have hF := hO
  unfold F_X4_empty_v3 at hF
  refine lv_aload_n hx hb dX4_empty_0 rfl (lv_at hl 0 rfl) ?_
  refine lv_iconst (v := nI 0) hx hb dX4_empty_1 (by decide) ?_
  refine va_put (D := (dC, dI)) (ci := 4) (v := .int (nI 0)) (ty := .int) (C := RX4) (T := TX4) (N := 3) hx hb hts hin4 tyX4 tyX4_ok nmX4 hown hK hP hD hS 0 rfl rfl 2 (by decide) lk23 (fun _ h9 => h9) rfl (by decide +kernel) rfl rfl (Nat.le_of_ble_eq_true rfl) dX4_empty_2 (fun H locs hP hD hS => ?_)
  have hP : va_P (dC, dI) vwCl (rW a cI 3 18 ((Rce R, nI 0))) H := hP
  have hD : va_D A (rW a cI 3 18 ((Rce R, nI 0))) := hD
  have hP9 : va_P (dC, dI) vwCl (rW a cI 3 18 ((Rce R, nI 0))) H := hP
  exact W.vret hx hb hr (fun t ht hW => ⟨⟨((Rce R, nI 0)), rfl, hO.symm.trans hF, by rw [ht]; exact hP9, va_K.moved hW.alike hK, hD⟩, hS.F ht⟩) hS.2.2 dX4_empty_5
def F_X4_put_v3 (R : rS) (v : Int32) : (rS) := if 18 ≤ tN (Rus R) then R else ((upd (Rce R) (tN (Rus R)) v, nI (tN (Rus R) + 1)))
set_option maxHeartbeats 4000000 in
set_option maxRecDepth 100000 in
theorem c_X4_put_v3 (l : Launch) (dC : Nat → ClassId) (dI : Nat → Nat → Nat) (a : Nat → Nat) (cI : ClassId) (sz : Nat) (R : rS) (v : Int32) (pu : inB (Rus R) 18) : Met l yX4_put wsX4_put { frames := 0, cells := 0, slots := 0, locals := 0 } (xPc (dC, dI) vwCl (xT cI) (rW a cI 3 18 R) sz [.ref (a 0), .int v]) (va_Qv (fun (u : (rS)) => F_X4_put_v3 R v = u) (mB (dC, dI) vwCl (xT cI) (va_A (rW a cI 3 18 R) sz) (fun u => rW a cI 3 18 u)) (va_A (rW a cI 3 18 R) sz)) 0 0 (va_A (rW a cI 3 18 R) sz) := by
  refine Met.ofW (cc := cX4_put) (maxL := 2) (ret := none) (by decide) rfl ?_
  intro p e s m args below meth c s₁ B hml hv
  obtain ⟨rfl, hsz, hP, hK, hD0, hN⟩ := hv
  have hx := B.exec
  have hb := B.bytes
  have hr := B.returns
  have hts := atoms_spec (ws := wsX4_put) B.pre
  have hown : s.vm.findClass RX4 = some m.cls := findClass_of_methodNamed B.named
  have hlocks := B.notSynchronized
  subst hsz
  have hD := hD0.self (sz := s.heap.size)
  generalize hAe : va_A (rW a cI 3 18 R) s.heap.size = A at hD ⊢
  have hA : ∀ q : Nat, s.heap.size ≤ q → A q := fun q h => by rw [← hAe]; exact Or.inr h
  have hS : va_S A s.heap s.heap [] := va_S.rf
  have hin4 : ∀ w ∈ wsX40, w ∈ wsX4_put := by decide +kernel
  have lk19 := hts (.fieldLink RX4 19 "PostRounders$Rows" "cells" "[I") (by decide +kernel)
  have lk23 := hts (.fieldLink RX4 23 "PostRounders$Rows" "used" "I") (by decide +kernel)
  have hl := lv_entry ([.ref (a 0), .int v]) (n := 2) (Nat.le_of_ble_eq_true rfl)
  rw [lg_entry_eq]
  generalize (lg_sl ([.ref (a 0), .int v]) ++ List.replicate (2 - (lg_sl ([.ref (a 0), .int v])).length) Slot.unset).toArray = ls at hl ⊢
  have hl : lv_has ls 2 [(0, .ref (a 0)), (1, .int v)] := hl
  obtain ⟨OUT, hO⟩ : ∃ z, z = F_X4_put_v3 R v := ⟨_, rfl⟩
  have hF := hO
  unfold F_X4_put_v3 at hF
  have e_pu := tN_eq pu.1
  have b_pu := pu.2
  refine lv_aload_n hx hb dX4_put_0 rfl (lv_at hl 0 rfl) ?_
  refine va_get (D := (dC, dI)) (ci := 4) (v := .int (Rus R)) (C := RX4) (T := TX4) (N := 3) hx hb hts hin4 hown hK hP 0 rfl rfl 2 (by decide) lk23 (fun _ h9 => h9) rfl dX4_put_1 ?_
  refine qv_top (e_pu) ?_
  refine lv_aload_n hx hb dX4_put_4 rfl (lv_at hl 0 rfl) ?_
  refine va_get (D := (dC, dI)) (ci := 4) (v := .ref (a 1)) (C := RX4) (T := TX4) (N := 3) hx hb hts hin4 hown hK hP 0 rfl rfl 1 (by decide) lk19 (fun _ h9 => h9) rfl dX4_put_5 ?_
  refine va_alen (v := nI 18) hx hb hK hP 1 0 rfl rfl rfl dX4_put_8 ?_
  refine qv_icmp_ge (tgt := 32) hx hb dX4_put_9 (by decide) (by omega) (by omega) (fun c_9 => ?_) (fun c_9 => ?_)
  · rw [if_pos c_9] at hF
    have hP9 : va_P (dC, dI) vwCl (rW a cI 3 18 R) s.heap := hP
    exact W.vret hx hb hr (fun t ht hW => ⟨⟨(R), rfl, hO.symm.trans hF, by rw [ht]; exact hP9, va_K.moved hW.alike hK, hD⟩, hS.F ht⟩) hS.2.2 dX4_put_32
  · rw [if_neg c_9] at hF
    refine lv_aload_n hx hb dX4_put_12 rfl (lv_at hl 0 rfl) ?_
    refine va_get (D := (dC, dI)) (ci := 4) (v := .ref (a 1)) (C := RX4) (T := TX4) (N := 3) hx hb hts hin4 hown hK hP 0 rfl rfl 1 (by decide) lk19 (fun _ h9 => h9) rfl dX4_put_13 ?_
    refine lv_aload_n hx hb dX4_put_16 rfl (lv_at hl 0 rfl) ?_
    refine va_get (D := (dC, dI)) (ci := 4) (v := .int (Rus R)) (C := RX4) (T := TX4) (N := 3) hx hb hts hin4 hown hK hP 0 rfl rfl 2 (by decide) lk23 (fun _ h9 => h9) rfl dX4_put_17 ?_
    refine qv_top (e_pu) ?_
    refine lv_iload_n hx hb dX4_put_20 rfl (lv_at hl 1 rfl) ?_
    refine qv_ast (ws' := rW a cI 3 18 ((upd (Rce R) (tN (Rus R)) v, Rus R))) hx hb hK hP hD hS 1 0 rfl rfl (by omega) (by decide) dX4_put_21 rfl (fun H locs hP hD hS => ?_)
    refine lv_aload_n hx hb dX4_put_22 rfl (lv_at hl 0 rfl) ?_
    refine lv_dup hx hb dX4_put_23 rfl ?_
    refine va_get (D := (dC, dI)) (ci := 4) (v := .int (Rus R)) (C := RX4) (T := TX4) (N := 3) hx hb hts hin4 hown hK hP 0 rfl rfl 2 (by decide) lk23 (fun _ h9 => h9) rfl dX4_put_24 ?_
    refine qv_top (e_pu) ?_
    refine lv_iconst (v := nI 1) hx hb dX4_put_27 (by decide) ?_
    refine qv_iadd hx hb (tN (Rus R) + 1) dX4_put_28 (by omega) ?_
    refine va_put (D := (dC, dI)) (ci := 4) (v := .int (nI (tN (Rus R) + 1))) (ty := .int) (C := RX4) (T := TX4) (N := 3) hx hb hts hin4 tyX4 tyX4_ok nmX4 hown hK hP hD hS 0 rfl rfl 2 (by decide) lk23 (fun _ h9 => h9) rfl (by decide +kernel) rfl rfl (Nat.le_of_ble_eq_true rfl) dX4_put_29 (fun H locs hP hD hS => ?_)
    have hP : va_P (dC, dI) vwCl (rW a cI 3 18 ((upd (Rce R) (tN (Rus R)) v, nI (tN (Rus R) + 1)))) H := hP
    have hD : va_D A (rW a cI 3 18 ((upd (Rce R) (tN (Rus R)) v, nI (tN (Rus R) + 1)))) := hD
    have hP9 : va_P (dC, dI) vwCl (rW a cI 3 18 ((upd (Rce R) (tN (Rus R)) v, nI (tN (Rus R) + 1)))) H := hP
    exact W.vret hx hb hr (fun t ht hW => ⟨⟨((upd (Rce R) (tN (Rus R)) v, nI (tN (Rus R) + 1))), rfl, hO.symm.trans hF, by rw [ht]; exact hP9, va_K.moved hW.alike hK, hD⟩, hS.F ht⟩) hS.2.2 dX4_put_32
def F_X4_cell_v3 (R : rS) (row : Nat) (col : Nat) : Int32 := if tN (Rus R) ≤ 3 * row + col then nI 0 else (Rce R) (3 * row + col)
set_option maxHeartbeats 4000000 in
set_option maxRecDepth 100000 in
theorem c_X4_cell_v3 (l : Launch) (dC : Nat → ClassId) (dI : Nat → Nat → Nat) (a : Nat → Nat) (cI : ClassId) (sz : Nat) (R : rS) (row : Nat) (col : Nat) (pu : inB (Rus R) 18) (h1 : row < 1000) (h2 : col < 10) : Met l yX4_cell wsX4_cell { frames := 0, cells := 0, slots := 0, locals := 0 } (xPc (dC, dI) vwCl (xT cI) (rW a cI 3 18 R) sz [.ref (a 0), .int (nI row), .int (nI col)]) (va_Qi (fun (r : Int32) (u : Unit) => F_X4_cell_v3 R row col = r) (mB (dC, dI) vwCl (xT cI) (va_A (rW a cI 3 18 R) sz) (fun u => rW a cI 3 18 R)) (va_A (rW a cI 3 18 R) sz)) 0 0 (va_A (rW a cI 3 18 R) sz) := by
  refine Met.ofW (cc := cX4_cell) (maxL := 4) (ret := (some .int)) (by decide) rfl ?_
  intro p e s m args below meth c s₁ B hml hv
  obtain ⟨rfl, hsz, hP, hK, hD0, hN⟩ := hv
  have hx := B.exec
  have hb := B.bytes
  have hr := B.returns
  have hts := atoms_spec (ws := wsX4_cell) B.pre
  have hown : s.vm.findClass RX4 = some m.cls := findClass_of_methodNamed B.named
  have hlocks := B.notSynchronized
  subst hsz
  have hD := hD0.self (sz := s.heap.size)
  generalize hAe : va_A (rW a cI 3 18 R) s.heap.size = A at hD ⊢
  have hA : ∀ q : Nat, s.heap.size ≤ q → A q := fun q h => by rw [← hAe]; exact Or.inr h
  have hS : va_S A s.heap s.heap [] := va_S.rf
  have hin4 : ∀ w ∈ wsX40, w ∈ wsX4_cell := by decide +kernel
  have lk13 := hts (.fieldLink RX4 13 "PostRounders$Rows" "width" "I") (by decide +kernel)
  have lk19 := hts (.fieldLink RX4 19 "PostRounders$Rows" "cells" "[I") (by decide +kernel)
  have lk23 := hts (.fieldLink RX4 23 "PostRounders$Rows" "used" "I") (by decide +kernel)
  have hl := lv_entry ([.ref (a 0), .int (nI row), .int (nI col)]) (n := 4) (Nat.le_of_ble_eq_true rfl)
  rw [lg_entry_eq]
  generalize (lg_sl ([.ref (a 0), .int (nI row), .int (nI col)]) ++ List.replicate (4 - (lg_sl ([.ref (a 0), .int (nI row), .int (nI col)])).length) Slot.unset).toArray = ls at hl ⊢
  have hl : lv_has ls 4 [(0, .ref (a 0)), (1, .int (nI row)), (2, .int (nI col))] := hl
  obtain ⟨OUT, hO⟩ : ∃ z, z = F_X4_cell_v3 R row col := ⟨_, rfl⟩
  have hF := hO
  unfold F_X4_cell_v3 at hF
  have e_pu := tN_eq pu.1
  have b_pu := pu.2
  refine lv_iload_n hx hb dX4_cell_0 rfl (lv_at hl 1 rfl) ?_
  refine lv_aload_n hx hb dX4_cell_1 rfl (lv_at hl 0 rfl) ?_
  refine va_get (D := (dC, dI)) (ci := 4) (v := .int (nI 3)) (C := RX4) (T := TX4) (N := 3) hx hb hts hin4 hown hK hP 0 rfl rfl 0 (by decide) lk13 (fun _ h9 => h9) rfl dX4_cell_2 ?_
  refine qv_imul hx hb (3 * row) dX4_cell_5 (by omega) ?_
  refine lv_iload_n hx hb dX4_cell_6 rfl (lv_at hl 2 rfl) ?_
  refine qv_iadd hx hb (3 * row + col) dX4_cell_7 (by omega) ?_
  refine lv_istore_n (lv' := [(3, .int (nI (3 * row + col))), (0, .ref (a 0)), (1, .int (nI row)), (2, .int (nI col))]) hx hb dX4_cell_8 rfl hl (by decide) rfl (fun ls hl => ?_)
  refine lv_iload_n hx hb dX4_cell_9 rfl (lv_at hl 0 rfl) ?_
  refine lv_if_lt (tgt := 30) hx hb dX4_cell_10 (by decide) (fun c_10 => absurd c_10 (nI_pos (by omega))) (fun _ => ?_)
  refine lv_iload_n hx hb dX4_cell_13 rfl (lv_at hl 0 rfl) ?_
  refine lv_aload_n hx hb dX4_cell_14 rfl (lv_at hl 1 rfl) ?_
  refine va_get (D := (dC, dI)) (ci := 4) (v := .int (Rus R)) (C := RX4) (T := TX4) (N := 3) hx hb hts hin4 hown hK hP 0 rfl rfl 2 (by decide) lk23 (fun _ h9 => h9) rfl dX4_cell_15 ?_
  refine qv_top (e_pu) ?_
  refine qv_icmp_ge (tgt := 30) hx hb dX4_cell_18 (by decide) (by omega) (by omega) (fun c_18 => ?_) (fun c_18 => ?_)
  · rw [if_pos c_18] at hF
    refine lv_iconst (v := nI 0) hx hb dX4_cell_30 (by decide) ?_
    have hP9 : va_P (dC, dI) vwCl (rW a cI 3 18 R) s.heap := hP
    exact W.iret (v := nI 0) hx hb hr (fun t ht hW => ⟨⟨_, (()), rfl, hO.symm.trans hF, by rw [ht]; exact hP9, va_K.moved hW.alike hK, hD⟩, hS.F ht⟩) hS.2.2 dX4_cell_31
  · rw [if_neg c_18] at hF
    refine lv_aload_n hx hb dX4_cell_21 rfl (lv_at hl 1 rfl) ?_
    refine va_get (D := (dC, dI)) (ci := 4) (v := .ref (a 1)) (C := RX4) (T := TX4) (N := 3) hx hb hts hin4 hown hK hP 0 rfl rfl 1 (by decide) lk19 (fun _ h9 => h9) rfl dX4_cell_22 ?_
    refine lv_iload_n hx hb dX4_cell_25 rfl (lv_at hl 0 rfl) ?_
    refine qv_ald (v := (Rce R) (3 * row + col)) hx hb hK hP 1 0 rfl rfl (by omega) (by decide) (rfl) dX4_cell_26 ?_
    refine lv_goto (tgt := 31) hx hb dX4_cell_27 (by decide) ?_
    have hP9 : va_P (dC, dI) vwCl (rW a cI 3 18 R) s.heap := hP
    exact W.iret (v := (Rce R) (3 * row + col)) hx hb hr (fun t ht hW => ⟨⟨_, (()), rfl, hO.symm.trans hF, by rw [ht]; exact hP9, va_K.moved hW.alike hK, hD⟩, hS.F ht⟩) hS.2.2 dX4_cell_31
def F_X4_dropFirst_v3 (R : rS) : (rS) := if tN (Rus R) < 3 then R else ((va_cpy (Rce R) (Rce R) 3 0 ((tN (Rus R) - 3)), nI ((tN (Rus R) - 3))))
set_option maxHeartbeats 4000000 in
set_option maxRecDepth 100000 in
theorem c_X4_dropFirst_v3 (l : Launch) (dC : Nat → ClassId) (dI : Nat → Nat → Nat) (a : Nat → Nat) (cI : ClassId) (sz : Nat) (R : rS) (pu : inB (Rus R) 18) : Met l yX4_dropFirst wsX4_dropFirst { frames := 1, cells := 0, slots := 0, locals := 60 } (xPc (dC, dI) vwCl (xT cI) (rW a cI 3 18 R) sz [.ref (a 0)]) (va_Qv (fun (u : (rS)) => F_X4_dropFirst_v3 R = u) (mB (dC, dI) vwCl (xT cI) (va_A (rW a cI 3 18 R) sz) (fun u => rW a cI 3 18 u)) (va_A (rW a cI 3 18 R) sz)) 0 0 (va_A (rW a cI 3 18 R) sz) := by
  refine Met.ofW (cc := cX4_dropFirst) (maxL := 1) (ret := none) (by decide) rfl ?_
  intro p e s m args below meth c s₁ B hml hv
  obtain ⟨rfl, hsz, hP, hK, hD0, hN⟩ := hv
  have hx := B.exec
  have hb := B.bytes
  have hr := B.returns
  have hts := atoms_spec (ws := wsX4_dropFirst) B.pre
  have hown : s.vm.findClass RX4 = some m.cls := findClass_of_methodNamed B.named
  have hlocks := B.notSynchronized
  subst hsz
  have hD := hD0.self (sz := s.heap.size)
  generalize hAe : va_A (rW a cI 3 18 R) s.heap.size = A at hD ⊢
  have hA : ∀ q : Nat, s.heap.size ≤ q → A q := fun q h => by rw [← hAe]; exact Or.inr h
  have hS : va_S A s.heap s.heap [] := va_S.rf
  have hin4 : ∀ w ∈ wsX40, w ∈ wsX4_dropFirst := by decide +kernel
  have lk13 := hts (.fieldLink RX4 13 "PostRounders$Rows" "width" "I") (by decide +kernel)
  have lk19 := hts (.fieldLink RX4 19 "PostRounders$Rows" "cells" "[I") (by decide +kernel)
  have lk23 := hts (.fieldLink RX4 23 "PostRounders$Rows" "used" "I") (by decide +kernel)
  have hl := lv_entry ([.ref (a 0)]) (n := 1) (Nat.le_of_ble_eq_true rfl)
  rw [lg_entry_eq]
  generalize (lg_sl ([.ref (a 0)]) ++ List.replicate (1 - (lg_sl ([.ref (a 0)])).length) Slot.unset).toArray = ls at hl ⊢
  have hl : lv_has ls 1 [(0, .ref (a 0))] := hl
  obtain ⟨OUT, hO⟩ : ∃ z, z = F_X4_dropFirst_v3 R := ⟨_, rfl⟩
  have hF := hO
  unfold F_X4_dropFirst_v3 at hF
  have e_pu := tN_eq pu.1
  have b_pu := pu.2
  refine lv_aload_n hx hb dX4_dropFirst_0 rfl (lv_at hl 0 rfl) ?_
  refine va_get (D := (dC, dI)) (ci := 4) (v := .int (Rus R)) (C := RX4) (T := TX4) (N := 3) hx hb hts hin4 hown hK hP 0 rfl rfl 2 (by decide) lk23 (fun _ h9 => h9) rfl dX4_dropFirst_1 ?_
  refine qv_top (e_pu) ?_
  refine lv_aload_n hx hb dX4_dropFirst_4 rfl (lv_at hl 0 rfl) ?_
  refine va_get (D := (dC, dI)) (ci := 4) (v := .int (nI 3)) (C := RX4) (T := TX4) (N := 3) hx hb hts hin4 hown hK hP 0 rfl rfl 0 (by decide) lk13 (fun _ h9 => h9) rfl dX4_dropFirst_5 ?_
  refine qv_icmp_lt (tgt := 44) hx hb dX4_dropFirst_8 (by decide) (by omega) (by omega) (fun c_8 => ?_) (fun c_8 => ?_)
  · rw [if_pos c_8] at hF
    have hP9 : va_P (dC, dI) vwCl (rW a cI 3 18 R) s.heap := hP
    exact W.vret hx hb hr (fun t ht hW => ⟨⟨(R), rfl, hO.symm.trans hF, by rw [ht]; exact hP9, va_K.moved hW.alike hK, hD⟩, hS.F ht⟩) hS.2.2 dX4_dropFirst_44
  · rw [if_neg c_8] at hF
    refine lv_aload_n hx hb dX4_dropFirst_11 rfl (lv_at hl 0 rfl) ?_
    refine lv_dup hx hb dX4_dropFirst_12 rfl ?_
    refine va_get (D := (dC, dI)) (ci := 4) (v := .int (Rus R)) (C := RX4) (T := TX4) (N := 3) hx hb hts hin4 hown hK hP 0 rfl rfl 2 (by decide) lk23 (fun _ h9 => h9) rfl dX4_dropFirst_13 ?_
    refine qv_top (e_pu) ?_
    refine lv_aload_n hx hb dX4_dropFirst_16 rfl (lv_at hl 0 rfl) ?_
    refine va_get (D := (dC, dI)) (ci := 4) (v := .int (nI 3)) (C := RX4) (T := TX4) (N := 3) hx hb hts hin4 hown hK hP 0 rfl rfl 0 (by decide) lk13 (fun _ h9 => h9) rfl dX4_dropFirst_17 ?_
    refine qv_isub hx hb (tN (Rus R) - 3) dX4_dropFirst_20 (by omega) ?_
    refine va_put (D := (dC, dI)) (ci := 4) (v := .int (nI ((tN (Rus R) - 3)))) (ty := .int) (C := RX4) (T := TX4) (N := 3) hx hb hts hin4 tyX4 tyX4_ok nmX4 hown hK hP hD hS 0 rfl rfl 2 (by decide) lk23 (fun _ h9 => h9) rfl (by decide +kernel) rfl rfl (Nat.le_of_ble_eq_true rfl) dX4_dropFirst_21 (fun H locs hP hD hS => ?_)
    have hP : va_P (dC, dI) vwCl (rW a cI 3 18 ((Rce R, nI ((tN (Rus R) - 3))))) H := hP
    have hD : va_D A (rW a cI 3 18 ((Rce R, nI ((tN (Rus R) - 3))))) := hD
    refine lv_aload_n hx hb dX4_dropFirst_24 rfl (lv_at hl 0 rfl) ?_
    refine va_get (D := (dC, dI)) (ci := 4) (v := .ref (a 1)) (C := RX4) (T := TX4) (N := 3) hx hb hts hin4 hown hK hP 0 rfl rfl 1 (by decide) lk19 (fun _ h9 => h9) rfl dX4_dropFirst_25 ?_
    refine lv_aload_n hx hb dX4_dropFirst_28 rfl (lv_at hl 0 rfl) ?_
    refine va_get (D := (dC, dI)) (ci := 4) (v := .int (nI 3)) (C := RX4) (T := TX4) (N := 3) hx hb hts hin4 hown hK hP 0 rfl rfl 0 (by decide) lk13 (fun _ h9 => h9) rfl dX4_dropFirst_29 ?_
    refine lv_aload_n hx hb dX4_dropFirst_32 rfl (lv_at hl 0 rfl) ?_
    refine va_get (D := (dC, dI)) (ci := 4) (v := .ref (a 1)) (C := RX4) (T := TX4) (N := 3) hx hb hts hin4 hown hK hP 0 rfl rfl 1 (by decide) lk19 (fun _ h9 => h9) rfl dX4_dropFirst_33 ?_
    refine lv_iconst (v := nI 0) hx hb dX4_dropFirst_36 (by decide) ?_
    refine lv_aload_n hx hb dX4_dropFirst_37 rfl (lv_at hl 0 rfl) ?_
    refine va_get (D := (dC, dI)) (ci := 4) (v := .int (nI ((tN (Rus R) - 3)))) (C := RX4) (T := TX4) (N := 3) hx hb hts hin4 hown hK hP 0 rfl rfl 2 (by decide) lk23 (fun _ h9 => h9) rfl dX4_dropFirst_38 ?_
    refine qv_cpy (ws' := rW a cI 3 18 ((va_cpy (Rce R) (Rce R) 3 0 ((tN (Rus R) - 3)), nI ((tN (Rus R) - 3))))) hx hb (hml.trans hl.1.symm) hown (hts (.methodLink RX4 26 arraycopyName) (by decide +kernel)) (hts (.native arraycopyName) (by decide +kernel)) (hts (.static arraycopyName) (by decide +kernel)) (hts (.initialized "java/lang/System") (by decide +kernel)) hK hP hD hS 1 1 0 rfl rfl rfl (by omega) (by omega) (by decide) (by decide) (Nat.le_of_ble_eq_true rfl) (Nat.le_of_ble_eq_true rfl) dX4_dropFirst_41 rfl (fun H locs hP hD hS => ?_)
    have hP9 : va_P (dC, dI) vwCl (rW a cI 3 18 ((va_cpy (Rce R) (Rce R) 3 0 ((tN (Rus R) - 3)), nI ((tN (Rus R) - 3))))) H := hP
    exact W.vret hx hb hr (fun t ht hW => ⟨⟨((va_cpy (Rce R) (Rce R) 3 0 ((tN (Rus R) - 3)), nI ((tN (Rus R) - 3)))), rfl, hO.symm.trans hF, by rw [ht]; exact hP9, va_K.moved hW.alike hK, hD⟩, hS.F ht⟩) hS.2.2 dX4_dropFirst_44
def F_X4_dropLast_v3 (R : rS) : (rS) := if (nI 0) < ((nI (tN (Rus R))) - (nI 3)) then ((Rce R, (nI (tN (Rus R))) - (nI 3))) else ((Rce R, nI 0))
set_option maxHeartbeats 4000000 in
set_option maxRecDepth 100000 in
theorem c_X4_dropLast_v3 (l : Launch) (dC : Nat → ClassId) (dI : Nat → Nat → Nat) (a : Nat → Nat) (cI : ClassId) (sz : Nat) (R : rS) (pu : inB (Rus R) 18) : Met l yX4_dropLast wsX4_dropLast { frames := 1, cells := 0, slots := 0, locals := 14 } (xPc (dC, dI) vwCl (xT cI) (rW a cI 3 18 R) sz [.ref (a 0)]) (va_Qv (fun (u : (rS)) => F_X4_dropLast_v3 R = u) (mB (dC, dI) vwCl (xT cI) (va_A (rW a cI 3 18 R) sz) (fun u => rW a cI 3 18 u)) (va_A (rW a cI 3 18 R) sz)) 0 0 (va_A (rW a cI 3 18 R) sz) := by
  refine Met.ofW (cc := cX4_dropLast) (maxL := 1) (ret := none) (by decide) rfl ?_
  intro p e s m args below meth c s₁ B hml hv
  obtain ⟨rfl, hsz, hP, hK, hD0, hN⟩ := hv
  have hx := B.exec
  have hb := B.bytes
  have hr := B.returns
  have hts := atoms_spec (ws := wsX4_dropLast) B.pre
  have hown : s.vm.findClass RX4 = some m.cls := findClass_of_methodNamed B.named
  have hlocks := B.notSynchronized
  subst hsz
  have hD := hD0.self (sz := s.heap.size)
  generalize hAe : va_A (rW a cI 3 18 R) s.heap.size = A at hD ⊢
  have hA : ∀ q : Nat, s.heap.size ≤ q → A q := fun q h => by rw [← hAe]; exact Or.inr h
  have hS : va_S A s.heap s.heap [] := va_S.rf
  have hin4 : ∀ w ∈ wsX40, w ∈ wsX4_dropLast := by decide +kernel
  have lk13 := hts (.fieldLink RX4 13 "PostRounders$Rows" "width" "I") (by decide +kernel)
  have lk23 := hts (.fieldLink RX4 23 "PostRounders$Rows" "used" "I") (by decide +kernel)
  have hl := lv_entry ([.ref (a 0)]) (n := 1) (Nat.le_of_ble_eq_true rfl)
  rw [lg_entry_eq]
  generalize (lg_sl ([.ref (a 0)]) ++ List.replicate (1 - (lg_sl ([.ref (a 0)])).length) Slot.unset).toArray = ls at hl ⊢
  have hl : lv_has ls 1 [(0, .ref (a 0))] := hl
  obtain ⟨OUT, hO⟩ : ∃ z, z = F_X4_dropLast_v3 R := ⟨_, rfl⟩
  have hF := hO
  unfold F_X4_dropLast_v3 at hF
  have e_pu := tN_eq pu.1
  have b_pu := pu.2
  refine lv_aload_n hx hb dX4_dropLast_0 rfl (lv_at hl 0 rfl) ?_
  refine lv_iconst (v := nI 0) hx hb dX4_dropLast_1 (by decide) ?_
  refine lv_aload_n hx hb dX4_dropLast_2 rfl (lv_at hl 0 rfl) ?_
  refine va_get (D := (dC, dI)) (ci := 4) (v := .int (Rus R)) (C := RX4) (T := TX4) (N := 3) hx hb hts hin4 hown hK hP 0 rfl rfl 2 (by decide) lk23 (fun _ h9 => h9) rfl dX4_dropLast_3 ?_
  refine qv_top (e_pu) ?_
  refine lv_aload_n hx hb dX4_dropLast_6 rfl (lv_at hl 0 rfl) ?_
  refine va_get (D := (dC, dI)) (ci := 4) (v := .int (nI 3)) (C := RX4) (T := TX4) (N := 3) hx hb hts hin4 hown hK hP 0 rfl rfl 0 (by decide) lk13 (fun _ h9 => h9) rfl dX4_dropLast_7 ?_
  refine lv_isub hx hb dX4_dropLast_10 ?_
  refine va_mmax hx hb (hml.trans hl.1.symm) hown (hts (.methodLink RX4 7 Lib.Math.max.name) (by decide +kernel)) (hts (.static Lib.Math.max.name) (by decide +kernel)) (hts (.initialized "java/lang/Math") (by decide +kernel)) (hts (.code Lib.Math.max.name Lib.Math.max.code 2 (some .int)) (by decide +kernel)) (Nat.le_of_ble_eq_true rfl) (Nat.le_of_ble_eq_true rfl) (Nat.zero_le _) (Nat.zero_le _) dX4_dropLast_11 ?_
  by_cases c_11 : (nI 0) < ((nI (tN (Rus R))) - (nI 3))
  · rw [if_pos c_11] at hF ⊢
    refine va_put (D := (dC, dI)) (ci := 4) (v := .int ((nI (tN (Rus R))) - (nI 3))) (ty := .int) (C := RX4) (T := TX4) (N := 3) hx hb hts hin4 tyX4 tyX4_ok nmX4 hown hK hP hD hS 0 rfl rfl 2 (by decide) lk23 (fun _ h9 => h9) rfl (by decide +kernel) rfl rfl (Nat.le_of_ble_eq_true rfl) dX4_dropLast_14 (fun H locs hP hD hS => ?_)
    have hP : va_P (dC, dI) vwCl (rW a cI 3 18 ((Rce R, (nI (tN (Rus R))) - (nI 3)))) H := hP
    have hD : va_D A (rW a cI 3 18 ((Rce R, (nI (tN (Rus R))) - (nI 3)))) := hD
    have hP9 : va_P (dC, dI) vwCl (rW a cI 3 18 ((Rce R, (nI (tN (Rus R))) - (nI 3)))) H := hP
    exact W.vret hx hb hr (fun t ht hW => ⟨⟨((Rce R, (nI (tN (Rus R))) - (nI 3))), rfl, hO.symm.trans hF, by rw [ht]; exact hP9, va_K.moved hW.alike hK, hD⟩, hS.F ht⟩) hS.2.2 dX4_dropLast_17
  · rw [if_neg c_11] at hF ⊢
    refine va_put (D := (dC, dI)) (ci := 4) (v := .int (nI 0)) (ty := .int) (C := RX4) (T := TX4) (N := 3) hx hb hts hin4 tyX4 tyX4_ok nmX4 hown hK hP hD hS 0 rfl rfl 2 (by decide) lk23 (fun _ h9 => h9) rfl (by decide +kernel) rfl rfl (Nat.le_of_ble_eq_true rfl) dX4_dropLast_14 (fun H locs hP hD hS => ?_)
    have hP : va_P (dC, dI) vwCl (rW a cI 3 18 ((Rce R, nI 0))) H := hP
    have hD : va_D A (rW a cI 3 18 ((Rce R, nI 0))) := hD
    have hP9 : va_P (dC, dI) vwCl (rW a cI 3 18 ((Rce R, nI 0))) H := hP
    exact W.vret hx hb hr (fun t ht hW => ⟨⟨((Rce R, nI 0)), rfl, hO.symm.trans hF, by rw [ht]; exact hP9, va_K.moved hW.alike hK, hD⟩, hS.F ht⟩) hS.2.2 dX4_dropLast_17
def F_X4_copy_v3 (R : rS) (O : rS) : (rS) := if (nI 18) < (nI (tN (Rus O))) then ((va_cpy (Rce O) (Rce R) 0 0 18, nI 18)) else ((va_cpy (Rce O) (Rce R) 0 0 (tN (Rus O)), nI (tN (Rus O))))
set_option maxHeartbeats 4000000 in
set_option maxRecDepth 100000 in
theorem c_X4_copy_v3 (l : Launch) (dC : Nat → ClassId) (dI : Nat → Nat → Nat) (a : Nat → Nat) (b : Nat → Nat) (cI : ClassId) (sz : Nat) (R : rS) (O : rS) (pu : inB (Rus O) 18) : Met l yX4_copy wsX4_copy { frames := 1, cells := 0, slots := 0, locals := 60 } (xPc (dC, dI) vwCl (xT cI) ((rW a cI 3 18 R) ++ (rW b cI 3 18 O)) sz [.ref (a 0), .ref (b 0)]) (va_Qv (fun (u : (rS)) => F_X4_copy_v3 R O = u) (mB (dC, dI) vwCl (xT cI) (va_A ((rW a cI 3 18 R) ++ (rW b cI 3 18 O)) sz) (fun u => (rW a cI 3 18 u) ++ (rW b cI 3 18 O))) (va_A ((rW a cI 3 18 R) ++ (rW b cI 3 18 O)) sz)) 0 0 (va_A ((rW a cI 3 18 R) ++ (rW b cI 3 18 O)) sz) := by
  refine Met.ofW (cc := cX4_copy) (maxL := 2) (ret := none) (by decide) rfl ?_
  intro p e s m args below meth c s₁ B hml hv
  obtain ⟨rfl, hsz, hP, hK, hD0, hN⟩ := hv
  have hx := B.exec
  have hb := B.bytes
  have hr := B.returns
  have hts := atoms_spec (ws := wsX4_copy) B.pre
  have hown : s.vm.findClass RX4 = some m.cls := findClass_of_methodNamed B.named
  have hlocks := B.notSynchronized
  subst hsz
  have hD := hD0.self (sz := s.heap.size)
  generalize hAe : va_A ((rW a cI 3 18 R) ++ (rW b cI 3 18 O)) s.heap.size = A at hD ⊢
  have hA : ∀ q : Nat, s.heap.size ≤ q → A q := fun q h => by rw [← hAe]; exact Or.inr h
  have hS : va_S A s.heap s.heap [] := va_S.rf
  have hin4 : ∀ w ∈ wsX40, w ∈ wsX4_copy := by decide +kernel
  have lk19 := hts (.fieldLink RX4 19 "PostRounders$Rows" "cells" "[I") (by decide +kernel)
  have lk23 := hts (.fieldLink RX4 23 "PostRounders$Rows" "used" "I") (by decide +kernel)
  have hl := lv_entry ([.ref (a 0), .ref (b 0)]) (n := 2) (Nat.le_of_ble_eq_true rfl)
  rw [lg_entry_eq]
  generalize (lg_sl ([.ref (a 0), .ref (b 0)]) ++ List.replicate (2 - (lg_sl ([.ref (a 0), .ref (b 0)])).length) Slot.unset).toArray = ls at hl ⊢
  have hl : lv_has ls 2 [(0, .ref (a 0)), (1, .ref (b 0))] := hl
  obtain ⟨OUT, hO⟩ : ∃ z, z = F_X4_copy_v3 R O := ⟨_, rfl⟩
  have hF := hO
  unfold F_X4_copy_v3 at hF
  have e_pu := tN_eq pu.1
  have b_pu := pu.2
  refine lv_aload_n hx hb dX4_copy_0 rfl (lv_at hl 0 rfl) ?_
  refine lv_aload_n hx hb dX4_copy_1 rfl (lv_at hl 1 rfl) ?_
  refine va_get (D := (dC, dI)) (ci := 4) (v := .int (Rus O)) (C := RX4) (T := TX4) (N := 3) hx hb hts hin4 hown hK hP 2 rfl rfl 2 (by decide) lk23 (fun _ h9 => h9) rfl dX4_copy_2 ?_
  refine qv_top (e_pu) ?_
  refine lv_aload_n hx hb dX4_copy_5 rfl (lv_at hl 0 rfl) ?_
  refine va_get (D := (dC, dI)) (ci := 4) (v := .ref (a 1)) (C := RX4) (T := TX4) (N := 3) hx hb hts hin4 hown hK hP 0 rfl rfl 1 (by decide) lk19 (fun _ h9 => h9) rfl dX4_copy_6 ?_
  refine va_alen (v := nI 18) hx hb hK hP 1 0 rfl rfl rfl dX4_copy_9 ?_
  refine va_mmin hx hb (hml.trans hl.1.symm) hown (hts (.methodLink RX4 32 Lib.Math.min.name) (by decide +kernel)) (hts (.static Lib.Math.min.name) (by decide +kernel)) (hts (.initialized "java/lang/Math") (by decide +kernel)) (hts (.code Lib.Math.min.name Lib.Math.min.code 2 (some .int)) (by decide +kernel)) (Nat.le_of_ble_eq_true rfl) (Nat.le_of_ble_eq_true rfl) (Nat.zero_le _) (Nat.zero_le _) dX4_copy_10 ?_
  by_cases c_10 : (nI 18) < (nI (tN (Rus O)))
  · rw [if_pos c_10] at hF ⊢
    refine va_put (D := (dC, dI)) (ci := 4) (v := .int (nI 18)) (ty := .int) (C := RX4) (T := TX4) (N := 3) hx hb hts hin4 tyX4 tyX4_ok nmX4 hown hK hP hD hS 0 rfl rfl 2 (by decide) lk23 (fun _ h9 => h9) rfl (by decide +kernel) rfl rfl (Nat.le_of_ble_eq_true rfl) dX4_copy_13 (fun H locs hP hD hS => ?_)
    have hP : va_P (dC, dI) vwCl ((rW a cI 3 18 ((Rce R, nI 18))) ++ (rW b cI 3 18 O)) H := hP
    have hD : va_D A ((rW a cI 3 18 ((Rce R, nI 18))) ++ (rW b cI 3 18 O)) := hD
    refine lv_aload_n hx hb dX4_copy_16 rfl (lv_at hl 1 rfl) ?_
    refine va_get (D := (dC, dI)) (ci := 4) (v := .ref (b 1)) (C := RX4) (T := TX4) (N := 3) hx hb hts hin4 hown hK hP 2 rfl rfl 1 (by decide) lk19 (fun _ h9 => h9) rfl dX4_copy_17 ?_
    refine lv_iconst (v := nI 0) hx hb dX4_copy_20 (by decide) ?_
    refine lv_aload_n hx hb dX4_copy_21 rfl (lv_at hl 0 rfl) ?_
    refine va_get (D := (dC, dI)) (ci := 4) (v := .ref (a 1)) (C := RX4) (T := TX4) (N := 3) hx hb hts hin4 hown hK hP 0 rfl rfl 1 (by decide) lk19 (fun _ h9 => h9) rfl dX4_copy_22 ?_
    refine lv_iconst (v := nI 0) hx hb dX4_copy_25 (by decide) ?_
    refine lv_aload_n hx hb dX4_copy_26 rfl (lv_at hl 0 rfl) ?_
    refine va_get (D := (dC, dI)) (ci := 4) (v := .int (nI 18)) (C := RX4) (T := TX4) (N := 3) hx hb hts hin4 hown hK hP 0 rfl rfl 2 (by decide) lk23 (fun _ h9 => h9) rfl dX4_copy_27 ?_
    refine qv_cpy (ws' := (rW a cI 3 18 ((va_cpy (Rce O) (Rce R) 0 0 18, nI 18))) ++ (rW b cI 3 18 O)) hx hb (hml.trans hl.1.symm) hown (hts (.methodLink RX4 26 arraycopyName) (by decide +kernel)) (hts (.native arraycopyName) (by decide +kernel)) (hts (.static arraycopyName) (by decide +kernel)) (hts (.initialized "java/lang/System") (by decide +kernel)) hK hP hD hS 3 1 0 rfl rfl rfl (by omega) (by omega) (by decide) (by decide) (Nat.le_of_ble_eq_true rfl) (Nat.le_of_ble_eq_true rfl) dX4_copy_30 rfl (fun H locs hP hD hS => ?_)
    have hP9 : va_P (dC, dI) vwCl ((rW a cI 3 18 ((va_cpy (Rce O) (Rce R) 0 0 18, nI 18))) ++ (rW b cI 3 18 O)) H := hP
    exact W.vret hx hb hr (fun t ht hW => ⟨⟨((va_cpy (Rce O) (Rce R) 0 0 18, nI 18)), rfl, hO.symm.trans hF, by rw [ht]; exact hP9, va_K.moved hW.alike hK, hD⟩, hS.F ht⟩) hS.2.2 dX4_copy_33
  · rw [if_neg c_10] at hF ⊢
    refine va_put (D := (dC, dI)) (ci := 4) (v := .int (nI (tN (Rus O)))) (ty := .int) (C := RX4) (T := TX4) (N := 3) hx hb hts hin4 tyX4 tyX4_ok nmX4 hown hK hP hD hS 0 rfl rfl 2 (by decide) lk23 (fun _ h9 => h9) rfl (by decide +kernel) rfl rfl (Nat.le_of_ble_eq_true rfl) dX4_copy_13 (fun H locs hP hD hS => ?_)
    have hP : va_P (dC, dI) vwCl ((rW a cI 3 18 ((Rce R, nI (tN (Rus O))))) ++ (rW b cI 3 18 O)) H := hP
    have hD : va_D A ((rW a cI 3 18 ((Rce R, nI (tN (Rus O))))) ++ (rW b cI 3 18 O)) := hD
    refine lv_aload_n hx hb dX4_copy_16 rfl (lv_at hl 1 rfl) ?_
    refine va_get (D := (dC, dI)) (ci := 4) (v := .ref (b 1)) (C := RX4) (T := TX4) (N := 3) hx hb hts hin4 hown hK hP 2 rfl rfl 1 (by decide) lk19 (fun _ h9 => h9) rfl dX4_copy_17 ?_
    refine lv_iconst (v := nI 0) hx hb dX4_copy_20 (by decide) ?_
    refine lv_aload_n hx hb dX4_copy_21 rfl (lv_at hl 0 rfl) ?_
    refine va_get (D := (dC, dI)) (ci := 4) (v := .ref (a 1)) (C := RX4) (T := TX4) (N := 3) hx hb hts hin4 hown hK hP 0 rfl rfl 1 (by decide) lk19 (fun _ h9 => h9) rfl dX4_copy_22 ?_
    refine lv_iconst (v := nI 0) hx hb dX4_copy_25 (by decide) ?_
    refine lv_aload_n hx hb dX4_copy_26 rfl (lv_at hl 0 rfl) ?_
    refine va_get (D := (dC, dI)) (ci := 4) (v := .int (nI (tN (Rus O)))) (C := RX4) (T := TX4) (N := 3) hx hb hts hin4 hown hK hP 0 rfl rfl 2 (by decide) lk23 (fun _ h9 => h9) rfl dX4_copy_27 ?_
    refine qv_cpy (ws' := (rW a cI 3 18 ((va_cpy (Rce O) (Rce R) 0 0 (tN (Rus O)), nI (tN (Rus O))))) ++ (rW b cI 3 18 O)) hx hb (hml.trans hl.1.symm) hown (hts (.methodLink RX4 26 arraycopyName) (by decide +kernel)) (hts (.native arraycopyName) (by decide +kernel)) (hts (.static arraycopyName) (by decide +kernel)) (hts (.initialized "java/lang/System") (by decide +kernel)) hK hP hD hS 3 1 0 rfl rfl rfl (by omega) (by omega) (by decide) (by decide) (Nat.le_of_ble_eq_true rfl) (Nat.le_of_ble_eq_true rfl) dX4_copy_30 rfl (fun H locs hP hD hS => ?_)
    have hP9 : va_P (dC, dI) vwCl ((rW a cI 3 18 ((va_cpy (Rce O) (Rce R) 0 0 (tN (Rus O)), nI (tN (Rus O))))) ++ (rW b cI 3 18 O)) H := hP
    exact W.vret hx hb hr (fun t ht hW => ⟨⟨((va_cpy (Rce O) (Rce R) 0 0 (tN (Rus O)), nI (tN (Rus O)))), rfl, hO.symm.trans hF, by rw [ht]; exact hP9, va_K.moved hW.alike hK, hD⟩, hS.F ht⟩) hS.2.2 dX4_copy_33
def F_X4_digestFrom_v3_L2 : Nat → (rS) → (Nat) → (Int64) → (Nat) × (Int64)
  | 0, _, k, h1 => (k, h1)
  | n_2 + 1, R, k, h1 => if tN (Rus R) ≤ k then (k, h1) else F_X4_digestFrom_v3_L2 n_2 R (k + 1) ((31 * h1) + (((Rce R) k).toInt64))
def F_X4_digestFrom_v3 (R : rS) (h : Int64) : Int64 := let2 (F_X4_digestFrom_v3_L2 19 R 0 h) (fun k h1 => h1)
set_option maxHeartbeats 4000000 in
set_option maxRecDepth 100000 in
theorem c_X4_digestFrom_v3 (l : Launch) (dC : Nat → ClassId) (dI : Nat → Nat → Nat) (a : Nat → Nat) (cI : ClassId) (sz : Nat) (R : rS) (h : Int64) (pu : inB (Rus R) 18) : Met l yX4_digestFrom wsX4_digestFrom { frames := 0, cells := 0, slots := 0, locals := 0 } (xPc (dC, dI) vwCl (xT cI) (rW a cI 3 18 R) sz [.ref (a 0), .long h]) (va_Ql (fun (r : Int64) (u : Unit) => F_X4_digestFrom_v3 R h = r) (mB (dC, dI) vwCl (xT cI) (va_A (rW a cI 3 18 R) sz) (fun u => rW a cI 3 18 R)) (va_A (rW a cI 3 18 R) sz)) 0 0 (va_A (rW a cI 3 18 R) sz) := by
  refine Met.ofW (cc := cX4_digestFrom) (maxL := 4) (ret := (some .long)) (by decide) rfl ?_
  intro p e s m args below meth c s₁ B hml hv
  obtain ⟨rfl, hsz, hP, hK, hD0, hN⟩ := hv
  have hx := B.exec
  have hb := B.bytes
  have hr := B.returns
  have hts := atoms_spec (ws := wsX4_digestFrom) B.pre
  have hown : s.vm.findClass RX4 = some m.cls := findClass_of_methodNamed B.named
  have hlocks := B.notSynchronized
  subst hsz
  have hD := hD0.self (sz := s.heap.size)
  generalize hAe : va_A (rW a cI 3 18 R) s.heap.size = A at hD ⊢
  have hA : ∀ q : Nat, s.heap.size ≤ q → A q := fun q h => by rw [← hAe]; exact Or.inr h
  have hS : va_S A s.heap s.heap [] := va_S.rf
  have hin4 : ∀ w ∈ wsX40, w ∈ wsX4_digestFrom := by decide +kernel
  have lk19 := hts (.fieldLink RX4 19 "PostRounders$Rows" "cells" "[I") (by decide +kernel)
  have lk23 := hts (.fieldLink RX4 23 "PostRounders$Rows" "used" "I") (by decide +kernel)
  have hl := lv_entry ([.ref (a 0), .long h]) (n := 4) (Nat.le_of_ble_eq_true rfl)
  rw [lg_entry_eq]
  generalize (lg_sl ([.ref (a 0), .long h]) ++ List.replicate (4 - (lg_sl ([.ref (a 0), .long h])).length) Slot.unset).toArray = ls at hl ⊢
  have hl : lv_has ls 4 [(0, .ref (a 0)), (1, .long h)] := hl
  obtain ⟨OUT, hO⟩ : ∃ z, z = F_X4_digestFrom_v3 R h := ⟨_, rfl⟩
  have hF := hO
  unfold F_X4_digestFrom_v3 at hF
  have e_pu := tN_eq pu.1
  have b_pu := pu.2
  refine lv_iconst (v := nI 0) hx hb dX4_digestFrom_0 (by decide) ?_
  refine lv_istore_n (lv' := [(3, .int (nI 0)), (0, .ref (a 0)), (1, .long h)]) hx hb dX4_digestFrom_1 rfl hl (by decide) rfl (fun ls hl => ?_)
  have L_2 : ∀ (n_2 : Nat) (k : Nat) (h1 : Int64) (H : Heap) (locs : List Loc), k ≤ tN (Rus R) → tN (Rus R) - k < n_2 → va_P (dC, dI) vwCl (rW a cI 3 18 R) H → va_D A (rW a cI 3 18 R) → va_S A s.heap H locs → ∀ (ls : Array Slot), lv_has ls 4 [(3, .int (nI k)), (0, .ref (a 0)), (1, .long h1)] → OUT = let2 (F_X4_digestFrom_v3_L2 n_2 R k h1) (fun k h1 => h1) → W p l e (headSpec wsX4_digestFrom { frames := 0, cells := 0, slots := 0, locals := 0 }).room s m ([.ref (a 0), .long h] : List Value).toArray below meth c H locs 0 0 (MQ below (va_Ql (fun (r : Int64) (u : Unit) => F_X4_digestFrom_v3 R h = r) (mB (dC, dI) vwCl (xT cI) A (fun u => rW a cI 3 18 R)) A) ([.ref (a 0), .long h] : List Value).toArray s 0 0 A) (F0 m 2 ls []) := by
    intro n_2
    induction n_2 with
    | zero => intro k h1 H locs i0 hmu; exact absurd hmu (Nat.not_lt_zero _)
    | succ n_2 ih_2 =>
      intro k h1 H locs i0 hmu_2 hP hD hS ls hl hF
      rw [F_X4_digestFrom_v3_L2] at hF
      refine lv_iload_n hx hb dX4_digestFrom_2 rfl (lv_at hl 0 rfl) ?_
      refine lv_aload_n hx hb dX4_digestFrom_3 rfl (lv_at hl 1 rfl) ?_
      refine va_get (D := (dC, dI)) (ci := 4) (v := .int (Rus R)) (C := RX4) (T := TX4) (N := 3) hx hb hts hin4 hown hK hP 0 rfl rfl 2 (by decide) lk23 (fun _ h9 => h9) rfl dX4_digestFrom_4 ?_
      refine qv_top (e_pu) ?_
      refine qv_icmp_ge (tgt := 30) hx hb dX4_digestFrom_7 (by decide) (by omega) (by omega) (fun c_7 => ?_) (fun c_7 => ?_)
      · rw [if_pos c_7] at hF
        rw [let2_mk (k : Nat) (h1 : Int64)] at hF
        refine lv_lload_n hx hb dX4_digestFrom_30 rfl (lv_at hl 2 rfl) ?_
        have hP9 : va_P (dC, dI) vwCl (rW a cI 3 18 R) H := hP
        exact W.lret (v := h1) hx hb hr (fun t ht hW => ⟨⟨_, (()), rfl, hO.symm.trans hF, by rw [ht]; exact hP9, va_K.moved hW.alike hK, hD⟩, hS.F ht⟩) hS.2.2 dX4_digestFrom_31
      · rw [if_neg c_7] at hF
        refine lv_ldc2 (v := 31) hx hb hown (hts (.constantLong RX4 35 31) (by decide +kernel)) dX4_digestFrom_10 ?_
        refine lv_lload_n hx hb dX4_digestFrom_13 rfl (lv_at hl 2 rfl) ?_
        refine lv_lmul hx hb dX4_digestFrom_14 ?_
        refine lv_aload_n hx hb dX4_digestFrom_15 rfl (lv_at hl 1 rfl) ?_
        refine va_get (D := (dC, dI)) (ci := 4) (v := .ref (a 1)) (C := RX4) (T := TX4) (N := 3) hx hb hts hin4 hown hK hP 0 rfl rfl 1 (by decide) lk19 (fun _ h9 => h9) rfl dX4_digestFrom_16 ?_
        refine lv_iload_n hx hb dX4_digestFrom_19 rfl (lv_at hl 0 rfl) ?_
        refine qv_ald (v := (Rce R) k) hx hb hK hP 1 0 rfl rfl (by omega) (by decide) (rfl) dX4_digestFrom_20 ?_
        refine lv_i2l hx hb dX4_digestFrom_21 rfl ?_
        refine lv_ladd hx hb dX4_digestFrom_22 ?_
        refine lv_lstore_n (lv' := [(1, .long ((31 * h1) + (((Rce R) k).toInt64))), (3, .int (nI k)), (0, .ref (a 0))]) hx hb dX4_digestFrom_23 rfl hl (by decide) rfl (fun ls hl => ?_)
        refine lv_iinc (v := nI (k + 1)) (lv' := [(3, .int (nI (k + 1))), (1, .long ((31 * h1) + (((Rce R) k).toInt64))), (0, .ref (a 0))]) hx hb dX4_digestFrom_24 hl (k := 1) rfl (qn_inc (c := 1) rfl (by omega)) (by decide) rfl (fun ls hl => ?_)
        refine lv_goto (tgt := 2) hx hb dX4_digestFrom_27 (by decide) ?_
        exact ih_2 (k + 1) ((31 * h1) + (((Rce R) k).toInt64)) H locs (by omega) (by omega) hP hD hS ls (lv_sub hl [0, 2, 1] rfl) hF
  exact L_2 19 0 h s.heap [] (by omega) (by omega) hP hD hS ls (lv_sub hl [0, 1, 2] rfl) hF
theorem put_at3 {R R' : rS} {v : Int32} (e : F_X4_put_v3 R v = R') (h : inB (Rus R) 18) : inB (Rus R') 18 := by
  rw [← e]; unfold F_X4_put_v3
  split
  · exact h
  · exact inB_nI (by omega) (by decide)
theorem dropFirst_at3 {R R' : rS} (e : F_X4_dropFirst_v3 R = R') (h : inB (Rus R) 18) : inB (Rus R') 18 := by
  rw [← e]; unfold F_X4_dropFirst_v3
  have := h.2
  split
  · exact h
  · exact inB_nI (by omega) (by decide)
def F_X4_size_v4 (R : rS) : Int32 := nI (((tN (Rus R)) / 4))
set_option maxHeartbeats 4000000 in
set_option maxRecDepth 100000 in
theorem c_X4_size_v4 (l : Launch) (dC : Nat → ClassId) (dI : Nat → Nat → Nat) (a : Nat → Nat) (cI : ClassId) (sz : Nat) (R : rS) (pu : inB (Rus R) 24) : Met l yX4_size wsX4_size { frames := 0, cells := 0, slots := 0, locals := 0 } (xPc (dC, dI) vwCl (xT cI) (rW a cI 4 24 R) sz [.ref (a 0)]) (va_Qi (fun (r : Int32) (u : Unit) => F_X4_size_v4 R = r) (mB (dC, dI) vwCl (xT cI) (va_A (rW a cI 4 24 R) sz) (fun u => rW a cI 4 24 R)) (va_A (rW a cI 4 24 R) sz)) 0 0 (va_A (rW a cI 4 24 R) sz) := by
  refine Met.ofW (cc := cX4_size) (maxL := 1) (ret := (some .int)) (by decide) rfl ?_
  intro p e s m args below meth c s₁ B hml hv
  obtain ⟨rfl, hsz, hP, hK, hD0, hN⟩ := hv
  have hx := B.exec
  have hb := B.bytes
  have hr := B.returns
  have hts := atoms_spec (ws := wsX4_size) B.pre
  have hown : s.vm.findClass RX4 = some m.cls := findClass_of_methodNamed B.named
  have hlocks := B.notSynchronized
  subst hsz
  have hD := hD0.self (sz := s.heap.size)
  generalize hAe : va_A (rW a cI 4 24 R) s.heap.size = A at hD ⊢
  have hA : ∀ q : Nat, s.heap.size ≤ q → A q := fun q h => by rw [← hAe]; exact Or.inr h
  have hS : va_S A s.heap s.heap [] := va_S.rf
  have hin4 : ∀ w ∈ wsX40, w ∈ wsX4_size := by decide +kernel
  have lk13 := hts (.fieldLink RX4 13 "PostRounders$Rows" "width" "I") (by decide +kernel)
  have lk23 := hts (.fieldLink RX4 23 "PostRounders$Rows" "used" "I") (by decide +kernel)
  have hl := lv_entry ([.ref (a 0)]) (n := 1) (Nat.le_of_ble_eq_true rfl)
  rw [lg_entry_eq]
  generalize (lg_sl ([.ref (a 0)]) ++ List.replicate (1 - (lg_sl ([.ref (a 0)])).length) Slot.unset).toArray = ls at hl ⊢
  have hl : lv_has ls 1 [(0, .ref (a 0))] := hl
  obtain ⟨OUT, hO⟩ : ∃ z, z = F_X4_size_v4 R := ⟨_, rfl⟩
  have hF := hO
  unfold F_X4_size_v4 at hF
  have e_pu := tN_eq pu.1
  have b_pu := pu.2
  refine lv_aload_n hx hb dX4_size_0 rfl (lv_at hl 0 rfl) ?_
  refine va_get (D := (dC, dI)) (ci := 4) (v := .int (nI 4)) (C := RX4) (T := TX4) (N := 3) hx hb hts hin4 hown hK hP 0 rfl rfl 0 (by decide) lk13 (fun _ h9 => h9) rfl dX4_size_1 ?_
  refine lv_iconst (v := nI 1) hx hb dX4_size_4 (by decide) ?_
  refine qv_icmp_ge (tgt := 12) hx hb dX4_size_5 (by decide) (by omega) (by omega) (fun _ => ?_) (fun c_5 => absurd c_5 (by decide))
  refine lv_aload_n hx hb dX4_size_12 rfl (lv_at hl 0 rfl) ?_
  refine va_get (D := (dC, dI)) (ci := 4) (v := .int (Rus R)) (C := RX4) (T := TX4) (N := 3) hx hb hts hin4 hown hK hP 0 rfl rfl 2 (by decide) lk23 (fun _ h9 => h9) rfl dX4_size_13 ?_
  refine qv_top (e_pu) ?_
  refine lv_aload_n hx hb dX4_size_16 rfl (lv_at hl 0 rfl) ?_
  refine va_get (D := (dC, dI)) (ci := 4) (v := .int (nI 4)) (C := RX4) (T := TX4) (N := 3) hx hb hts hin4 hown hK hP 0 rfl rfl 0 (by decide) lk13 (fun _ h9 => h9) rfl dX4_size_17 ?_
  refine qv_idiv hx hb dX4_size_20 (by omega) (by omega) (by omega) ?_
  have hP9 : va_P (dC, dI) vwCl (rW a cI 4 24 R) s.heap := hP
  exact W.iret (v := nI (((tN (Rus R)) / 4))) hx hb hr (fun t ht hW => ⟨⟨_, (()), rfl, hO.symm.trans hF, by rw [ht]; exact hP9, va_K.moved hW.alike hK, hD⟩, hS.F ht⟩) hS.2.2 dX4_size_21
def F_X4_isFull_v4 (R : rS) : Bool := if tN (Rus R) + 4 ≤ 24 then false else true
set_option maxHeartbeats 4000000 in
set_option maxRecDepth 100000 in
theorem c_X4_isFull_v4 (l : Launch) (dC : Nat → ClassId) (dI : Nat → Nat → Nat) (a : Nat → Nat) (cI : ClassId) (sz : Nat) (R : rS) (pu : inB (Rus R) 24) : Met l yX4_isFull wsX4_isFull { frames := 0, cells := 0, slots := 0, locals := 0 } (xPc (dC, dI) vwCl (xT cI) (rW a cI 4 24 R) sz [.ref (a 0)]) (va_Qi (fun (r : Int32) (u : Unit) => ∃ z : Bool, F_X4_isFull_v4 R = z ∧ r = if z = true then 1 else 0) (mB (dC, dI) vwCl (xT cI) (va_A (rW a cI 4 24 R) sz) (fun u => rW a cI 4 24 R)) (va_A (rW a cI 4 24 R) sz)) 0 0 (va_A (rW a cI 4 24 R) sz) := by
  refine Met.ofW (cc := cX4_isFull) (maxL := 1) (ret := (some .boolean)) (by decide) rfl ?_
  intro p e s m args below meth c s₁ B hml hv
  obtain ⟨rfl, hsz, hP, hK, hD0, hN⟩ := hv
  have hx := B.exec
  have hb := B.bytes
  have hr := B.returns
  have hts := atoms_spec (ws := wsX4_isFull) B.pre
  have hown : s.vm.findClass RX4 = some m.cls := findClass_of_methodNamed B.named
  have hlocks := B.notSynchronized
  subst hsz
  have hD := hD0.self (sz := s.heap.size)
  generalize hAe : va_A (rW a cI 4 24 R) s.heap.size = A at hD ⊢
  have hA : ∀ q : Nat, s.heap.size ≤ q → A q := fun q h => by rw [← hAe]; exact Or.inr h
  have hS : va_S A s.heap s.heap [] := va_S.rf
  have hin4 : ∀ w ∈ wsX40, w ∈ wsX4_isFull := by decide +kernel
  have lk13 := hts (.fieldLink RX4 13 "PostRounders$Rows" "width" "I") (by decide +kernel)
  have lk19 := hts (.fieldLink RX4 19 "PostRounders$Rows" "cells" "[I") (by decide +kernel)
  have lk23 := hts (.fieldLink RX4 23 "PostRounders$Rows" "used" "I") (by decide +kernel)
  have hl := lv_entry ([.ref (a 0)]) (n := 1) (Nat.le_of_ble_eq_true rfl)
  rw [lg_entry_eq]
  generalize (lg_sl ([.ref (a 0)]) ++ List.replicate (1 - (lg_sl ([.ref (a 0)])).length) Slot.unset).toArray = ls at hl ⊢
  have hl : lv_has ls 1 [(0, .ref (a 0))] := hl
  obtain ⟨OUT, hO⟩ : ∃ z, z = F_X4_isFull_v4 R := ⟨_, rfl⟩
  have hF := hO
  unfold F_X4_isFull_v4 at hF
  have e_pu := tN_eq pu.1
  have b_pu := pu.2
  refine lv_aload_n hx hb dX4_isFull_0 rfl (lv_at hl 0 rfl) ?_
  refine va_get (D := (dC, dI)) (ci := 4) (v := .int (Rus R)) (C := RX4) (T := TX4) (N := 3) hx hb hts hin4 hown hK hP 0 rfl rfl 2 (by decide) lk23 (fun _ h9 => h9) rfl dX4_isFull_1 ?_
  refine qv_top (e_pu) ?_
  refine lv_aload_n hx hb dX4_isFull_4 rfl (lv_at hl 0 rfl) ?_
  refine va_get (D := (dC, dI)) (ci := 4) (v := .int (nI 4)) (C := RX4) (T := TX4) (N := 3) hx hb hts hin4 hown hK hP 0 rfl rfl 0 (by decide) lk13 (fun _ h9 => h9) rfl dX4_isFull_5 ?_
  refine qv_iadd hx hb (tN (Rus R) + 4) dX4_isFull_8 (by omega) ?_
  refine lv_aload_n hx hb dX4_isFull_9 rfl (lv_at hl 0 rfl) ?_
  refine va_get (D := (dC, dI)) (ci := 4) (v := .ref (a 1)) (C := RX4) (T := TX4) (N := 3) hx hb hts hin4 hown hK hP 0 rfl rfl 1 (by decide) lk19 (fun _ h9 => h9) rfl dX4_isFull_10 ?_
  refine va_alen (v := nI 24) hx hb hK hP 1 0 rfl rfl rfl dX4_isFull_13 ?_
  refine qv_icmp_le (tgt := 21) hx hb dX4_isFull_14 (by decide) (by omega) (by omega) (fun c_14 => ?_) (fun c_14 => ?_)
  · rw [if_pos c_14] at hF
    refine lv_iconst (v := nI 0) hx hb dX4_isFull_21 (by decide) ?_
    have hP9 : va_P (dC, dI) vwCl (rW a cI 4 24 R) s.heap := hP
    exact W.zret (v := nI 0) hx hb hr (by rfl) (fun t ht hW => ⟨⟨_, (()), rfl, ⟨false, hO.symm.trans hF, rfl⟩, by rw [ht]; exact hP9, va_K.moved hW.alike hK, hD⟩, hS.F ht⟩) hS.2.2 dX4_isFull_22
  · rw [if_neg c_14] at hF
    refine lv_iconst (v := nI 1) hx hb dX4_isFull_17 (by decide) ?_
    refine lv_goto (tgt := 22) hx hb dX4_isFull_18 (by decide) ?_
    have hP9 : va_P (dC, dI) vwCl (rW a cI 4 24 R) s.heap := hP
    exact W.zret (v := nI 1) hx hb hr (by rfl) (fun t ht hW => ⟨⟨_, (()), rfl, ⟨true, hO.symm.trans hF, rfl⟩, by rw [ht]; exact hP9, va_K.moved hW.alike hK, hD⟩, hS.F ht⟩) hS.2.2 dX4_isFull_22
def F_X4_empty_v4 (R : rS) : (rS) := ((Rce R, nI 0))
set_option maxHeartbeats 4000000 in
set_option maxRecDepth 100000 in
theorem c_X4_empty_v4 (l : Launch) (dC : Nat → ClassId) (dI : Nat → Nat → Nat) (a : Nat → Nat) (cI : ClassId) (sz : Nat) (R : rS) : Met l yX4_empty wsX4_empty { frames := 0, cells := 0, slots := 0, locals := 0 } (xPc (dC, dI) vwCl (xT cI) (rW a cI 4 24 R) sz [.ref (a 0)]) (va_Qv (fun (u : (rS)) => F_X4_empty_v4 R = u) (mB (dC, dI) vwCl (xT cI) (va_A (rW a cI 4 24 R) sz) (fun u => rW a cI 4 24 u)) (va_A (rW a cI 4 24 R) sz)) 0 0 (va_A (rW a cI 4 24 R) sz) := by
  refine Met.ofW (cc := cX4_empty) (maxL := 1) (ret := none) (by decide) rfl ?_
  intro p e s m args below meth c s₁ B hml hv
  obtain ⟨rfl, hsz, hP, hK, hD0, hN⟩ := hv
  have hx := B.exec
  have hb := B.bytes
  have hr := B.returns
  have hts := atoms_spec (ws := wsX4_empty) B.pre
  have hown : s.vm.findClass RX4 = some m.cls := findClass_of_methodNamed B.named
  have hlocks := B.notSynchronized
  subst hsz
  have hD := hD0.self (sz := s.heap.size)
  generalize hAe : va_A (rW a cI 4 24 R) s.heap.size = A at hD ⊢
  have hA : ∀ q : Nat, s.heap.size ≤ q → A q := fun q h => by rw [← hAe]; exact Or.inr h
  have hS : va_S A s.heap s.heap [] := va_S.rf
  have hin4 : ∀ w ∈ wsX40, w ∈ wsX4_empty := by decide +kernel
  have lk23 := hts (.fieldLink RX4 23 "PostRounders$Rows" "used" "I") (by decide +kernel)
  have hl := lv_entry ([.ref (a 0)]) (n := 1) (Nat.le_of_ble_eq_true rfl)
  rw [lg_entry_eq]
  generalize (lg_sl ([.ref (a 0)]) ++ List.replicate (1 - (lg_sl ([.ref (a 0)])).length) Slot.unset).toArray = ls at hl ⊢
  have hl : lv_has ls 1 [(0, .ref (a 0))] := hl
  obtain ⟨OUT, hO⟩ : ∃ z, z = F_X4_empty_v4 R := ⟨_, rfl⟩
  have hF := hO
  unfold F_X4_empty_v4 at hF
  refine lv_aload_n hx hb dX4_empty_0 rfl (lv_at hl 0 rfl) ?_
  refine lv_iconst (v := nI 0) hx hb dX4_empty_1 (by decide) ?_
  refine va_put (D := (dC, dI)) (ci := 4) (v := .int (nI 0)) (ty := .int) (C := RX4) (T := TX4) (N := 3) hx hb hts hin4 tyX4 tyX4_ok nmX4 hown hK hP hD hS 0 rfl rfl 2 (by decide) lk23 (fun _ h9 => h9) rfl (by decide +kernel) rfl rfl (Nat.le_of_ble_eq_true rfl) dX4_empty_2 (fun H locs hP hD hS => ?_)
  have hP : va_P (dC, dI) vwCl (rW a cI 4 24 ((Rce R, nI 0))) H := hP
  have hD : va_D A (rW a cI 4 24 ((Rce R, nI 0))) := hD
  have hP9 : va_P (dC, dI) vwCl (rW a cI 4 24 ((Rce R, nI 0))) H := hP
  exact W.vret hx hb hr (fun t ht hW => ⟨⟨((Rce R, nI 0)), rfl, hO.symm.trans hF, by rw [ht]; exact hP9, va_K.moved hW.alike hK, hD⟩, hS.F ht⟩) hS.2.2 dX4_empty_5
def F_X4_put_v4 (R : rS) (v : Int32) : (rS) := if 24 ≤ tN (Rus R) then R else ((upd (Rce R) (tN (Rus R)) v, nI (tN (Rus R) + 1)))
set_option maxHeartbeats 4000000 in
set_option maxRecDepth 100000 in
theorem c_X4_put_v4 (l : Launch) (dC : Nat → ClassId) (dI : Nat → Nat → Nat) (a : Nat → Nat) (cI : ClassId) (sz : Nat) (R : rS) (v : Int32) (pu : inB (Rus R) 24) : Met l yX4_put wsX4_put { frames := 0, cells := 0, slots := 0, locals := 0 } (xPc (dC, dI) vwCl (xT cI) (rW a cI 4 24 R) sz [.ref (a 0), .int v]) (va_Qv (fun (u : (rS)) => F_X4_put_v4 R v = u) (mB (dC, dI) vwCl (xT cI) (va_A (rW a cI 4 24 R) sz) (fun u => rW a cI 4 24 u)) (va_A (rW a cI 4 24 R) sz)) 0 0 (va_A (rW a cI 4 24 R) sz) := by
  refine Met.ofW (cc := cX4_put) (maxL := 2) (ret := none) (by decide) rfl ?_
  intro p e s m args below meth c s₁ B hml hv
  obtain ⟨rfl, hsz, hP, hK, hD0, hN⟩ := hv
  have hx := B.exec
  have hb := B.bytes
  have hr := B.returns
  have hts := atoms_spec (ws := wsX4_put) B.pre
  have hown : s.vm.findClass RX4 = some m.cls := findClass_of_methodNamed B.named
  have hlocks := B.notSynchronized
  subst hsz
  have hD := hD0.self (sz := s.heap.size)
  generalize hAe : va_A (rW a cI 4 24 R) s.heap.size = A at hD ⊢
  have hA : ∀ q : Nat, s.heap.size ≤ q → A q := fun q h => by rw [← hAe]; exact Or.inr h
  have hS : va_S A s.heap s.heap [] := va_S.rf
  have hin4 : ∀ w ∈ wsX40, w ∈ wsX4_put := by decide +kernel
  have lk19 := hts (.fieldLink RX4 19 "PostRounders$Rows" "cells" "[I") (by decide +kernel)
  have lk23 := hts (.fieldLink RX4 23 "PostRounders$Rows" "used" "I") (by decide +kernel)
  have hl := lv_entry ([.ref (a 0), .int v]) (n := 2) (Nat.le_of_ble_eq_true rfl)
  rw [lg_entry_eq]
  generalize (lg_sl ([.ref (a 0), .int v]) ++ List.replicate (2 - (lg_sl ([.ref (a 0), .int v])).length) Slot.unset).toArray = ls at hl ⊢
  have hl : lv_has ls 2 [(0, .ref (a 0)), (1, .int v)] := hl
  obtain ⟨OUT, hO⟩ : ∃ z, z = F_X4_put_v4 R v := ⟨_, rfl⟩
  have hF := hO
  unfold F_X4_put_v4 at hF
  have e_pu := tN_eq pu.1
  have b_pu := pu.2
  refine lv_aload_n hx hb dX4_put_0 rfl (lv_at hl 0 rfl) ?_
  refine va_get (D := (dC, dI)) (ci := 4) (v := .int (Rus R)) (C := RX4) (T := TX4) (N := 3) hx hb hts hin4 hown hK hP 0 rfl rfl 2 (by decide) lk23 (fun _ h9 => h9) rfl dX4_put_1 ?_
  refine qv_top (e_pu) ?_
  refine lv_aload_n hx hb dX4_put_4 rfl (lv_at hl 0 rfl) ?_
  refine va_get (D := (dC, dI)) (ci := 4) (v := .ref (a 1)) (C := RX4) (T := TX4) (N := 3) hx hb hts hin4 hown hK hP 0 rfl rfl 1 (by decide) lk19 (fun _ h9 => h9) rfl dX4_put_5 ?_
  refine va_alen (v := nI 24) hx hb hK hP 1 0 rfl rfl rfl dX4_put_8 ?_
  refine qv_icmp_ge (tgt := 32) hx hb dX4_put_9 (by decide) (by omega) (by omega) (fun c_9 => ?_) (fun c_9 => ?_)
  · rw [if_pos c_9] at hF
    have hP9 : va_P (dC, dI) vwCl (rW a cI 4 24 R) s.heap := hP
    exact W.vret hx hb hr (fun t ht hW => ⟨⟨(R), rfl, hO.symm.trans hF, by rw [ht]; exact hP9, va_K.moved hW.alike hK, hD⟩, hS.F ht⟩) hS.2.2 dX4_put_32
  · rw [if_neg c_9] at hF
    refine lv_aload_n hx hb dX4_put_12 rfl (lv_at hl 0 rfl) ?_
    refine va_get (D := (dC, dI)) (ci := 4) (v := .ref (a 1)) (C := RX4) (T := TX4) (N := 3) hx hb hts hin4 hown hK hP 0 rfl rfl 1 (by decide) lk19 (fun _ h9 => h9) rfl dX4_put_13 ?_
    refine lv_aload_n hx hb dX4_put_16 rfl (lv_at hl 0 rfl) ?_
    refine va_get (D := (dC, dI)) (ci := 4) (v := .int (Rus R)) (C := RX4) (T := TX4) (N := 3) hx hb hts hin4 hown hK hP 0 rfl rfl 2 (by decide) lk23 (fun _ h9 => h9) rfl dX4_put_17 ?_
    refine qv_top (e_pu) ?_
    refine lv_iload_n hx hb dX4_put_20 rfl (lv_at hl 1 rfl) ?_
    refine qv_ast (ws' := rW a cI 4 24 ((upd (Rce R) (tN (Rus R)) v, Rus R))) hx hb hK hP hD hS 1 0 rfl rfl (by omega) (by decide) dX4_put_21 rfl (fun H locs hP hD hS => ?_)
    refine lv_aload_n hx hb dX4_put_22 rfl (lv_at hl 0 rfl) ?_
    refine lv_dup hx hb dX4_put_23 rfl ?_
    refine va_get (D := (dC, dI)) (ci := 4) (v := .int (Rus R)) (C := RX4) (T := TX4) (N := 3) hx hb hts hin4 hown hK hP 0 rfl rfl 2 (by decide) lk23 (fun _ h9 => h9) rfl dX4_put_24 ?_
    refine qv_top (e_pu) ?_
    refine lv_iconst (v := nI 1) hx hb dX4_put_27 (by decide) ?_
    refine qv_iadd hx hb (tN (Rus R) + 1) dX4_put_28 (by omega) ?_
    refine va_put (D := (dC, dI)) (ci := 4) (v := .int (nI (tN (Rus R) + 1))) (ty := .int) (C := RX4) (T := TX4) (N := 3) hx hb hts hin4 tyX4 tyX4_ok nmX4 hown hK hP hD hS 0 rfl rfl 2 (by decide) lk23 (fun _ h9 => h9) rfl (by decide +kernel) rfl rfl (Nat.le_of_ble_eq_true rfl) dX4_put_29 (fun H locs hP hD hS => ?_)
    have hP : va_P (dC, dI) vwCl (rW a cI 4 24 ((upd (Rce R) (tN (Rus R)) v, nI (tN (Rus R) + 1)))) H := hP
    have hD : va_D A (rW a cI 4 24 ((upd (Rce R) (tN (Rus R)) v, nI (tN (Rus R) + 1)))) := hD
    have hP9 : va_P (dC, dI) vwCl (rW a cI 4 24 ((upd (Rce R) (tN (Rus R)) v, nI (tN (Rus R) + 1)))) H := hP
    exact W.vret hx hb hr (fun t ht hW => ⟨⟨((upd (Rce R) (tN (Rus R)) v, nI (tN (Rus R) + 1))), rfl, hO.symm.trans hF, by rw [ht]; exact hP9, va_K.moved hW.alike hK, hD⟩, hS.F ht⟩) hS.2.2 dX4_put_32
def F_X4_cell_v4 (R : rS) (row : Nat) (col : Nat) : Int32 := if tN (Rus R) ≤ 4 * row + col then nI 0 else (Rce R) (4 * row + col)
set_option maxHeartbeats 4000000 in
set_option maxRecDepth 100000 in
theorem c_X4_cell_v4 (l : Launch) (dC : Nat → ClassId) (dI : Nat → Nat → Nat) (a : Nat → Nat) (cI : ClassId) (sz : Nat) (R : rS) (row : Nat) (col : Nat) (pu : inB (Rus R) 24) (h1 : row < 1000) (h2 : col < 10) : Met l yX4_cell wsX4_cell { frames := 0, cells := 0, slots := 0, locals := 0 } (xPc (dC, dI) vwCl (xT cI) (rW a cI 4 24 R) sz [.ref (a 0), .int (nI row), .int (nI col)]) (va_Qi (fun (r : Int32) (u : Unit) => F_X4_cell_v4 R row col = r) (mB (dC, dI) vwCl (xT cI) (va_A (rW a cI 4 24 R) sz) (fun u => rW a cI 4 24 R)) (va_A (rW a cI 4 24 R) sz)) 0 0 (va_A (rW a cI 4 24 R) sz) := by
  refine Met.ofW (cc := cX4_cell) (maxL := 4) (ret := (some .int)) (by decide) rfl ?_
  intro p e s m args below meth c s₁ B hml hv
  obtain ⟨rfl, hsz, hP, hK, hD0, hN⟩ := hv
  have hx := B.exec
  have hb := B.bytes
  have hr := B.returns
  have hts := atoms_spec (ws := wsX4_cell) B.pre
  have hown : s.vm.findClass RX4 = some m.cls := findClass_of_methodNamed B.named
  have hlocks := B.notSynchronized
  subst hsz
  have hD := hD0.self (sz := s.heap.size)
  generalize hAe : va_A (rW a cI 4 24 R) s.heap.size = A at hD ⊢
  have hA : ∀ q : Nat, s.heap.size ≤ q → A q := fun q h => by rw [← hAe]; exact Or.inr h
  have hS : va_S A s.heap s.heap [] := va_S.rf
  have hin4 : ∀ w ∈ wsX40, w ∈ wsX4_cell := by decide +kernel
  have lk13 := hts (.fieldLink RX4 13 "PostRounders$Rows" "width" "I") (by decide +kernel)
  have lk19 := hts (.fieldLink RX4 19 "PostRounders$Rows" "cells" "[I") (by decide +kernel)
  have lk23 := hts (.fieldLink RX4 23 "PostRounders$Rows" "used" "I") (by decide +kernel)
  have hl := lv_entry ([.ref (a 0), .int (nI row), .int (nI col)]) (n := 4) (Nat.le_of_ble_eq_true rfl)
  rw [lg_entry_eq]
  generalize (lg_sl ([.ref (a 0), .int (nI row), .int (nI col)]) ++ List.replicate (4 - (lg_sl ([.ref (a 0), .int (nI row), .int (nI col)])).length) Slot.unset).toArray = ls at hl ⊢
  have hl : lv_has ls 4 [(0, .ref (a 0)), (1, .int (nI row)), (2, .int (nI col))] := hl
  obtain ⟨OUT, hO⟩ : ∃ z, z = F_X4_cell_v4 R row col := ⟨_, rfl⟩
  have hF := hO
  unfold F_X4_cell_v4 at hF
  have e_pu := tN_eq pu.1
  have b_pu := pu.2
  refine lv_iload_n hx hb dX4_cell_0 rfl (lv_at hl 1 rfl) ?_
  refine lv_aload_n hx hb dX4_cell_1 rfl (lv_at hl 0 rfl) ?_
  refine va_get (D := (dC, dI)) (ci := 4) (v := .int (nI 4)) (C := RX4) (T := TX4) (N := 3) hx hb hts hin4 hown hK hP 0 rfl rfl 0 (by decide) lk13 (fun _ h9 => h9) rfl dX4_cell_2 ?_
  refine qv_imul hx hb (4 * row) dX4_cell_5 (by omega) ?_
  refine lv_iload_n hx hb dX4_cell_6 rfl (lv_at hl 2 rfl) ?_
  refine qv_iadd hx hb (4 * row + col) dX4_cell_7 (by omega) ?_
  refine lv_istore_n (lv' := [(3, .int (nI (4 * row + col))), (0, .ref (a 0)), (1, .int (nI row)), (2, .int (nI col))]) hx hb dX4_cell_8 rfl hl (by decide) rfl (fun ls hl => ?_)
  refine lv_iload_n hx hb dX4_cell_9 rfl (lv_at hl 0 rfl) ?_
  refine lv_if_lt (tgt := 30) hx hb dX4_cell_10 (by decide) (fun c_10 => absurd c_10 (nI_pos (by omega))) (fun _ => ?_)
  refine lv_iload_n hx hb dX4_cell_13 rfl (lv_at hl 0 rfl) ?_
  refine lv_aload_n hx hb dX4_cell_14 rfl (lv_at hl 1 rfl) ?_
  refine va_get (D := (dC, dI)) (ci := 4) (v := .int (Rus R)) (C := RX4) (T := TX4) (N := 3) hx hb hts hin4 hown hK hP 0 rfl rfl 2 (by decide) lk23 (fun _ h9 => h9) rfl dX4_cell_15 ?_
  refine qv_top (e_pu) ?_
  refine qv_icmp_ge (tgt := 30) hx hb dX4_cell_18 (by decide) (by omega) (by omega) (fun c_18 => ?_) (fun c_18 => ?_)
  · rw [if_pos c_18] at hF
    refine lv_iconst (v := nI 0) hx hb dX4_cell_30 (by decide) ?_
    have hP9 : va_P (dC, dI) vwCl (rW a cI 4 24 R) s.heap := hP
    exact W.iret (v := nI 0) hx hb hr (fun t ht hW => ⟨⟨_, (()), rfl, hO.symm.trans hF, by rw [ht]; exact hP9, va_K.moved hW.alike hK, hD⟩, hS.F ht⟩) hS.2.2 dX4_cell_31
  · rw [if_neg c_18] at hF
    refine lv_aload_n hx hb dX4_cell_21 rfl (lv_at hl 1 rfl) ?_
    refine va_get (D := (dC, dI)) (ci := 4) (v := .ref (a 1)) (C := RX4) (T := TX4) (N := 3) hx hb hts hin4 hown hK hP 0 rfl rfl 1 (by decide) lk19 (fun _ h9 => h9) rfl dX4_cell_22 ?_
    refine lv_iload_n hx hb dX4_cell_25 rfl (lv_at hl 0 rfl) ?_
    refine qv_ald (v := (Rce R) (4 * row + col)) hx hb hK hP 1 0 rfl rfl (by omega) (by decide) (rfl) dX4_cell_26 ?_
    refine lv_goto (tgt := 31) hx hb dX4_cell_27 (by decide) ?_
    have hP9 : va_P (dC, dI) vwCl (rW a cI 4 24 R) s.heap := hP
    exact W.iret (v := (Rce R) (4 * row + col)) hx hb hr (fun t ht hW => ⟨⟨_, (()), rfl, hO.symm.trans hF, by rw [ht]; exact hP9, va_K.moved hW.alike hK, hD⟩, hS.F ht⟩) hS.2.2 dX4_cell_31
def F_X4_dropFirst_v4 (R : rS) : (rS) := if tN (Rus R) < 4 then R else ((va_cpy (Rce R) (Rce R) 4 0 ((tN (Rus R) - 4)), nI ((tN (Rus R) - 4))))
set_option maxHeartbeats 4000000 in
set_option maxRecDepth 100000 in
theorem c_X4_dropFirst_v4 (l : Launch) (dC : Nat → ClassId) (dI : Nat → Nat → Nat) (a : Nat → Nat) (cI : ClassId) (sz : Nat) (R : rS) (pu : inB (Rus R) 24) : Met l yX4_dropFirst wsX4_dropFirst { frames := 1, cells := 0, slots := 0, locals := 60 } (xPc (dC, dI) vwCl (xT cI) (rW a cI 4 24 R) sz [.ref (a 0)]) (va_Qv (fun (u : (rS)) => F_X4_dropFirst_v4 R = u) (mB (dC, dI) vwCl (xT cI) (va_A (rW a cI 4 24 R) sz) (fun u => rW a cI 4 24 u)) (va_A (rW a cI 4 24 R) sz)) 0 0 (va_A (rW a cI 4 24 R) sz) := by
  refine Met.ofW (cc := cX4_dropFirst) (maxL := 1) (ret := none) (by decide) rfl ?_
  intro p e s m args below meth c s₁ B hml hv
  obtain ⟨rfl, hsz, hP, hK, hD0, hN⟩ := hv
  have hx := B.exec
  have hb := B.bytes
  have hr := B.returns
  have hts := atoms_spec (ws := wsX4_dropFirst) B.pre
  have hown : s.vm.findClass RX4 = some m.cls := findClass_of_methodNamed B.named
  have hlocks := B.notSynchronized
  subst hsz
  have hD := hD0.self (sz := s.heap.size)
  generalize hAe : va_A (rW a cI 4 24 R) s.heap.size = A at hD ⊢
  have hA : ∀ q : Nat, s.heap.size ≤ q → A q := fun q h => by rw [← hAe]; exact Or.inr h
  have hS : va_S A s.heap s.heap [] := va_S.rf
  have hin4 : ∀ w ∈ wsX40, w ∈ wsX4_dropFirst := by decide +kernel
  have lk13 := hts (.fieldLink RX4 13 "PostRounders$Rows" "width" "I") (by decide +kernel)
  have lk19 := hts (.fieldLink RX4 19 "PostRounders$Rows" "cells" "[I") (by decide +kernel)
  have lk23 := hts (.fieldLink RX4 23 "PostRounders$Rows" "used" "I") (by decide +kernel)
  have hl := lv_entry ([.ref (a 0)]) (n := 1) (Nat.le_of_ble_eq_true rfl)
  rw [lg_entry_eq]
  generalize (lg_sl ([.ref (a 0)]) ++ List.replicate (1 - (lg_sl ([.ref (a 0)])).length) Slot.unset).toArray = ls at hl ⊢
  have hl : lv_has ls 1 [(0, .ref (a 0))] := hl
  obtain ⟨OUT, hO⟩ : ∃ z, z = F_X4_dropFirst_v4 R := ⟨_, rfl⟩
  have hF := hO
  unfold F_X4_dropFirst_v4 at hF
  have e_pu := tN_eq pu.1
  have b_pu := pu.2
  refine lv_aload_n hx hb dX4_dropFirst_0 rfl (lv_at hl 0 rfl) ?_
  refine va_get (D := (dC, dI)) (ci := 4) (v := .int (Rus R)) (C := RX4) (T := TX4) (N := 3) hx hb hts hin4 hown hK hP 0 rfl rfl 2 (by decide) lk23 (fun _ h9 => h9) rfl dX4_dropFirst_1 ?_
  refine qv_top (e_pu) ?_
  refine lv_aload_n hx hb dX4_dropFirst_4 rfl (lv_at hl 0 rfl) ?_
  refine va_get (D := (dC, dI)) (ci := 4) (v := .int (nI 4)) (C := RX4) (T := TX4) (N := 3) hx hb hts hin4 hown hK hP 0 rfl rfl 0 (by decide) lk13 (fun _ h9 => h9) rfl dX4_dropFirst_5 ?_
  refine qv_icmp_lt (tgt := 44) hx hb dX4_dropFirst_8 (by decide) (by omega) (by omega) (fun c_8 => ?_) (fun c_8 => ?_)
  · rw [if_pos c_8] at hF
    have hP9 : va_P (dC, dI) vwCl (rW a cI 4 24 R) s.heap := hP
    exact W.vret hx hb hr (fun t ht hW => ⟨⟨(R), rfl, hO.symm.trans hF, by rw [ht]; exact hP9, va_K.moved hW.alike hK, hD⟩, hS.F ht⟩) hS.2.2 dX4_dropFirst_44
  · rw [if_neg c_8] at hF
    refine lv_aload_n hx hb dX4_dropFirst_11 rfl (lv_at hl 0 rfl) ?_
    refine lv_dup hx hb dX4_dropFirst_12 rfl ?_
    refine va_get (D := (dC, dI)) (ci := 4) (v := .int (Rus R)) (C := RX4) (T := TX4) (N := 3) hx hb hts hin4 hown hK hP 0 rfl rfl 2 (by decide) lk23 (fun _ h9 => h9) rfl dX4_dropFirst_13 ?_
    refine qv_top (e_pu) ?_
    refine lv_aload_n hx hb dX4_dropFirst_16 rfl (lv_at hl 0 rfl) ?_
    refine va_get (D := (dC, dI)) (ci := 4) (v := .int (nI 4)) (C := RX4) (T := TX4) (N := 3) hx hb hts hin4 hown hK hP 0 rfl rfl 0 (by decide) lk13 (fun _ h9 => h9) rfl dX4_dropFirst_17 ?_
    refine qv_isub hx hb (tN (Rus R) - 4) dX4_dropFirst_20 (by omega) ?_
    refine va_put (D := (dC, dI)) (ci := 4) (v := .int (nI ((tN (Rus R) - 4)))) (ty := .int) (C := RX4) (T := TX4) (N := 3) hx hb hts hin4 tyX4 tyX4_ok nmX4 hown hK hP hD hS 0 rfl rfl 2 (by decide) lk23 (fun _ h9 => h9) rfl (by decide +kernel) rfl rfl (Nat.le_of_ble_eq_true rfl) dX4_dropFirst_21 (fun H locs hP hD hS => ?_)
    have hP : va_P (dC, dI) vwCl (rW a cI 4 24 ((Rce R, nI ((tN (Rus R) - 4))))) H := hP
    have hD : va_D A (rW a cI 4 24 ((Rce R, nI ((tN (Rus R) - 4))))) := hD
    refine lv_aload_n hx hb dX4_dropFirst_24 rfl (lv_at hl 0 rfl) ?_
    refine va_get (D := (dC, dI)) (ci := 4) (v := .ref (a 1)) (C := RX4) (T := TX4) (N := 3) hx hb hts hin4 hown hK hP 0 rfl rfl 1 (by decide) lk19 (fun _ h9 => h9) rfl dX4_dropFirst_25 ?_
    refine lv_aload_n hx hb dX4_dropFirst_28 rfl (lv_at hl 0 rfl) ?_
    refine va_get (D := (dC, dI)) (ci := 4) (v := .int (nI 4)) (C := RX4) (T := TX4) (N := 3) hx hb hts hin4 hown hK hP 0 rfl rfl 0 (by decide) lk13 (fun _ h9 => h9) rfl dX4_dropFirst_29 ?_
    refine lv_aload_n hx hb dX4_dropFirst_32 rfl (lv_at hl 0 rfl) ?_
    refine va_get (D := (dC, dI)) (ci := 4) (v := .ref (a 1)) (C := RX4) (T := TX4) (N := 3) hx hb hts hin4 hown hK hP 0 rfl rfl 1 (by decide) lk19 (fun _ h9 => h9) rfl dX4_dropFirst_33 ?_
    refine lv_iconst (v := nI 0) hx hb dX4_dropFirst_36 (by decide) ?_
    refine lv_aload_n hx hb dX4_dropFirst_37 rfl (lv_at hl 0 rfl) ?_
    refine va_get (D := (dC, dI)) (ci := 4) (v := .int (nI ((tN (Rus R) - 4)))) (C := RX4) (T := TX4) (N := 3) hx hb hts hin4 hown hK hP 0 rfl rfl 2 (by decide) lk23 (fun _ h9 => h9) rfl dX4_dropFirst_38 ?_
    refine qv_cpy (ws' := rW a cI 4 24 ((va_cpy (Rce R) (Rce R) 4 0 ((tN (Rus R) - 4)), nI ((tN (Rus R) - 4))))) hx hb (hml.trans hl.1.symm) hown (hts (.methodLink RX4 26 arraycopyName) (by decide +kernel)) (hts (.native arraycopyName) (by decide +kernel)) (hts (.static arraycopyName) (by decide +kernel)) (hts (.initialized "java/lang/System") (by decide +kernel)) hK hP hD hS 1 1 0 rfl rfl rfl (by omega) (by omega) (by decide) (by decide) (Nat.le_of_ble_eq_true rfl) (Nat.le_of_ble_eq_true rfl) dX4_dropFirst_41 rfl (fun H locs hP hD hS => ?_)
    have hP9 : va_P (dC, dI) vwCl (rW a cI 4 24 ((va_cpy (Rce R) (Rce R) 4 0 ((tN (Rus R) - 4)), nI ((tN (Rus R) - 4))))) H := hP
    exact W.vret hx hb hr (fun t ht hW => ⟨⟨((va_cpy (Rce R) (Rce R) 4 0 ((tN (Rus R) - 4)), nI ((tN (Rus R) - 4)))), rfl, hO.symm.trans hF, by rw [ht]; exact hP9, va_K.moved hW.alike hK, hD⟩, hS.F ht⟩) hS.2.2 dX4_dropFirst_44
def F_X4_dropLast_v4 (R : rS) : (rS) := if (nI 0) < ((nI (tN (Rus R))) - (nI 4)) then ((Rce R, (nI (tN (Rus R))) - (nI 4))) else ((Rce R, nI 0))
set_option maxHeartbeats 4000000 in
set_option maxRecDepth 100000 in
theorem c_X4_dropLast_v4 (l : Launch) (dC : Nat → ClassId) (dI : Nat → Nat → Nat) (a : Nat → Nat) (cI : ClassId) (sz : Nat) (R : rS) (pu : inB (Rus R) 24) : Met l yX4_dropLast wsX4_dropLast { frames := 1, cells := 0, slots := 0, locals := 14 } (xPc (dC, dI) vwCl (xT cI) (rW a cI 4 24 R) sz [.ref (a 0)]) (va_Qv (fun (u : (rS)) => F_X4_dropLast_v4 R = u) (mB (dC, dI) vwCl (xT cI) (va_A (rW a cI 4 24 R) sz) (fun u => rW a cI 4 24 u)) (va_A (rW a cI 4 24 R) sz)) 0 0 (va_A (rW a cI 4 24 R) sz) := by
  refine Met.ofW (cc := cX4_dropLast) (maxL := 1) (ret := none) (by decide) rfl ?_
  intro p e s m args below meth c s₁ B hml hv
  obtain ⟨rfl, hsz, hP, hK, hD0, hN⟩ := hv
  have hx := B.exec
  have hb := B.bytes
  have hr := B.returns
  have hts := atoms_spec (ws := wsX4_dropLast) B.pre
  have hown : s.vm.findClass RX4 = some m.cls := findClass_of_methodNamed B.named
  have hlocks := B.notSynchronized
  subst hsz
  have hD := hD0.self (sz := s.heap.size)
  generalize hAe : va_A (rW a cI 4 24 R) s.heap.size = A at hD ⊢
  have hA : ∀ q : Nat, s.heap.size ≤ q → A q := fun q h => by rw [← hAe]; exact Or.inr h
  have hS : va_S A s.heap s.heap [] := va_S.rf
  have hin4 : ∀ w ∈ wsX40, w ∈ wsX4_dropLast := by decide +kernel
  have lk13 := hts (.fieldLink RX4 13 "PostRounders$Rows" "width" "I") (by decide +kernel)
  have lk23 := hts (.fieldLink RX4 23 "PostRounders$Rows" "used" "I") (by decide +kernel)
  have hl := lv_entry ([.ref (a 0)]) (n := 1) (Nat.le_of_ble_eq_true rfl)
  rw [lg_entry_eq]
  generalize (lg_sl ([.ref (a 0)]) ++ List.replicate (1 - (lg_sl ([.ref (a 0)])).length) Slot.unset).toArray = ls at hl ⊢
  have hl : lv_has ls 1 [(0, .ref (a 0))] := hl
  obtain ⟨OUT, hO⟩ : ∃ z, z = F_X4_dropLast_v4 R := ⟨_, rfl⟩
  have hF := hO
  unfold F_X4_dropLast_v4 at hF
  have e_pu := tN_eq pu.1
  have b_pu := pu.2
  refine lv_aload_n hx hb dX4_dropLast_0 rfl (lv_at hl 0 rfl) ?_
  refine lv_iconst (v := nI 0) hx hb dX4_dropLast_1 (by decide) ?_
  refine lv_aload_n hx hb dX4_dropLast_2 rfl (lv_at hl 0 rfl) ?_
  refine va_get (D := (dC, dI)) (ci := 4) (v := .int (Rus R)) (C := RX4) (T := TX4) (N := 3) hx hb hts hin4 hown hK hP 0 rfl rfl 2 (by decide) lk23 (fun _ h9 => h9) rfl dX4_dropLast_3 ?_
  refine qv_top (e_pu) ?_
  refine lv_aload_n hx hb dX4_dropLast_6 rfl (lv_at hl 0 rfl) ?_
  refine va_get (D := (dC, dI)) (ci := 4) (v := .int (nI 4)) (C := RX4) (T := TX4) (N := 3) hx hb hts hin4 hown hK hP 0 rfl rfl 0 (by decide) lk13 (fun _ h9 => h9) rfl dX4_dropLast_7 ?_
  refine lv_isub hx hb dX4_dropLast_10 ?_
  refine va_mmax hx hb (hml.trans hl.1.symm) hown (hts (.methodLink RX4 7 Lib.Math.max.name) (by decide +kernel)) (hts (.static Lib.Math.max.name) (by decide +kernel)) (hts (.initialized "java/lang/Math") (by decide +kernel)) (hts (.code Lib.Math.max.name Lib.Math.max.code 2 (some .int)) (by decide +kernel)) (Nat.le_of_ble_eq_true rfl) (Nat.le_of_ble_eq_true rfl) (Nat.zero_le _) (Nat.zero_le _) dX4_dropLast_11 ?_
  by_cases c_11 : (nI 0) < ((nI (tN (Rus R))) - (nI 4))
  · rw [if_pos c_11] at hF ⊢
    refine va_put (D := (dC, dI)) (ci := 4) (v := .int ((nI (tN (Rus R))) - (nI 4))) (ty := .int) (C := RX4) (T := TX4) (N := 3) hx hb hts hin4 tyX4 tyX4_ok nmX4 hown hK hP hD hS 0 rfl rfl 2 (by decide) lk23 (fun _ h9 => h9) rfl (by decide +kernel) rfl rfl (Nat.le_of_ble_eq_true rfl) dX4_dropLast_14 (fun H locs hP hD hS => ?_)
    have hP : va_P (dC, dI) vwCl (rW a cI 4 24 ((Rce R, (nI (tN (Rus R))) - (nI 4)))) H := hP
    have hD : va_D A (rW a cI 4 24 ((Rce R, (nI (tN (Rus R))) - (nI 4)))) := hD
    have hP9 : va_P (dC, dI) vwCl (rW a cI 4 24 ((Rce R, (nI (tN (Rus R))) - (nI 4)))) H := hP
    exact W.vret hx hb hr (fun t ht hW => ⟨⟨((Rce R, (nI (tN (Rus R))) - (nI 4))), rfl, hO.symm.trans hF, by rw [ht]; exact hP9, va_K.moved hW.alike hK, hD⟩, hS.F ht⟩) hS.2.2 dX4_dropLast_17
  · rw [if_neg c_11] at hF ⊢
    refine va_put (D := (dC, dI)) (ci := 4) (v := .int (nI 0)) (ty := .int) (C := RX4) (T := TX4) (N := 3) hx hb hts hin4 tyX4 tyX4_ok nmX4 hown hK hP hD hS 0 rfl rfl 2 (by decide) lk23 (fun _ h9 => h9) rfl (by decide +kernel) rfl rfl (Nat.le_of_ble_eq_true rfl) dX4_dropLast_14 (fun H locs hP hD hS => ?_)
    have hP : va_P (dC, dI) vwCl (rW a cI 4 24 ((Rce R, nI 0))) H := hP
    have hD : va_D A (rW a cI 4 24 ((Rce R, nI 0))) := hD
    have hP9 : va_P (dC, dI) vwCl (rW a cI 4 24 ((Rce R, nI 0))) H := hP
    exact W.vret hx hb hr (fun t ht hW => ⟨⟨((Rce R, nI 0)), rfl, hO.symm.trans hF, by rw [ht]; exact hP9, va_K.moved hW.alike hK, hD⟩, hS.F ht⟩) hS.2.2 dX4_dropLast_17
def F_X4_copy_v4 (R : rS) (O : rS) : (rS) := if (nI 24) < (nI (tN (Rus O))) then ((va_cpy (Rce O) (Rce R) 0 0 24, nI 24)) else ((va_cpy (Rce O) (Rce R) 0 0 (tN (Rus O)), nI (tN (Rus O))))
set_option maxHeartbeats 4000000 in
set_option maxRecDepth 100000 in
theorem c_X4_copy_v4 (l : Launch) (dC : Nat → ClassId) (dI : Nat → Nat → Nat) (a : Nat → Nat) (b : Nat → Nat) (cI : ClassId) (sz : Nat) (R : rS) (O : rS) (pu : inB (Rus O) 24) : Met l yX4_copy wsX4_copy { frames := 1, cells := 0, slots := 0, locals := 60 } (xPc (dC, dI) vwCl (xT cI) ((rW a cI 4 24 R) ++ (rW b cI 4 24 O)) sz [.ref (a 0), .ref (b 0)]) (va_Qv (fun (u : (rS)) => F_X4_copy_v4 R O = u) (mB (dC, dI) vwCl (xT cI) (va_A ((rW a cI 4 24 R) ++ (rW b cI 4 24 O)) sz) (fun u => (rW a cI 4 24 u) ++ (rW b cI 4 24 O))) (va_A ((rW a cI 4 24 R) ++ (rW b cI 4 24 O)) sz)) 0 0 (va_A ((rW a cI 4 24 R) ++ (rW b cI 4 24 O)) sz) := by
  refine Met.ofW (cc := cX4_copy) (maxL := 2) (ret := none) (by decide) rfl ?_
  intro p e s m args below meth c s₁ B hml hv
  obtain ⟨rfl, hsz, hP, hK, hD0, hN⟩ := hv
  have hx := B.exec
  have hb := B.bytes
  have hr := B.returns
  have hts := atoms_spec (ws := wsX4_copy) B.pre
  have hown : s.vm.findClass RX4 = some m.cls := findClass_of_methodNamed B.named
  have hlocks := B.notSynchronized
  subst hsz
  have hD := hD0.self (sz := s.heap.size)
  generalize hAe : va_A ((rW a cI 4 24 R) ++ (rW b cI 4 24 O)) s.heap.size = A at hD ⊢
  have hA : ∀ q : Nat, s.heap.size ≤ q → A q := fun q h => by rw [← hAe]; exact Or.inr h
  have hS : va_S A s.heap s.heap [] := va_S.rf
  have hin4 : ∀ w ∈ wsX40, w ∈ wsX4_copy := by decide +kernel
  have lk19 := hts (.fieldLink RX4 19 "PostRounders$Rows" "cells" "[I") (by decide +kernel)
  have lk23 := hts (.fieldLink RX4 23 "PostRounders$Rows" "used" "I") (by decide +kernel)
  have hl := lv_entry ([.ref (a 0), .ref (b 0)]) (n := 2) (Nat.le_of_ble_eq_true rfl)
  rw [lg_entry_eq]
  generalize (lg_sl ([.ref (a 0), .ref (b 0)]) ++ List.replicate (2 - (lg_sl ([.ref (a 0), .ref (b 0)])).length) Slot.unset).toArray = ls at hl ⊢
  have hl : lv_has ls 2 [(0, .ref (a 0)), (1, .ref (b 0))] := hl
  obtain ⟨OUT, hO⟩ : ∃ z, z = F_X4_copy_v4 R O := ⟨_, rfl⟩
  have hF := hO
  unfold F_X4_copy_v4 at hF
  have e_pu := tN_eq pu.1
  have b_pu := pu.2
  refine lv_aload_n hx hb dX4_copy_0 rfl (lv_at hl 0 rfl) ?_
  refine lv_aload_n hx hb dX4_copy_1 rfl (lv_at hl 1 rfl) ?_
  refine va_get (D := (dC, dI)) (ci := 4) (v := .int (Rus O)) (C := RX4) (T := TX4) (N := 3) hx hb hts hin4 hown hK hP 2 rfl rfl 2 (by decide) lk23 (fun _ h9 => h9) rfl dX4_copy_2 ?_
  refine qv_top (e_pu) ?_
  refine lv_aload_n hx hb dX4_copy_5 rfl (lv_at hl 0 rfl) ?_
  refine va_get (D := (dC, dI)) (ci := 4) (v := .ref (a 1)) (C := RX4) (T := TX4) (N := 3) hx hb hts hin4 hown hK hP 0 rfl rfl 1 (by decide) lk19 (fun _ h9 => h9) rfl dX4_copy_6 ?_
  refine va_alen (v := nI 24) hx hb hK hP 1 0 rfl rfl rfl dX4_copy_9 ?_
  refine va_mmin hx hb (hml.trans hl.1.symm) hown (hts (.methodLink RX4 32 Lib.Math.min.name) (by decide +kernel)) (hts (.static Lib.Math.min.name) (by decide +kernel)) (hts (.initialized "java/lang/Math") (by decide +kernel)) (hts (.code Lib.Math.min.name Lib.Math.min.code 2 (some .int)) (by decide +kernel)) (Nat.le_of_ble_eq_true rfl) (Nat.le_of_ble_eq_true rfl) (Nat.zero_le _) (Nat.zero_le _) dX4_copy_10 ?_
  by_cases c_10 : (nI 24) < (nI (tN (Rus O)))
  · rw [if_pos c_10] at hF ⊢
    refine va_put (D := (dC, dI)) (ci := 4) (v := .int (nI 24)) (ty := .int) (C := RX4) (T := TX4) (N := 3) hx hb hts hin4 tyX4 tyX4_ok nmX4 hown hK hP hD hS 0 rfl rfl 2 (by decide) lk23 (fun _ h9 => h9) rfl (by decide +kernel) rfl rfl (Nat.le_of_ble_eq_true rfl) dX4_copy_13 (fun H locs hP hD hS => ?_)
    have hP : va_P (dC, dI) vwCl ((rW a cI 4 24 ((Rce R, nI 24))) ++ (rW b cI 4 24 O)) H := hP
    have hD : va_D A ((rW a cI 4 24 ((Rce R, nI 24))) ++ (rW b cI 4 24 O)) := hD
    refine lv_aload_n hx hb dX4_copy_16 rfl (lv_at hl 1 rfl) ?_
    refine va_get (D := (dC, dI)) (ci := 4) (v := .ref (b 1)) (C := RX4) (T := TX4) (N := 3) hx hb hts hin4 hown hK hP 2 rfl rfl 1 (by decide) lk19 (fun _ h9 => h9) rfl dX4_copy_17 ?_
    refine lv_iconst (v := nI 0) hx hb dX4_copy_20 (by decide) ?_
    refine lv_aload_n hx hb dX4_copy_21 rfl (lv_at hl 0 rfl) ?_
    refine va_get (D := (dC, dI)) (ci := 4) (v := .ref (a 1)) (C := RX4) (T := TX4) (N := 3) hx hb hts hin4 hown hK hP 0 rfl rfl 1 (by decide) lk19 (fun _ h9 => h9) rfl dX4_copy_22 ?_
    refine lv_iconst (v := nI 0) hx hb dX4_copy_25 (by decide) ?_
    refine lv_aload_n hx hb dX4_copy_26 rfl (lv_at hl 0 rfl) ?_
    refine va_get (D := (dC, dI)) (ci := 4) (v := .int (nI 24)) (C := RX4) (T := TX4) (N := 3) hx hb hts hin4 hown hK hP 0 rfl rfl 2 (by decide) lk23 (fun _ h9 => h9) rfl dX4_copy_27 ?_
    refine qv_cpy (ws' := (rW a cI 4 24 ((va_cpy (Rce O) (Rce R) 0 0 24, nI 24))) ++ (rW b cI 4 24 O)) hx hb (hml.trans hl.1.symm) hown (hts (.methodLink RX4 26 arraycopyName) (by decide +kernel)) (hts (.native arraycopyName) (by decide +kernel)) (hts (.static arraycopyName) (by decide +kernel)) (hts (.initialized "java/lang/System") (by decide +kernel)) hK hP hD hS 3 1 0 rfl rfl rfl (by omega) (by omega) (by decide) (by decide) (Nat.le_of_ble_eq_true rfl) (Nat.le_of_ble_eq_true rfl) dX4_copy_30 rfl (fun H locs hP hD hS => ?_)
    have hP9 : va_P (dC, dI) vwCl ((rW a cI 4 24 ((va_cpy (Rce O) (Rce R) 0 0 24, nI 24))) ++ (rW b cI 4 24 O)) H := hP
    exact W.vret hx hb hr (fun t ht hW => ⟨⟨((va_cpy (Rce O) (Rce R) 0 0 24, nI 24)), rfl, hO.symm.trans hF, by rw [ht]; exact hP9, va_K.moved hW.alike hK, hD⟩, hS.F ht⟩) hS.2.2 dX4_copy_33
  · rw [if_neg c_10] at hF ⊢
    refine va_put (D := (dC, dI)) (ci := 4) (v := .int (nI (tN (Rus O)))) (ty := .int) (C := RX4) (T := TX4) (N := 3) hx hb hts hin4 tyX4 tyX4_ok nmX4 hown hK hP hD hS 0 rfl rfl 2 (by decide) lk23 (fun _ h9 => h9) rfl (by decide +kernel) rfl rfl (Nat.le_of_ble_eq_true rfl) dX4_copy_13 (fun H locs hP hD hS => ?_)
    have hP : va_P (dC, dI) vwCl ((rW a cI 4 24 ((Rce R, nI (tN (Rus O))))) ++ (rW b cI 4 24 O)) H := hP
    have hD : va_D A ((rW a cI 4 24 ((Rce R, nI (tN (Rus O))))) ++ (rW b cI 4 24 O)) := hD
    refine lv_aload_n hx hb dX4_copy_16 rfl (lv_at hl 1 rfl) ?_
    refine va_get (D := (dC, dI)) (ci := 4) (v := .ref (b 1)) (C := RX4) (T := TX4) (N := 3) hx hb hts hin4 hown hK hP 2 rfl rfl 1 (by decide) lk19 (fun _ h9 => h9) rfl dX4_copy_17 ?_
    refine lv_iconst (v := nI 0) hx hb dX4_copy_20 (by decide) ?_
    refine lv_aload_n hx hb dX4_copy_21 rfl (lv_at hl 0 rfl) ?_
    refine va_get (D := (dC, dI)) (ci := 4) (v := .ref (a 1)) (C := RX4) (T := TX4) (N := 3) hx hb hts hin4 hown hK hP 0 rfl rfl 1 (by decide) lk19 (fun _ h9 => h9) rfl dX4_copy_22 ?_
    refine lv_iconst (v := nI 0) hx hb dX4_copy_25 (by decide) ?_
    refine lv_aload_n hx hb dX4_copy_26 rfl (lv_at hl 0 rfl) ?_
    refine va_get (D := (dC, dI)) (ci := 4) (v := .int (nI (tN (Rus O)))) (C := RX4) (T := TX4) (N := 3) hx hb hts hin4 hown hK hP 0 rfl rfl 2 (by decide) lk23 (fun _ h9 => h9) rfl dX4_copy_27 ?_
    refine qv_cpy (ws' := (rW a cI 4 24 ((va_cpy (Rce O) (Rce R) 0 0 (tN (Rus O)), nI (tN (Rus O))))) ++ (rW b cI 4 24 O)) hx hb (hml.trans hl.1.symm) hown (hts (.methodLink RX4 26 arraycopyName) (by decide +kernel)) (hts (.native arraycopyName) (by decide +kernel)) (hts (.static arraycopyName) (by decide +kernel)) (hts (.initialized "java/lang/System") (by decide +kernel)) hK hP hD hS 3 1 0 rfl rfl rfl (by omega) (by omega) (by decide) (by decide) (Nat.le_of_ble_eq_true rfl) (Nat.le_of_ble_eq_true rfl) dX4_copy_30 rfl (fun H locs hP hD hS => ?_)
    have hP9 : va_P (dC, dI) vwCl ((rW a cI 4 24 ((va_cpy (Rce O) (Rce R) 0 0 (tN (Rus O)), nI (tN (Rus O))))) ++ (rW b cI 4 24 O)) H := hP
    exact W.vret hx hb hr (fun t ht hW => ⟨⟨((va_cpy (Rce O) (Rce R) 0 0 (tN (Rus O)), nI (tN (Rus O)))), rfl, hO.symm.trans hF, by rw [ht]; exact hP9, va_K.moved hW.alike hK, hD⟩, hS.F ht⟩) hS.2.2 dX4_copy_33
def F_X4_digestFrom_v4_L2 : Nat → (rS) → (Nat) → (Int64) → (Nat) × (Int64)
  | 0, _, k, h1 => (k, h1)
  | n_2 + 1, R, k, h1 => if tN (Rus R) ≤ k then (k, h1) else F_X4_digestFrom_v4_L2 n_2 R (k + 1) ((31 * h1) + (((Rce R) k).toInt64))
def F_X4_digestFrom_v4 (R : rS) (h : Int64) : Int64 := let2 (F_X4_digestFrom_v4_L2 25 R 0 h) (fun k h1 => h1)
set_option maxHeartbeats 4000000 in
set_option maxRecDepth 100000 in
theorem c_X4_digestFrom_v4 (l : Launch) (dC : Nat → ClassId) (dI : Nat → Nat → Nat) (a : Nat → Nat) (cI : ClassId) (sz : Nat) (R : rS) (h : Int64) (pu : inB (Rus R) 24) : Met l yX4_digestFrom wsX4_digestFrom { frames := 0, cells := 0, slots := 0, locals := 0 } (xPc (dC, dI) vwCl (xT cI) (rW a cI 4 24 R) sz [.ref (a 0), .long h]) (va_Ql (fun (r : Int64) (u : Unit) => F_X4_digestFrom_v4 R h = r) (mB (dC, dI) vwCl (xT cI) (va_A (rW a cI 4 24 R) sz) (fun u => rW a cI 4 24 R)) (va_A (rW a cI 4 24 R) sz)) 0 0 (va_A (rW a cI 4 24 R) sz) := by
  refine Met.ofW (cc := cX4_digestFrom) (maxL := 4) (ret := (some .long)) (by decide) rfl ?_
  intro p e s m args below meth c s₁ B hml hv
  obtain ⟨rfl, hsz, hP, hK, hD0, hN⟩ := hv
  have hx := B.exec
  have hb := B.bytes
  have hr := B.returns
  have hts := atoms_spec (ws := wsX4_digestFrom) B.pre
  have hown : s.vm.findClass RX4 = some m.cls := findClass_of_methodNamed B.named
  have hlocks := B.notSynchronized
  subst hsz
  have hD := hD0.self (sz := s.heap.size)
  generalize hAe : va_A (rW a cI 4 24 R) s.heap.size = A at hD ⊢
  have hA : ∀ q : Nat, s.heap.size ≤ q → A q := fun q h => by rw [← hAe]; exact Or.inr h
  have hS : va_S A s.heap s.heap [] := va_S.rf
  have hin4 : ∀ w ∈ wsX40, w ∈ wsX4_digestFrom := by decide +kernel
  have lk19 := hts (.fieldLink RX4 19 "PostRounders$Rows" "cells" "[I") (by decide +kernel)
  have lk23 := hts (.fieldLink RX4 23 "PostRounders$Rows" "used" "I") (by decide +kernel)
  have hl := lv_entry ([.ref (a 0), .long h]) (n := 4) (Nat.le_of_ble_eq_true rfl)
  rw [lg_entry_eq]
  generalize (lg_sl ([.ref (a 0), .long h]) ++ List.replicate (4 - (lg_sl ([.ref (a 0), .long h])).length) Slot.unset).toArray = ls at hl ⊢
  have hl : lv_has ls 4 [(0, .ref (a 0)), (1, .long h)] := hl
  obtain ⟨OUT, hO⟩ : ∃ z, z = F_X4_digestFrom_v4 R h := ⟨_, rfl⟩
  have hF := hO
  unfold F_X4_digestFrom_v4 at hF
  have e_pu := tN_eq pu.1
  have b_pu := pu.2
  refine lv_iconst (v := nI 0) hx hb dX4_digestFrom_0 (by decide) ?_
  refine lv_istore_n (lv' := [(3, .int (nI 0)), (0, .ref (a 0)), (1, .long h)]) hx hb dX4_digestFrom_1 rfl hl (by decide) rfl (fun ls hl => ?_)
  have L_2 : ∀ (n_2 : Nat) (k : Nat) (h1 : Int64) (H : Heap) (locs : List Loc), k ≤ tN (Rus R) → tN (Rus R) - k < n_2 → va_P (dC, dI) vwCl (rW a cI 4 24 R) H → va_D A (rW a cI 4 24 R) → va_S A s.heap H locs → ∀ (ls : Array Slot), lv_has ls 4 [(3, .int (nI k)), (0, .ref (a 0)), (1, .long h1)] → OUT = let2 (F_X4_digestFrom_v4_L2 n_2 R k h1) (fun k h1 => h1) → W p l e (headSpec wsX4_digestFrom { frames := 0, cells := 0, slots := 0, locals := 0 }).room s m ([.ref (a 0), .long h] : List Value).toArray below meth c H locs 0 0 (MQ below (va_Ql (fun (r : Int64) (u : Unit) => F_X4_digestFrom_v4 R h = r) (mB (dC, dI) vwCl (xT cI) A (fun u => rW a cI 4 24 R)) A) ([.ref (a 0), .long h] : List Value).toArray s 0 0 A) (F0 m 2 ls []) := by
    intro n_2
    induction n_2 with
    | zero => intro k h1 H locs i0 hmu; exact absurd hmu (Nat.not_lt_zero _)
    | succ n_2 ih_2 =>
      intro k h1 H locs i0 hmu_2 hP hD hS ls hl hF
      rw [F_X4_digestFrom_v4_L2] at hF
      refine lv_iload_n hx hb dX4_digestFrom_2 rfl (lv_at hl 0 rfl) ?_
      refine lv_aload_n hx hb dX4_digestFrom_3 rfl (lv_at hl 1 rfl) ?_
      refine va_get (D := (dC, dI)) (ci := 4) (v := .int (Rus R)) (C := RX4) (T := TX4) (N := 3) hx hb hts hin4 hown hK hP 0 rfl rfl 2 (by decide) lk23 (fun _ h9 => h9) rfl dX4_digestFrom_4 ?_
      refine qv_top (e_pu) ?_
      refine qv_icmp_ge (tgt := 30) hx hb dX4_digestFrom_7 (by decide) (by omega) (by omega) (fun c_7 => ?_) (fun c_7 => ?_)
      · rw [if_pos c_7] at hF
        rw [let2_mk (k : Nat) (h1 : Int64)] at hF
        refine lv_lload_n hx hb dX4_digestFrom_30 rfl (lv_at hl 2 rfl) ?_
        have hP9 : va_P (dC, dI) vwCl (rW a cI 4 24 R) H := hP
        exact W.lret (v := h1) hx hb hr (fun t ht hW => ⟨⟨_, (()), rfl, hO.symm.trans hF, by rw [ht]; exact hP9, va_K.moved hW.alike hK, hD⟩, hS.F ht⟩) hS.2.2 dX4_digestFrom_31
      · rw [if_neg c_7] at hF
        refine lv_ldc2 (v := 31) hx hb hown (hts (.constantLong RX4 35 31) (by decide +kernel)) dX4_digestFrom_10 ?_
        refine lv_lload_n hx hb dX4_digestFrom_13 rfl (lv_at hl 2 rfl) ?_
        refine lv_lmul hx hb dX4_digestFrom_14 ?_
        refine lv_aload_n hx hb dX4_digestFrom_15 rfl (lv_at hl 1 rfl) ?_
        refine va_get (D := (dC, dI)) (ci := 4) (v := .ref (a 1)) (C := RX4) (T := TX4) (N := 3) hx hb hts hin4 hown hK hP 0 rfl rfl 1 (by decide) lk19 (fun _ h9 => h9) rfl dX4_digestFrom_16 ?_
        refine lv_iload_n hx hb dX4_digestFrom_19 rfl (lv_at hl 0 rfl) ?_
        refine qv_ald (v := (Rce R) k) hx hb hK hP 1 0 rfl rfl (by omega) (by decide) (rfl) dX4_digestFrom_20 ?_
        refine lv_i2l hx hb dX4_digestFrom_21 rfl ?_
        refine lv_ladd hx hb dX4_digestFrom_22 ?_
        refine lv_lstore_n (lv' := [(1, .long ((31 * h1) + (((Rce R) k).toInt64))), (3, .int (nI k)), (0, .ref (a 0))]) hx hb dX4_digestFrom_23 rfl hl (by decide) rfl (fun ls hl => ?_)
        refine lv_iinc (v := nI (k + 1)) (lv' := [(3, .int (nI (k + 1))), (1, .long ((31 * h1) + (((Rce R) k).toInt64))), (0, .ref (a 0))]) hx hb dX4_digestFrom_24 hl (k := 1) rfl (qn_inc (c := 1) rfl (by omega)) (by decide) rfl (fun ls hl => ?_)
        refine lv_goto (tgt := 2) hx hb dX4_digestFrom_27 (by decide) ?_
        exact ih_2 (k + 1) ((31 * h1) + (((Rce R) k).toInt64)) H locs (by omega) (by omega) hP hD hS ls (lv_sub hl [0, 2, 1] rfl) hF
  exact L_2 25 0 h s.heap [] (by omega) (by omega) hP hD hS ls (lv_sub hl [0, 1, 2] rfl) hF
theorem put_at4 {R R' : rS} {v : Int32} (e : F_X4_put_v4 R v = R') (h : inB (Rus R) 24) : inB (Rus R') 24 := by
  rw [← e]; unfold F_X4_put_v4
  split
  · exact h
  · exact inB_nI (by omega) (by decide)
theorem dropFirst_at4 {R R' : rS} (e : F_X4_dropFirst_v4 R = R') (h : inB (Rus R) 24) : inB (Rus R') 24 := by
  rw [← e]; unfold F_X4_dropFirst_v4
  have := h.2
  split
  · exact h
  · exact inB_nI (by omega) (by decide)
def F_X4_size_v9 (R : rS) : Int32 := nI (((tN (Rus R)) / 9))
set_option maxHeartbeats 4000000 in
set_option maxRecDepth 100000 in
theorem c_X4_size_v9 (l : Launch) (dC : Nat → ClassId) (dI : Nat → Nat → Nat) (a : Nat → Nat) (cI : ClassId) (sz : Nat) (R : rS) (pu : inB (Rus R) 72) : Met l yX4_size wsX4_size { frames := 0, cells := 0, slots := 0, locals := 0 } (xPc (dC, dI) vwCl (xT cI) (rW a cI 9 72 R) sz [.ref (a 0)]) (va_Qi (fun (r : Int32) (u : Unit) => F_X4_size_v9 R = r) (mB (dC, dI) vwCl (xT cI) (va_A (rW a cI 9 72 R) sz) (fun u => rW a cI 9 72 R)) (va_A (rW a cI 9 72 R) sz)) 0 0 (va_A (rW a cI 9 72 R) sz) := by
  refine Met.ofW (cc := cX4_size) (maxL := 1) (ret := (some .int)) (by decide) rfl ?_
  intro p e s m args below meth c s₁ B hml hv
  obtain ⟨rfl, hsz, hP, hK, hD0, hN⟩ := hv
  have hx := B.exec
  have hb := B.bytes
  have hr := B.returns
  have hts := atoms_spec (ws := wsX4_size) B.pre
  have hown : s.vm.findClass RX4 = some m.cls := findClass_of_methodNamed B.named
  have hlocks := B.notSynchronized
  subst hsz
  have hD := hD0.self (sz := s.heap.size)
  generalize hAe : va_A (rW a cI 9 72 R) s.heap.size = A at hD ⊢
  have hA : ∀ q : Nat, s.heap.size ≤ q → A q := fun q h => by rw [← hAe]; exact Or.inr h
  have hS : va_S A s.heap s.heap [] := va_S.rf
  have hin4 : ∀ w ∈ wsX40, w ∈ wsX4_size := by decide +kernel
  have lk13 := hts (.fieldLink RX4 13 "PostRounders$Rows" "width" "I") (by decide +kernel)
  have lk23 := hts (.fieldLink RX4 23 "PostRounders$Rows" "used" "I") (by decide +kernel)
  have hl := lv_entry ([.ref (a 0)]) (n := 1) (Nat.le_of_ble_eq_true rfl)
  rw [lg_entry_eq]
  generalize (lg_sl ([.ref (a 0)]) ++ List.replicate (1 - (lg_sl ([.ref (a 0)])).length) Slot.unset).toArray = ls at hl ⊢
  have hl : lv_has ls 1 [(0, .ref (a 0))] := hl
  obtain ⟨OUT, hO⟩ : ∃ z, z = F_X4_size_v9 R := ⟨_, rfl⟩
  have hF := hO
  unfold F_X4_size_v9 at hF
  have e_pu := tN_eq pu.1
  have b_pu := pu.2
  refine lv_aload_n hx hb dX4_size_0 rfl (lv_at hl 0 rfl) ?_
  refine va_get (D := (dC, dI)) (ci := 4) (v := .int (nI 9)) (C := RX4) (T := TX4) (N := 3) hx hb hts hin4 hown hK hP 0 rfl rfl 0 (by decide) lk13 (fun _ h9 => h9) rfl dX4_size_1 ?_
  refine lv_iconst (v := nI 1) hx hb dX4_size_4 (by decide) ?_
  refine qv_icmp_ge (tgt := 12) hx hb dX4_size_5 (by decide) (by omega) (by omega) (fun _ => ?_) (fun c_5 => absurd c_5 (by decide))
  refine lv_aload_n hx hb dX4_size_12 rfl (lv_at hl 0 rfl) ?_
  refine va_get (D := (dC, dI)) (ci := 4) (v := .int (Rus R)) (C := RX4) (T := TX4) (N := 3) hx hb hts hin4 hown hK hP 0 rfl rfl 2 (by decide) lk23 (fun _ h9 => h9) rfl dX4_size_13 ?_
  refine qv_top (e_pu) ?_
  refine lv_aload_n hx hb dX4_size_16 rfl (lv_at hl 0 rfl) ?_
  refine va_get (D := (dC, dI)) (ci := 4) (v := .int (nI 9)) (C := RX4) (T := TX4) (N := 3) hx hb hts hin4 hown hK hP 0 rfl rfl 0 (by decide) lk13 (fun _ h9 => h9) rfl dX4_size_17 ?_
  refine qv_idiv hx hb dX4_size_20 (by omega) (by omega) (by omega) ?_
  have hP9 : va_P (dC, dI) vwCl (rW a cI 9 72 R) s.heap := hP
  exact W.iret (v := nI (((tN (Rus R)) / 9))) hx hb hr (fun t ht hW => ⟨⟨_, (()), rfl, hO.symm.trans hF, by rw [ht]; exact hP9, va_K.moved hW.alike hK, hD⟩, hS.F ht⟩) hS.2.2 dX4_size_21
def F_X4_isFull_v9 (R : rS) : Bool := if tN (Rus R) + 9 ≤ 72 then false else true
set_option maxHeartbeats 4000000 in
set_option maxRecDepth 100000 in
theorem c_X4_isFull_v9 (l : Launch) (dC : Nat → ClassId) (dI : Nat → Nat → Nat) (a : Nat → Nat) (cI : ClassId) (sz : Nat) (R : rS) (pu : inB (Rus R) 72) : Met l yX4_isFull wsX4_isFull { frames := 0, cells := 0, slots := 0, locals := 0 } (xPc (dC, dI) vwCl (xT cI) (rW a cI 9 72 R) sz [.ref (a 0)]) (va_Qi (fun (r : Int32) (u : Unit) => ∃ z : Bool, F_X4_isFull_v9 R = z ∧ r = if z = true then 1 else 0) (mB (dC, dI) vwCl (xT cI) (va_A (rW a cI 9 72 R) sz) (fun u => rW a cI 9 72 R)) (va_A (rW a cI 9 72 R) sz)) 0 0 (va_A (rW a cI 9 72 R) sz) := by
  refine Met.ofW (cc := cX4_isFull) (maxL := 1) (ret := (some .boolean)) (by decide) rfl ?_
  intro p e s m args below meth c s₁ B hml hv
  obtain ⟨rfl, hsz, hP, hK, hD0, hN⟩ := hv
  have hx := B.exec
  have hb := B.bytes
  have hr := B.returns
  have hts := atoms_spec (ws := wsX4_isFull) B.pre
  have hown : s.vm.findClass RX4 = some m.cls := findClass_of_methodNamed B.named
  have hlocks := B.notSynchronized
  subst hsz
  have hD := hD0.self (sz := s.heap.size)
  generalize hAe : va_A (rW a cI 9 72 R) s.heap.size = A at hD ⊢
  have hA : ∀ q : Nat, s.heap.size ≤ q → A q := fun q h => by rw [← hAe]; exact Or.inr h
  have hS : va_S A s.heap s.heap [] := va_S.rf
  have hin4 : ∀ w ∈ wsX40, w ∈ wsX4_isFull := by decide +kernel
  have lk13 := hts (.fieldLink RX4 13 "PostRounders$Rows" "width" "I") (by decide +kernel)
  have lk19 := hts (.fieldLink RX4 19 "PostRounders$Rows" "cells" "[I") (by decide +kernel)
  have lk23 := hts (.fieldLink RX4 23 "PostRounders$Rows" "used" "I") (by decide +kernel)
  have hl := lv_entry ([.ref (a 0)]) (n := 1) (Nat.le_of_ble_eq_true rfl)
  rw [lg_entry_eq]
  generalize (lg_sl ([.ref (a 0)]) ++ List.replicate (1 - (lg_sl ([.ref (a 0)])).length) Slot.unset).toArray = ls at hl ⊢
  have hl : lv_has ls 1 [(0, .ref (a 0))] := hl
  obtain ⟨OUT, hO⟩ : ∃ z, z = F_X4_isFull_v9 R := ⟨_, rfl⟩
  have hF := hO
  unfold F_X4_isFull_v9 at hF
  have e_pu := tN_eq pu.1
  have b_pu := pu.2
  refine lv_aload_n hx hb dX4_isFull_0 rfl (lv_at hl 0 rfl) ?_
  refine va_get (D := (dC, dI)) (ci := 4) (v := .int (Rus R)) (C := RX4) (T := TX4) (N := 3) hx hb hts hin4 hown hK hP 0 rfl rfl 2 (by decide) lk23 (fun _ h9 => h9) rfl dX4_isFull_1 ?_
  refine qv_top (e_pu) ?_
  refine lv_aload_n hx hb dX4_isFull_4 rfl (lv_at hl 0 rfl) ?_
  refine va_get (D := (dC, dI)) (ci := 4) (v := .int (nI 9)) (C := RX4) (T := TX4) (N := 3) hx hb hts hin4 hown hK hP 0 rfl rfl 0 (by decide) lk13 (fun _ h9 => h9) rfl dX4_isFull_5 ?_
  refine qv_iadd hx hb (tN (Rus R) + 9) dX4_isFull_8 (by omega) ?_
  refine lv_aload_n hx hb dX4_isFull_9 rfl (lv_at hl 0 rfl) ?_
  refine va_get (D := (dC, dI)) (ci := 4) (v := .ref (a 1)) (C := RX4) (T := TX4) (N := 3) hx hb hts hin4 hown hK hP 0 rfl rfl 1 (by decide) lk19 (fun _ h9 => h9) rfl dX4_isFull_10 ?_
  refine va_alen (v := nI 72) hx hb hK hP 1 0 rfl rfl rfl dX4_isFull_13 ?_
  refine qv_icmp_le (tgt := 21) hx hb dX4_isFull_14 (by decide) (by omega) (by omega) (fun c_14 => ?_) (fun c_14 => ?_)
  · rw [if_pos c_14] at hF
    refine lv_iconst (v := nI 0) hx hb dX4_isFull_21 (by decide) ?_
    have hP9 : va_P (dC, dI) vwCl (rW a cI 9 72 R) s.heap := hP
    exact W.zret (v := nI 0) hx hb hr (by rfl) (fun t ht hW => ⟨⟨_, (()), rfl, ⟨false, hO.symm.trans hF, rfl⟩, by rw [ht]; exact hP9, va_K.moved hW.alike hK, hD⟩, hS.F ht⟩) hS.2.2 dX4_isFull_22
  · rw [if_neg c_14] at hF
    refine lv_iconst (v := nI 1) hx hb dX4_isFull_17 (by decide) ?_
    refine lv_goto (tgt := 22) hx hb dX4_isFull_18 (by decide) ?_
    have hP9 : va_P (dC, dI) vwCl (rW a cI 9 72 R) s.heap := hP
    exact W.zret (v := nI 1) hx hb hr (by rfl) (fun t ht hW => ⟨⟨_, (()), rfl, ⟨true, hO.symm.trans hF, rfl⟩, by rw [ht]; exact hP9, va_K.moved hW.alike hK, hD⟩, hS.F ht⟩) hS.2.2 dX4_isFull_22
def F_X4_empty_v9 (R : rS) : (rS) := ((Rce R, nI 0))
set_option maxHeartbeats 4000000 in
set_option maxRecDepth 100000 in
theorem c_X4_empty_v9 (l : Launch) (dC : Nat → ClassId) (dI : Nat → Nat → Nat) (a : Nat → Nat) (cI : ClassId) (sz : Nat) (R : rS) : Met l yX4_empty wsX4_empty { frames := 0, cells := 0, slots := 0, locals := 0 } (xPc (dC, dI) vwCl (xT cI) (rW a cI 9 72 R) sz [.ref (a 0)]) (va_Qv (fun (u : (rS)) => F_X4_empty_v9 R = u) (mB (dC, dI) vwCl (xT cI) (va_A (rW a cI 9 72 R) sz) (fun u => rW a cI 9 72 u)) (va_A (rW a cI 9 72 R) sz)) 0 0 (va_A (rW a cI 9 72 R) sz) := by
  refine Met.ofW (cc := cX4_empty) (maxL := 1) (ret := none) (by decide) rfl ?_
  intro p e s m args below meth c s₁ B hml hv
  obtain ⟨rfl, hsz, hP, hK, hD0, hN⟩ := hv
  have hx := B.exec
  have hb := B.bytes
  have hr := B.returns
  have hts := atoms_spec (ws := wsX4_empty) B.pre
  have hown : s.vm.findClass RX4 = some m.cls := findClass_of_methodNamed B.named
  have hlocks := B.notSynchronized
  subst hsz
  have hD := hD0.self (sz := s.heap.size)
  generalize hAe : va_A (rW a cI 9 72 R) s.heap.size = A at hD ⊢
  have hA : ∀ q : Nat, s.heap.size ≤ q → A q := fun q h => by rw [← hAe]; exact Or.inr h
  have hS : va_S A s.heap s.heap [] := va_S.rf
  have hin4 : ∀ w ∈ wsX40, w ∈ wsX4_empty := by decide +kernel
  have lk23 := hts (.fieldLink RX4 23 "PostRounders$Rows" "used" "I") (by decide +kernel)
  have hl := lv_entry ([.ref (a 0)]) (n := 1) (Nat.le_of_ble_eq_true rfl)
  rw [lg_entry_eq]
  generalize (lg_sl ([.ref (a 0)]) ++ List.replicate (1 - (lg_sl ([.ref (a 0)])).length) Slot.unset).toArray = ls at hl ⊢
  have hl : lv_has ls 1 [(0, .ref (a 0))] := hl
  obtain ⟨OUT, hO⟩ : ∃ z, z = F_X4_empty_v9 R := ⟨_, rfl⟩
  have hF := hO
  unfold F_X4_empty_v9 at hF
  refine lv_aload_n hx hb dX4_empty_0 rfl (lv_at hl 0 rfl) ?_
  refine lv_iconst (v := nI 0) hx hb dX4_empty_1 (by decide) ?_
  refine va_put (D := (dC, dI)) (ci := 4) (v := .int (nI 0)) (ty := .int) (C := RX4) (T := TX4) (N := 3) hx hb hts hin4 tyX4 tyX4_ok nmX4 hown hK hP hD hS 0 rfl rfl 2 (by decide) lk23 (fun _ h9 => h9) rfl (by decide +kernel) rfl rfl (Nat.le_of_ble_eq_true rfl) dX4_empty_2 (fun H locs hP hD hS => ?_)
  have hP : va_P (dC, dI) vwCl (rW a cI 9 72 ((Rce R, nI 0))) H := hP
  have hD : va_D A (rW a cI 9 72 ((Rce R, nI 0))) := hD
  have hP9 : va_P (dC, dI) vwCl (rW a cI 9 72 ((Rce R, nI 0))) H := hP
  exact W.vret hx hb hr (fun t ht hW => ⟨⟨((Rce R, nI 0)), rfl, hO.symm.trans hF, by rw [ht]; exact hP9, va_K.moved hW.alike hK, hD⟩, hS.F ht⟩) hS.2.2 dX4_empty_5
def F_X4_put_v9 (R : rS) (v : Int32) : (rS) := if 72 ≤ tN (Rus R) then R else ((upd (Rce R) (tN (Rus R)) v, nI (tN (Rus R) + 1)))
set_option maxHeartbeats 4000000 in
set_option maxRecDepth 100000 in
theorem c_X4_put_v9 (l : Launch) (dC : Nat → ClassId) (dI : Nat → Nat → Nat) (a : Nat → Nat) (cI : ClassId) (sz : Nat) (R : rS) (v : Int32) (pu : inB (Rus R) 72) : Met l yX4_put wsX4_put { frames := 0, cells := 0, slots := 0, locals := 0 } (xPc (dC, dI) vwCl (xT cI) (rW a cI 9 72 R) sz [.ref (a 0), .int v]) (va_Qv (fun (u : (rS)) => F_X4_put_v9 R v = u) (mB (dC, dI) vwCl (xT cI) (va_A (rW a cI 9 72 R) sz) (fun u => rW a cI 9 72 u)) (va_A (rW a cI 9 72 R) sz)) 0 0 (va_A (rW a cI 9 72 R) sz) := by
  refine Met.ofW (cc := cX4_put) (maxL := 2) (ret := none) (by decide) rfl ?_
  intro p e s m args below meth c s₁ B hml hv
  obtain ⟨rfl, hsz, hP, hK, hD0, hN⟩ := hv
  have hx := B.exec
  have hb := B.bytes
  have hr := B.returns
  have hts := atoms_spec (ws := wsX4_put) B.pre
  have hown : s.vm.findClass RX4 = some m.cls := findClass_of_methodNamed B.named
  have hlocks := B.notSynchronized
  subst hsz
  have hD := hD0.self (sz := s.heap.size)
  generalize hAe : va_A (rW a cI 9 72 R) s.heap.size = A at hD ⊢
  have hA : ∀ q : Nat, s.heap.size ≤ q → A q := fun q h => by rw [← hAe]; exact Or.inr h
  have hS : va_S A s.heap s.heap [] := va_S.rf
  have hin4 : ∀ w ∈ wsX40, w ∈ wsX4_put := by decide +kernel
  have lk19 := hts (.fieldLink RX4 19 "PostRounders$Rows" "cells" "[I") (by decide +kernel)
  have lk23 := hts (.fieldLink RX4 23 "PostRounders$Rows" "used" "I") (by decide +kernel)
  have hl := lv_entry ([.ref (a 0), .int v]) (n := 2) (Nat.le_of_ble_eq_true rfl)
  rw [lg_entry_eq]
  generalize (lg_sl ([.ref (a 0), .int v]) ++ List.replicate (2 - (lg_sl ([.ref (a 0), .int v])).length) Slot.unset).toArray = ls at hl ⊢
  have hl : lv_has ls 2 [(0, .ref (a 0)), (1, .int v)] := hl
  obtain ⟨OUT, hO⟩ : ∃ z, z = F_X4_put_v9 R v := ⟨_, rfl⟩
  have hF := hO
  unfold F_X4_put_v9 at hF
  have e_pu := tN_eq pu.1
  have b_pu := pu.2
  refine lv_aload_n hx hb dX4_put_0 rfl (lv_at hl 0 rfl) ?_
  refine va_get (D := (dC, dI)) (ci := 4) (v := .int (Rus R)) (C := RX4) (T := TX4) (N := 3) hx hb hts hin4 hown hK hP 0 rfl rfl 2 (by decide) lk23 (fun _ h9 => h9) rfl dX4_put_1 ?_
  refine qv_top (e_pu) ?_
  refine lv_aload_n hx hb dX4_put_4 rfl (lv_at hl 0 rfl) ?_
  refine va_get (D := (dC, dI)) (ci := 4) (v := .ref (a 1)) (C := RX4) (T := TX4) (N := 3) hx hb hts hin4 hown hK hP 0 rfl rfl 1 (by decide) lk19 (fun _ h9 => h9) rfl dX4_put_5 ?_
  refine va_alen (v := nI 72) hx hb hK hP 1 0 rfl rfl rfl dX4_put_8 ?_
  refine qv_icmp_ge (tgt := 32) hx hb dX4_put_9 (by decide) (by omega) (by omega) (fun c_9 => ?_) (fun c_9 => ?_)
  · rw [if_pos c_9] at hF
    have hP9 : va_P (dC, dI) vwCl (rW a cI 9 72 R) s.heap := hP
    exact W.vret hx hb hr (fun t ht hW => ⟨⟨(R), rfl, hO.symm.trans hF, by rw [ht]; exact hP9, va_K.moved hW.alike hK, hD⟩, hS.F ht⟩) hS.2.2 dX4_put_32
  · rw [if_neg c_9] at hF
    refine lv_aload_n hx hb dX4_put_12 rfl (lv_at hl 0 rfl) ?_
    refine va_get (D := (dC, dI)) (ci := 4) (v := .ref (a 1)) (C := RX4) (T := TX4) (N := 3) hx hb hts hin4 hown hK hP 0 rfl rfl 1 (by decide) lk19 (fun _ h9 => h9) rfl dX4_put_13 ?_
    refine lv_aload_n hx hb dX4_put_16 rfl (lv_at hl 0 rfl) ?_
    refine va_get (D := (dC, dI)) (ci := 4) (v := .int (Rus R)) (C := RX4) (T := TX4) (N := 3) hx hb hts hin4 hown hK hP 0 rfl rfl 2 (by decide) lk23 (fun _ h9 => h9) rfl dX4_put_17 ?_
    refine qv_top (e_pu) ?_
    refine lv_iload_n hx hb dX4_put_20 rfl (lv_at hl 1 rfl) ?_
    refine qv_ast (ws' := rW a cI 9 72 ((upd (Rce R) (tN (Rus R)) v, Rus R))) hx hb hK hP hD hS 1 0 rfl rfl (by omega) (by decide) dX4_put_21 rfl (fun H locs hP hD hS => ?_)
    refine lv_aload_n hx hb dX4_put_22 rfl (lv_at hl 0 rfl) ?_
    refine lv_dup hx hb dX4_put_23 rfl ?_
    refine va_get (D := (dC, dI)) (ci := 4) (v := .int (Rus R)) (C := RX4) (T := TX4) (N := 3) hx hb hts hin4 hown hK hP 0 rfl rfl 2 (by decide) lk23 (fun _ h9 => h9) rfl dX4_put_24 ?_
    refine qv_top (e_pu) ?_
    refine lv_iconst (v := nI 1) hx hb dX4_put_27 (by decide) ?_
    refine qv_iadd hx hb (tN (Rus R) + 1) dX4_put_28 (by omega) ?_
    refine va_put (D := (dC, dI)) (ci := 4) (v := .int (nI (tN (Rus R) + 1))) (ty := .int) (C := RX4) (T := TX4) (N := 3) hx hb hts hin4 tyX4 tyX4_ok nmX4 hown hK hP hD hS 0 rfl rfl 2 (by decide) lk23 (fun _ h9 => h9) rfl (by decide +kernel) rfl rfl (Nat.le_of_ble_eq_true rfl) dX4_put_29 (fun H locs hP hD hS => ?_)
    have hP : va_P (dC, dI) vwCl (rW a cI 9 72 ((upd (Rce R) (tN (Rus R)) v, nI (tN (Rus R) + 1)))) H := hP
    have hD : va_D A (rW a cI 9 72 ((upd (Rce R) (tN (Rus R)) v, nI (tN (Rus R) + 1)))) := hD
    have hP9 : va_P (dC, dI) vwCl (rW a cI 9 72 ((upd (Rce R) (tN (Rus R)) v, nI (tN (Rus R) + 1)))) H := hP
    exact W.vret hx hb hr (fun t ht hW => ⟨⟨((upd (Rce R) (tN (Rus R)) v, nI (tN (Rus R) + 1))), rfl, hO.symm.trans hF, by rw [ht]; exact hP9, va_K.moved hW.alike hK, hD⟩, hS.F ht⟩) hS.2.2 dX4_put_32
def F_X4_cell_v9 (R : rS) (row : Nat) (col : Nat) : Int32 := if tN (Rus R) ≤ 9 * row + col then nI 0 else (Rce R) (9 * row + col)
set_option maxHeartbeats 4000000 in
set_option maxRecDepth 100000 in
theorem c_X4_cell_v9 (l : Launch) (dC : Nat → ClassId) (dI : Nat → Nat → Nat) (a : Nat → Nat) (cI : ClassId) (sz : Nat) (R : rS) (row : Nat) (col : Nat) (pu : inB (Rus R) 72) (h1 : row < 1000) (h2 : col < 10) : Met l yX4_cell wsX4_cell { frames := 0, cells := 0, slots := 0, locals := 0 } (xPc (dC, dI) vwCl (xT cI) (rW a cI 9 72 R) sz [.ref (a 0), .int (nI row), .int (nI col)]) (va_Qi (fun (r : Int32) (u : Unit) => F_X4_cell_v9 R row col = r) (mB (dC, dI) vwCl (xT cI) (va_A (rW a cI 9 72 R) sz) (fun u => rW a cI 9 72 R)) (va_A (rW a cI 9 72 R) sz)) 0 0 (va_A (rW a cI 9 72 R) sz) := by
  refine Met.ofW (cc := cX4_cell) (maxL := 4) (ret := (some .int)) (by decide) rfl ?_
  intro p e s m args below meth c s₁ B hml hv
  obtain ⟨rfl, hsz, hP, hK, hD0, hN⟩ := hv
  have hx := B.exec
  have hb := B.bytes
  have hr := B.returns
  have hts := atoms_spec (ws := wsX4_cell) B.pre
  have hown : s.vm.findClass RX4 = some m.cls := findClass_of_methodNamed B.named
  have hlocks := B.notSynchronized
  subst hsz
  have hD := hD0.self (sz := s.heap.size)
  generalize hAe : va_A (rW a cI 9 72 R) s.heap.size = A at hD ⊢
  have hA : ∀ q : Nat, s.heap.size ≤ q → A q := fun q h => by rw [← hAe]; exact Or.inr h
  have hS : va_S A s.heap s.heap [] := va_S.rf
  have hin4 : ∀ w ∈ wsX40, w ∈ wsX4_cell := by decide +kernel
  have lk13 := hts (.fieldLink RX4 13 "PostRounders$Rows" "width" "I") (by decide +kernel)
  have lk19 := hts (.fieldLink RX4 19 "PostRounders$Rows" "cells" "[I") (by decide +kernel)
  have lk23 := hts (.fieldLink RX4 23 "PostRounders$Rows" "used" "I") (by decide +kernel)
  have hl := lv_entry ([.ref (a 0), .int (nI row), .int (nI col)]) (n := 4) (Nat.le_of_ble_eq_true rfl)
  rw [lg_entry_eq]
  generalize (lg_sl ([.ref (a 0), .int (nI row), .int (nI col)]) ++ List.replicate (4 - (lg_sl ([.ref (a 0), .int (nI row), .int (nI col)])).length) Slot.unset).toArray = ls at hl ⊢
  have hl : lv_has ls 4 [(0, .ref (a 0)), (1, .int (nI row)), (2, .int (nI col))] := hl
  obtain ⟨OUT, hO⟩ : ∃ z, z = F_X4_cell_v9 R row col := ⟨_, rfl⟩
  have hF := hO
  unfold F_X4_cell_v9 at hF
  have e_pu := tN_eq pu.1
  have b_pu := pu.2
  refine lv_iload_n hx hb dX4_cell_0 rfl (lv_at hl 1 rfl) ?_
  refine lv_aload_n hx hb dX4_cell_1 rfl (lv_at hl 0 rfl) ?_
  refine va_get (D := (dC, dI)) (ci := 4) (v := .int (nI 9)) (C := RX4) (T := TX4) (N := 3) hx hb hts hin4 hown hK hP 0 rfl rfl 0 (by decide) lk13 (fun _ h9 => h9) rfl dX4_cell_2 ?_
  refine qv_imul hx hb (9 * row) dX4_cell_5 (by omega) ?_
  refine lv_iload_n hx hb dX4_cell_6 rfl (lv_at hl 2 rfl) ?_
  refine qv_iadd hx hb (9 * row + col) dX4_cell_7 (by omega) ?_
  refine lv_istore_n (lv' := [(3, .int (nI (9 * row + col))), (0, .ref (a 0)), (1, .int (nI row)), (2, .int (nI col))]) hx hb dX4_cell_8 rfl hl (by decide) rfl (fun ls hl => ?_)
  refine lv_iload_n hx hb dX4_cell_9 rfl (lv_at hl 0 rfl) ?_
  refine lv_if_lt (tgt := 30) hx hb dX4_cell_10 (by decide) (fun c_10 => absurd c_10 (nI_pos (by omega))) (fun _ => ?_)
  refine lv_iload_n hx hb dX4_cell_13 rfl (lv_at hl 0 rfl) ?_
  refine lv_aload_n hx hb dX4_cell_14 rfl (lv_at hl 1 rfl) ?_
  refine va_get (D := (dC, dI)) (ci := 4) (v := .int (Rus R)) (C := RX4) (T := TX4) (N := 3) hx hb hts hin4 hown hK hP 0 rfl rfl 2 (by decide) lk23 (fun _ h9 => h9) rfl dX4_cell_15 ?_
  refine qv_top (e_pu) ?_
  refine qv_icmp_ge (tgt := 30) hx hb dX4_cell_18 (by decide) (by omega) (by omega) (fun c_18 => ?_) (fun c_18 => ?_)
  · rw [if_pos c_18] at hF
    refine lv_iconst (v := nI 0) hx hb dX4_cell_30 (by decide) ?_
    have hP9 : va_P (dC, dI) vwCl (rW a cI 9 72 R) s.heap := hP
    exact W.iret (v := nI 0) hx hb hr (fun t ht hW => ⟨⟨_, (()), rfl, hO.symm.trans hF, by rw [ht]; exact hP9, va_K.moved hW.alike hK, hD⟩, hS.F ht⟩) hS.2.2 dX4_cell_31
  · rw [if_neg c_18] at hF
    refine lv_aload_n hx hb dX4_cell_21 rfl (lv_at hl 1 rfl) ?_
    refine va_get (D := (dC, dI)) (ci := 4) (v := .ref (a 1)) (C := RX4) (T := TX4) (N := 3) hx hb hts hin4 hown hK hP 0 rfl rfl 1 (by decide) lk19 (fun _ h9 => h9) rfl dX4_cell_22 ?_
    refine lv_iload_n hx hb dX4_cell_25 rfl (lv_at hl 0 rfl) ?_
    refine qv_ald (v := (Rce R) (9 * row + col)) hx hb hK hP 1 0 rfl rfl (by omega) (by decide) (rfl) dX4_cell_26 ?_
    refine lv_goto (tgt := 31) hx hb dX4_cell_27 (by decide) ?_
    have hP9 : va_P (dC, dI) vwCl (rW a cI 9 72 R) s.heap := hP
    exact W.iret (v := (Rce R) (9 * row + col)) hx hb hr (fun t ht hW => ⟨⟨_, (()), rfl, hO.symm.trans hF, by rw [ht]; exact hP9, va_K.moved hW.alike hK, hD⟩, hS.F ht⟩) hS.2.2 dX4_cell_31
def F_X4_dropFirst_v9 (R : rS) : (rS) := if tN (Rus R) < 9 then R else ((va_cpy (Rce R) (Rce R) 9 0 ((tN (Rus R) - 9)), nI ((tN (Rus R) - 9))))
set_option maxHeartbeats 4000000 in
set_option maxRecDepth 100000 in
theorem c_X4_dropFirst_v9 (l : Launch) (dC : Nat → ClassId) (dI : Nat → Nat → Nat) (a : Nat → Nat) (cI : ClassId) (sz : Nat) (R : rS) (pu : inB (Rus R) 72) : Met l yX4_dropFirst wsX4_dropFirst { frames := 1, cells := 0, slots := 0, locals := 60 } (xPc (dC, dI) vwCl (xT cI) (rW a cI 9 72 R) sz [.ref (a 0)]) (va_Qv (fun (u : (rS)) => F_X4_dropFirst_v9 R = u) (mB (dC, dI) vwCl (xT cI) (va_A (rW a cI 9 72 R) sz) (fun u => rW a cI 9 72 u)) (va_A (rW a cI 9 72 R) sz)) 0 0 (va_A (rW a cI 9 72 R) sz) := by
  refine Met.ofW (cc := cX4_dropFirst) (maxL := 1) (ret := none) (by decide) rfl ?_
  intro p e s m args below meth c s₁ B hml hv
  obtain ⟨rfl, hsz, hP, hK, hD0, hN⟩ := hv
  have hx := B.exec
  have hb := B.bytes
  have hr := B.returns
  have hts := atoms_spec (ws := wsX4_dropFirst) B.pre
  have hown : s.vm.findClass RX4 = some m.cls := findClass_of_methodNamed B.named
  have hlocks := B.notSynchronized
  subst hsz
  have hD := hD0.self (sz := s.heap.size)
  generalize hAe : va_A (rW a cI 9 72 R) s.heap.size = A at hD ⊢
  have hA : ∀ q : Nat, s.heap.size ≤ q → A q := fun q h => by rw [← hAe]; exact Or.inr h
  have hS : va_S A s.heap s.heap [] := va_S.rf
  have hin4 : ∀ w ∈ wsX40, w ∈ wsX4_dropFirst := by decide +kernel
  have lk13 := hts (.fieldLink RX4 13 "PostRounders$Rows" "width" "I") (by decide +kernel)
  have lk19 := hts (.fieldLink RX4 19 "PostRounders$Rows" "cells" "[I") (by decide +kernel)
  have lk23 := hts (.fieldLink RX4 23 "PostRounders$Rows" "used" "I") (by decide +kernel)
  have hl := lv_entry ([.ref (a 0)]) (n := 1) (Nat.le_of_ble_eq_true rfl)
  rw [lg_entry_eq]
  generalize (lg_sl ([.ref (a 0)]) ++ List.replicate (1 - (lg_sl ([.ref (a 0)])).length) Slot.unset).toArray = ls at hl ⊢
  have hl : lv_has ls 1 [(0, .ref (a 0))] := hl
  obtain ⟨OUT, hO⟩ : ∃ z, z = F_X4_dropFirst_v9 R := ⟨_, rfl⟩
  have hF := hO
  unfold F_X4_dropFirst_v9 at hF
  have e_pu := tN_eq pu.1
  have b_pu := pu.2
  refine lv_aload_n hx hb dX4_dropFirst_0 rfl (lv_at hl 0 rfl) ?_
  refine va_get (D := (dC, dI)) (ci := 4) (v := .int (Rus R)) (C := RX4) (T := TX4) (N := 3) hx hb hts hin4 hown hK hP 0 rfl rfl 2 (by decide) lk23 (fun _ h9 => h9) rfl dX4_dropFirst_1 ?_
  refine qv_top (e_pu) ?_
  refine lv_aload_n hx hb dX4_dropFirst_4 rfl (lv_at hl 0 rfl) ?_
  refine va_get (D := (dC, dI)) (ci := 4) (v := .int (nI 9)) (C := RX4) (T := TX4) (N := 3) hx hb hts hin4 hown hK hP 0 rfl rfl 0 (by decide) lk13 (fun _ h9 => h9) rfl dX4_dropFirst_5 ?_
  refine qv_icmp_lt (tgt := 44) hx hb dX4_dropFirst_8 (by decide) (by omega) (by omega) (fun c_8 => ?_) (fun c_8 => ?_)
  · rw [if_pos c_8] at hF
    have hP9 : va_P (dC, dI) vwCl (rW a cI 9 72 R) s.heap := hP
    exact W.vret hx hb hr (fun t ht hW => ⟨⟨(R), rfl, hO.symm.trans hF, by rw [ht]; exact hP9, va_K.moved hW.alike hK, hD⟩, hS.F ht⟩) hS.2.2 dX4_dropFirst_44
  · rw [if_neg c_8] at hF
    refine lv_aload_n hx hb dX4_dropFirst_11 rfl (lv_at hl 0 rfl) ?_
    refine lv_dup hx hb dX4_dropFirst_12 rfl ?_
    refine va_get (D := (dC, dI)) (ci := 4) (v := .int (Rus R)) (C := RX4) (T := TX4) (N := 3) hx hb hts hin4 hown hK hP 0 rfl rfl 2 (by decide) lk23 (fun _ h9 => h9) rfl dX4_dropFirst_13 ?_
    refine qv_top (e_pu) ?_
    refine lv_aload_n hx hb dX4_dropFirst_16 rfl (lv_at hl 0 rfl) ?_
    refine va_get (D := (dC, dI)) (ci := 4) (v := .int (nI 9)) (C := RX4) (T := TX4) (N := 3) hx hb hts hin4 hown hK hP 0 rfl rfl 0 (by decide) lk13 (fun _ h9 => h9) rfl dX4_dropFirst_17 ?_
    refine qv_isub hx hb (tN (Rus R) - 9) dX4_dropFirst_20 (by omega) ?_
    refine va_put (D := (dC, dI)) (ci := 4) (v := .int (nI ((tN (Rus R) - 9)))) (ty := .int) (C := RX4) (T := TX4) (N := 3) hx hb hts hin4 tyX4 tyX4_ok nmX4 hown hK hP hD hS 0 rfl rfl 2 (by decide) lk23 (fun _ h9 => h9) rfl (by decide +kernel) rfl rfl (Nat.le_of_ble_eq_true rfl) dX4_dropFirst_21 (fun H locs hP hD hS => ?_)
    have hP : va_P (dC, dI) vwCl (rW a cI 9 72 ((Rce R, nI ((tN (Rus R) - 9))))) H := hP
    have hD : va_D A (rW a cI 9 72 ((Rce R, nI ((tN (Rus R) - 9))))) := hD
    refine lv_aload_n hx hb dX4_dropFirst_24 rfl (lv_at hl 0 rfl) ?_
    refine va_get (D := (dC, dI)) (ci := 4) (v := .ref (a 1)) (C := RX4) (T := TX4) (N := 3) hx hb hts hin4 hown hK hP 0 rfl rfl 1 (by decide) lk19 (fun _ h9 => h9) rfl dX4_dropFirst_25 ?_
    refine lv_aload_n hx hb dX4_dropFirst_28 rfl (lv_at hl 0 rfl) ?_
    refine va_get (D := (dC, dI)) (ci := 4) (v := .int (nI 9)) (C := RX4) (T := TX4) (N := 3) hx hb hts hin4 hown hK hP 0 rfl rfl 0 (by decide) lk13 (fun _ h9 => h9) rfl dX4_dropFirst_29 ?_
    refine lv_aload_n hx hb dX4_dropFirst_32 rfl (lv_at hl 0 rfl) ?_
    refine va_get (D := (dC, dI)) (ci := 4) (v := .ref (a 1)) (C := RX4) (T := TX4) (N := 3) hx hb hts hin4 hown hK hP 0 rfl rfl 1 (by decide) lk19 (fun _ h9 => h9) rfl dX4_dropFirst_33 ?_
    refine lv_iconst (v := nI 0) hx hb dX4_dropFirst_36 (by decide) ?_
    refine lv_aload_n hx hb dX4_dropFirst_37 rfl (lv_at hl 0 rfl) ?_
    refine va_get (D := (dC, dI)) (ci := 4) (v := .int (nI ((tN (Rus R) - 9)))) (C := RX4) (T := TX4) (N := 3) hx hb hts hin4 hown hK hP 0 rfl rfl 2 (by decide) lk23 (fun _ h9 => h9) rfl dX4_dropFirst_38 ?_
    refine qv_cpy (ws' := rW a cI 9 72 ((va_cpy (Rce R) (Rce R) 9 0 ((tN (Rus R) - 9)), nI ((tN (Rus R) - 9))))) hx hb (hml.trans hl.1.symm) hown (hts (.methodLink RX4 26 arraycopyName) (by decide +kernel)) (hts (.native arraycopyName) (by decide +kernel)) (hts (.static arraycopyName) (by decide +kernel)) (hts (.initialized "java/lang/System") (by decide +kernel)) hK hP hD hS 1 1 0 rfl rfl rfl (by omega) (by omega) (by decide) (by decide) (Nat.le_of_ble_eq_true rfl) (Nat.le_of_ble_eq_true rfl) dX4_dropFirst_41 rfl (fun H locs hP hD hS => ?_)
    have hP9 : va_P (dC, dI) vwCl (rW a cI 9 72 ((va_cpy (Rce R) (Rce R) 9 0 ((tN (Rus R) - 9)), nI ((tN (Rus R) - 9))))) H := hP
    exact W.vret hx hb hr (fun t ht hW => ⟨⟨((va_cpy (Rce R) (Rce R) 9 0 ((tN (Rus R) - 9)), nI ((tN (Rus R) - 9)))), rfl, hO.symm.trans hF, by rw [ht]; exact hP9, va_K.moved hW.alike hK, hD⟩, hS.F ht⟩) hS.2.2 dX4_dropFirst_44
def F_X4_dropLast_v9 (R : rS) : (rS) := if (nI 0) < ((nI (tN (Rus R))) - (nI 9)) then ((Rce R, (nI (tN (Rus R))) - (nI 9))) else ((Rce R, nI 0))
set_option maxHeartbeats 4000000 in
set_option maxRecDepth 100000 in
theorem c_X4_dropLast_v9 (l : Launch) (dC : Nat → ClassId) (dI : Nat → Nat → Nat) (a : Nat → Nat) (cI : ClassId) (sz : Nat) (R : rS) (pu : inB (Rus R) 72) : Met l yX4_dropLast wsX4_dropLast { frames := 1, cells := 0, slots := 0, locals := 14 } (xPc (dC, dI) vwCl (xT cI) (rW a cI 9 72 R) sz [.ref (a 0)]) (va_Qv (fun (u : (rS)) => F_X4_dropLast_v9 R = u) (mB (dC, dI) vwCl (xT cI) (va_A (rW a cI 9 72 R) sz) (fun u => rW a cI 9 72 u)) (va_A (rW a cI 9 72 R) sz)) 0 0 (va_A (rW a cI 9 72 R) sz) := by
  refine Met.ofW (cc := cX4_dropLast) (maxL := 1) (ret := none) (by decide) rfl ?_
  intro p e s m args below meth c s₁ B hml hv
  obtain ⟨rfl, hsz, hP, hK, hD0, hN⟩ := hv
  have hx := B.exec
  have hb := B.bytes
  have hr := B.returns
  have hts := atoms_spec (ws := wsX4_dropLast) B.pre
  have hown : s.vm.findClass RX4 = some m.cls := findClass_of_methodNamed B.named
  have hlocks := B.notSynchronized
  subst hsz
  have hD := hD0.self (sz := s.heap.size)
  generalize hAe : va_A (rW a cI 9 72 R) s.heap.size = A at hD ⊢
  have hA : ∀ q : Nat, s.heap.size ≤ q → A q := fun q h => by rw [← hAe]; exact Or.inr h
  have hS : va_S A s.heap s.heap [] := va_S.rf
  have hin4 : ∀ w ∈ wsX40, w ∈ wsX4_dropLast := by decide +kernel
  have lk13 := hts (.fieldLink RX4 13 "PostRounders$Rows" "width" "I") (by decide +kernel)
  have lk23 := hts (.fieldLink RX4 23 "PostRounders$Rows" "used" "I") (by decide +kernel)
  have hl := lv_entry ([.ref (a 0)]) (n := 1) (Nat.le_of_ble_eq_true rfl)
  rw [lg_entry_eq]
  generalize (lg_sl ([.ref (a 0)]) ++ List.replicate (1 - (lg_sl ([.ref (a 0)])).length) Slot.unset).toArray = ls at hl ⊢
  have hl : lv_has ls 1 [(0, .ref (a 0))] := hl
  obtain ⟨OUT, hO⟩ : ∃ z, z = F_X4_dropLast_v9 R := ⟨_, rfl⟩
  have hF := hO
  unfold F_X4_dropLast_v9 at hF
  have e_pu := tN_eq pu.1
  have b_pu := pu.2
  refine lv_aload_n hx hb dX4_dropLast_0 rfl (lv_at hl 0 rfl) ?_
  refine lv_iconst (v := nI 0) hx hb dX4_dropLast_1 (by decide) ?_
  refine lv_aload_n hx hb dX4_dropLast_2 rfl (lv_at hl 0 rfl) ?_
  refine va_get (D := (dC, dI)) (ci := 4) (v := .int (Rus R)) (C := RX4) (T := TX4) (N := 3) hx hb hts hin4 hown hK hP 0 rfl rfl 2 (by decide) lk23 (fun _ h9 => h9) rfl dX4_dropLast_3 ?_
  refine qv_top (e_pu) ?_
  refine lv_aload_n hx hb dX4_dropLast_6 rfl (lv_at hl 0 rfl) ?_
  refine va_get (D := (dC, dI)) (ci := 4) (v := .int (nI 9)) (C := RX4) (T := TX4) (N := 3) hx hb hts hin4 hown hK hP 0 rfl rfl 0 (by decide) lk13 (fun _ h9 => h9) rfl dX4_dropLast_7 ?_
  refine lv_isub hx hb dX4_dropLast_10 ?_
  refine va_mmax hx hb (hml.trans hl.1.symm) hown (hts (.methodLink RX4 7 Lib.Math.max.name) (by decide +kernel)) (hts (.static Lib.Math.max.name) (by decide +kernel)) (hts (.initialized "java/lang/Math") (by decide +kernel)) (hts (.code Lib.Math.max.name Lib.Math.max.code 2 (some .int)) (by decide +kernel)) (Nat.le_of_ble_eq_true rfl) (Nat.le_of_ble_eq_true rfl) (Nat.zero_le _) (Nat.zero_le _) dX4_dropLast_11 ?_
  by_cases c_11 : (nI 0) < ((nI (tN (Rus R))) - (nI 9))
  · rw [if_pos c_11] at hF ⊢
    refine va_put (D := (dC, dI)) (ci := 4) (v := .int ((nI (tN (Rus R))) - (nI 9))) (ty := .int) (C := RX4) (T := TX4) (N := 3) hx hb hts hin4 tyX4 tyX4_ok nmX4 hown hK hP hD hS 0 rfl rfl 2 (by decide) lk23 (fun _ h9 => h9) rfl (by decide +kernel) rfl rfl (Nat.le_of_ble_eq_true rfl) dX4_dropLast_14 (fun H locs hP hD hS => ?_)
    have hP : va_P (dC, dI) vwCl (rW a cI 9 72 ((Rce R, (nI (tN (Rus R))) - (nI 9)))) H := hP
    have hD : va_D A (rW a cI 9 72 ((Rce R, (nI (tN (Rus R))) - (nI 9)))) := hD
    have hP9 : va_P (dC, dI) vwCl (rW a cI 9 72 ((Rce R, (nI (tN (Rus R))) - (nI 9)))) H := hP
    exact W.vret hx hb hr (fun t ht hW => ⟨⟨((Rce R, (nI (tN (Rus R))) - (nI 9))), rfl, hO.symm.trans hF, by rw [ht]; exact hP9, va_K.moved hW.alike hK, hD⟩, hS.F ht⟩) hS.2.2 dX4_dropLast_17
  · rw [if_neg c_11] at hF ⊢
    refine va_put (D := (dC, dI)) (ci := 4) (v := .int (nI 0)) (ty := .int) (C := RX4) (T := TX4) (N := 3) hx hb hts hin4 tyX4 tyX4_ok nmX4 hown hK hP hD hS 0 rfl rfl 2 (by decide) lk23 (fun _ h9 => h9) rfl (by decide +kernel) rfl rfl (Nat.le_of_ble_eq_true rfl) dX4_dropLast_14 (fun H locs hP hD hS => ?_)
    have hP : va_P (dC, dI) vwCl (rW a cI 9 72 ((Rce R, nI 0))) H := hP
    have hD : va_D A (rW a cI 9 72 ((Rce R, nI 0))) := hD
    have hP9 : va_P (dC, dI) vwCl (rW a cI 9 72 ((Rce R, nI 0))) H := hP
    exact W.vret hx hb hr (fun t ht hW => ⟨⟨((Rce R, nI 0)), rfl, hO.symm.trans hF, by rw [ht]; exact hP9, va_K.moved hW.alike hK, hD⟩, hS.F ht⟩) hS.2.2 dX4_dropLast_17
def F_X4_copy_v9 (R : rS) (O : rS) : (rS) := if (nI 72) < (nI (tN (Rus O))) then ((va_cpy (Rce O) (Rce R) 0 0 72, nI 72)) else ((va_cpy (Rce O) (Rce R) 0 0 (tN (Rus O)), nI (tN (Rus O))))
set_option maxHeartbeats 4000000 in
set_option maxRecDepth 100000 in
theorem c_X4_copy_v9 (l : Launch) (dC : Nat → ClassId) (dI : Nat → Nat → Nat) (a : Nat → Nat) (b : Nat → Nat) (cI : ClassId) (sz : Nat) (R : rS) (O : rS) (pu : inB (Rus O) 72) : Met l yX4_copy wsX4_copy { frames := 1, cells := 0, slots := 0, locals := 60 } (xPc (dC, dI) vwCl (xT cI) ((rW a cI 9 72 R) ++ (rW b cI 9 72 O)) sz [.ref (a 0), .ref (b 0)]) (va_Qv (fun (u : (rS)) => F_X4_copy_v9 R O = u) (mB (dC, dI) vwCl (xT cI) (va_A ((rW a cI 9 72 R) ++ (rW b cI 9 72 O)) sz) (fun u => (rW a cI 9 72 u) ++ (rW b cI 9 72 O))) (va_A ((rW a cI 9 72 R) ++ (rW b cI 9 72 O)) sz)) 0 0 (va_A ((rW a cI 9 72 R) ++ (rW b cI 9 72 O)) sz) := by
  refine Met.ofW (cc := cX4_copy) (maxL := 2) (ret := none) (by decide) rfl ?_
  intro p e s m args below meth c s₁ B hml hv
  obtain ⟨rfl, hsz, hP, hK, hD0, hN⟩ := hv
  have hx := B.exec
  have hb := B.bytes
  have hr := B.returns
  have hts := atoms_spec (ws := wsX4_copy) B.pre
  have hown : s.vm.findClass RX4 = some m.cls := findClass_of_methodNamed B.named
  have hlocks := B.notSynchronized
  subst hsz
  have hD := hD0.self (sz := s.heap.size)
  generalize hAe : va_A ((rW a cI 9 72 R) ++ (rW b cI 9 72 O)) s.heap.size = A at hD ⊢
  have hA : ∀ q : Nat, s.heap.size ≤ q → A q := fun q h => by rw [← hAe]; exact Or.inr h
  have hS : va_S A s.heap s.heap [] := va_S.rf
  have hin4 : ∀ w ∈ wsX40, w ∈ wsX4_copy := by decide +kernel
  have lk19 := hts (.fieldLink RX4 19 "PostRounders$Rows" "cells" "[I") (by decide +kernel)
  have lk23 := hts (.fieldLink RX4 23 "PostRounders$Rows" "used" "I") (by decide +kernel)
  have hl := lv_entry ([.ref (a 0), .ref (b 0)]) (n := 2) (Nat.le_of_ble_eq_true rfl)
  rw [lg_entry_eq]
  generalize (lg_sl ([.ref (a 0), .ref (b 0)]) ++ List.replicate (2 - (lg_sl ([.ref (a 0), .ref (b 0)])).length) Slot.unset).toArray = ls at hl ⊢
  have hl : lv_has ls 2 [(0, .ref (a 0)), (1, .ref (b 0))] := hl
  obtain ⟨OUT, hO⟩ : ∃ z, z = F_X4_copy_v9 R O := ⟨_, rfl⟩
  have hF := hO
  unfold F_X4_copy_v9 at hF
  have e_pu := tN_eq pu.1
  have b_pu := pu.2
  refine lv_aload_n hx hb dX4_copy_0 rfl (lv_at hl 0 rfl) ?_
  refine lv_aload_n hx hb dX4_copy_1 rfl (lv_at hl 1 rfl) ?_
  refine va_get (D := (dC, dI)) (ci := 4) (v := .int (Rus O)) (C := RX4) (T := TX4) (N := 3) hx hb hts hin4 hown hK hP 2 rfl rfl 2 (by decide) lk23 (fun _ h9 => h9) rfl dX4_copy_2 ?_
  refine qv_top (e_pu) ?_
  refine lv_aload_n hx hb dX4_copy_5 rfl (lv_at hl 0 rfl) ?_
  refine va_get (D := (dC, dI)) (ci := 4) (v := .ref (a 1)) (C := RX4) (T := TX4) (N := 3) hx hb hts hin4 hown hK hP 0 rfl rfl 1 (by decide) lk19 (fun _ h9 => h9) rfl dX4_copy_6 ?_
  refine va_alen (v := nI 72) hx hb hK hP 1 0 rfl rfl rfl dX4_copy_9 ?_
  refine va_mmin hx hb (hml.trans hl.1.symm) hown (hts (.methodLink RX4 32 Lib.Math.min.name) (by decide +kernel)) (hts (.static Lib.Math.min.name) (by decide +kernel)) (hts (.initialized "java/lang/Math") (by decide +kernel)) (hts (.code Lib.Math.min.name Lib.Math.min.code 2 (some .int)) (by decide +kernel)) (Nat.le_of_ble_eq_true rfl) (Nat.le_of_ble_eq_true rfl) (Nat.zero_le _) (Nat.zero_le _) dX4_copy_10 ?_
  by_cases c_10 : (nI 72) < (nI (tN (Rus O)))
  · rw [if_pos c_10] at hF ⊢
    refine va_put (D := (dC, dI)) (ci := 4) (v := .int (nI 72)) (ty := .int) (C := RX4) (T := TX4) (N := 3) hx hb hts hin4 tyX4 tyX4_ok nmX4 hown hK hP hD hS 0 rfl rfl 2 (by decide) lk23 (fun _ h9 => h9) rfl (by decide +kernel) rfl rfl (Nat.le_of_ble_eq_true rfl) dX4_copy_13 (fun H locs hP hD hS => ?_)
    have hP : va_P (dC, dI) vwCl ((rW a cI 9 72 ((Rce R, nI 72))) ++ (rW b cI 9 72 O)) H := hP
    have hD : va_D A ((rW a cI 9 72 ((Rce R, nI 72))) ++ (rW b cI 9 72 O)) := hD
    refine lv_aload_n hx hb dX4_copy_16 rfl (lv_at hl 1 rfl) ?_
    refine va_get (D := (dC, dI)) (ci := 4) (v := .ref (b 1)) (C := RX4) (T := TX4) (N := 3) hx hb hts hin4 hown hK hP 2 rfl rfl 1 (by decide) lk19 (fun _ h9 => h9) rfl dX4_copy_17 ?_
    refine lv_iconst (v := nI 0) hx hb dX4_copy_20 (by decide) ?_
    refine lv_aload_n hx hb dX4_copy_21 rfl (lv_at hl 0 rfl) ?_
    refine va_get (D := (dC, dI)) (ci := 4) (v := .ref (a 1)) (C := RX4) (T := TX4) (N := 3) hx hb hts hin4 hown hK hP 0 rfl rfl 1 (by decide) lk19 (fun _ h9 => h9) rfl dX4_copy_22 ?_
    refine lv_iconst (v := nI 0) hx hb dX4_copy_25 (by decide) ?_
    refine lv_aload_n hx hb dX4_copy_26 rfl (lv_at hl 0 rfl) ?_
    refine va_get (D := (dC, dI)) (ci := 4) (v := .int (nI 72)) (C := RX4) (T := TX4) (N := 3) hx hb hts hin4 hown hK hP 0 rfl rfl 2 (by decide) lk23 (fun _ h9 => h9) rfl dX4_copy_27 ?_
    refine qv_cpy (ws' := (rW a cI 9 72 ((va_cpy (Rce O) (Rce R) 0 0 72, nI 72))) ++ (rW b cI 9 72 O)) hx hb (hml.trans hl.1.symm) hown (hts (.methodLink RX4 26 arraycopyName) (by decide +kernel)) (hts (.native arraycopyName) (by decide +kernel)) (hts (.static arraycopyName) (by decide +kernel)) (hts (.initialized "java/lang/System") (by decide +kernel)) hK hP hD hS 3 1 0 rfl rfl rfl (by omega) (by omega) (by decide) (by decide) (Nat.le_of_ble_eq_true rfl) (Nat.le_of_ble_eq_true rfl) dX4_copy_30 rfl (fun H locs hP hD hS => ?_)
    have hP9 : va_P (dC, dI) vwCl ((rW a cI 9 72 ((va_cpy (Rce O) (Rce R) 0 0 72, nI 72))) ++ (rW b cI 9 72 O)) H := hP
    exact W.vret hx hb hr (fun t ht hW => ⟨⟨((va_cpy (Rce O) (Rce R) 0 0 72, nI 72)), rfl, hO.symm.trans hF, by rw [ht]; exact hP9, va_K.moved hW.alike hK, hD⟩, hS.F ht⟩) hS.2.2 dX4_copy_33
  · rw [if_neg c_10] at hF ⊢
    refine va_put (D := (dC, dI)) (ci := 4) (v := .int (nI (tN (Rus O)))) (ty := .int) (C := RX4) (T := TX4) (N := 3) hx hb hts hin4 tyX4 tyX4_ok nmX4 hown hK hP hD hS 0 rfl rfl 2 (by decide) lk23 (fun _ h9 => h9) rfl (by decide +kernel) rfl rfl (Nat.le_of_ble_eq_true rfl) dX4_copy_13 (fun H locs hP hD hS => ?_)
    have hP : va_P (dC, dI) vwCl ((rW a cI 9 72 ((Rce R, nI (tN (Rus O))))) ++ (rW b cI 9 72 O)) H := hP
    have hD : va_D A ((rW a cI 9 72 ((Rce R, nI (tN (Rus O))))) ++ (rW b cI 9 72 O)) := hD
    refine lv_aload_n hx hb dX4_copy_16 rfl (lv_at hl 1 rfl) ?_
    refine va_get (D := (dC, dI)) (ci := 4) (v := .ref (b 1)) (C := RX4) (T := TX4) (N := 3) hx hb hts hin4 hown hK hP 2 rfl rfl 1 (by decide) lk19 (fun _ h9 => h9) rfl dX4_copy_17 ?_
    refine lv_iconst (v := nI 0) hx hb dX4_copy_20 (by decide) ?_
    refine lv_aload_n hx hb dX4_copy_21 rfl (lv_at hl 0 rfl) ?_
    refine va_get (D := (dC, dI)) (ci := 4) (v := .ref (a 1)) (C := RX4) (T := TX4) (N := 3) hx hb hts hin4 hown hK hP 0 rfl rfl 1 (by decide) lk19 (fun _ h9 => h9) rfl dX4_copy_22 ?_
    refine lv_iconst (v := nI 0) hx hb dX4_copy_25 (by decide) ?_
    refine lv_aload_n hx hb dX4_copy_26 rfl (lv_at hl 0 rfl) ?_
    refine va_get (D := (dC, dI)) (ci := 4) (v := .int (nI (tN (Rus O)))) (C := RX4) (T := TX4) (N := 3) hx hb hts hin4 hown hK hP 0 rfl rfl 2 (by decide) lk23 (fun _ h9 => h9) rfl dX4_copy_27 ?_
    refine qv_cpy (ws' := (rW a cI 9 72 ((va_cpy (Rce O) (Rce R) 0 0 (tN (Rus O)), nI (tN (Rus O))))) ++ (rW b cI 9 72 O)) hx hb (hml.trans hl.1.symm) hown (hts (.methodLink RX4 26 arraycopyName) (by decide +kernel)) (hts (.native arraycopyName) (by decide +kernel)) (hts (.static arraycopyName) (by decide +kernel)) (hts (.initialized "java/lang/System") (by decide +kernel)) hK hP hD hS 3 1 0 rfl rfl rfl (by omega) (by omega) (by decide) (by decide) (Nat.le_of_ble_eq_true rfl) (Nat.le_of_ble_eq_true rfl) dX4_copy_30 rfl (fun H locs hP hD hS => ?_)
    have hP9 : va_P (dC, dI) vwCl ((rW a cI 9 72 ((va_cpy (Rce O) (Rce R) 0 0 (tN (Rus O)), nI (tN (Rus O))))) ++ (rW b cI 9 72 O)) H := hP
    exact W.vret hx hb hr (fun t ht hW => ⟨⟨((va_cpy (Rce O) (Rce R) 0 0 (tN (Rus O)), nI (tN (Rus O)))), rfl, hO.symm.trans hF, by rw [ht]; exact hP9, va_K.moved hW.alike hK, hD⟩, hS.F ht⟩) hS.2.2 dX4_copy_33
def F_X4_digestFrom_v9_L2 : Nat → (rS) → (Nat) → (Int64) → (Nat) × (Int64)
  | 0, _, k, h1 => (k, h1)
  | n_2 + 1, R, k, h1 => if tN (Rus R) ≤ k then (k, h1) else F_X4_digestFrom_v9_L2 n_2 R (k + 1) ((31 * h1) + (((Rce R) k).toInt64))
def F_X4_digestFrom_v9 (R : rS) (h : Int64) : Int64 := let2 (F_X4_digestFrom_v9_L2 73 R 0 h) (fun k h1 => h1)
set_option maxHeartbeats 4000000 in
set_option maxRecDepth 100000 in
theorem c_X4_digestFrom_v9 (l : Launch) (dC : Nat → ClassId) (dI : Nat → Nat → Nat) (a : Nat → Nat) (cI : ClassId) (sz : Nat) (R : rS) (h : Int64) (pu : inB (Rus R) 72) : Met l yX4_digestFrom wsX4_digestFrom { frames := 0, cells := 0, slots := 0, locals := 0 } (xPc (dC, dI) vwCl (xT cI) (rW a cI 9 72 R) sz [.ref (a 0), .long h]) (va_Ql (fun (r : Int64) (u : Unit) => F_X4_digestFrom_v9 R h = r) (mB (dC, dI) vwCl (xT cI) (va_A (rW a cI 9 72 R) sz) (fun u => rW a cI 9 72 R)) (va_A (rW a cI 9 72 R) sz)) 0 0 (va_A (rW a cI 9 72 R) sz) := by
  refine Met.ofW (cc := cX4_digestFrom) (maxL := 4) (ret := (some .long)) (by decide) rfl ?_
  intro p e s m args below meth c s₁ B hml hv
  obtain ⟨rfl, hsz, hP, hK, hD0, hN⟩ := hv
  have hx := B.exec
  have hb := B.bytes
  have hr := B.returns
  have hts := atoms_spec (ws := wsX4_digestFrom) B.pre
  have hown : s.vm.findClass RX4 = some m.cls := findClass_of_methodNamed B.named
  have hlocks := B.notSynchronized
  subst hsz
  have hD := hD0.self (sz := s.heap.size)
  generalize hAe : va_A (rW a cI 9 72 R) s.heap.size = A at hD ⊢
  have hA : ∀ q : Nat, s.heap.size ≤ q → A q := fun q h => by rw [← hAe]; exact Or.inr h
  have hS : va_S A s.heap s.heap [] := va_S.rf
  have hin4 : ∀ w ∈ wsX40, w ∈ wsX4_digestFrom := by decide +kernel
  have lk19 := hts (.fieldLink RX4 19 "PostRounders$Rows" "cells" "[I") (by decide +kernel)
  have lk23 := hts (.fieldLink RX4 23 "PostRounders$Rows" "used" "I") (by decide +kernel)
  have hl := lv_entry ([.ref (a 0), .long h]) (n := 4) (Nat.le_of_ble_eq_true rfl)
  rw [lg_entry_eq]
  generalize (lg_sl ([.ref (a 0), .long h]) ++ List.replicate (4 - (lg_sl ([.ref (a 0), .long h])).length) Slot.unset).toArray = ls at hl ⊢
  have hl : lv_has ls 4 [(0, .ref (a 0)), (1, .long h)] := hl
  obtain ⟨OUT, hO⟩ : ∃ z, z = F_X4_digestFrom_v9 R h := ⟨_, rfl⟩
  have hF := hO
  unfold F_X4_digestFrom_v9 at hF
  have e_pu := tN_eq pu.1
  have b_pu := pu.2
  refine lv_iconst (v := nI 0) hx hb dX4_digestFrom_0 (by decide) ?_
  refine lv_istore_n (lv' := [(3, .int (nI 0)), (0, .ref (a 0)), (1, .long h)]) hx hb dX4_digestFrom_1 rfl hl (by decide) rfl (fun ls hl => ?_)
  have L_2 : ∀ (n_2 : Nat) (k : Nat) (h1 : Int64) (H : Heap) (locs : List Loc), k ≤ tN (Rus R) → tN (Rus R) - k < n_2 → va_P (dC, dI) vwCl (rW a cI 9 72 R) H → va_D A (rW a cI 9 72 R) → va_S A s.heap H locs → ∀ (ls : Array Slot), lv_has ls 4 [(3, .int (nI k)), (0, .ref (a 0)), (1, .long h1)] → OUT = let2 (F_X4_digestFrom_v9_L2 n_2 R k h1) (fun k h1 => h1) → W p l e (headSpec wsX4_digestFrom { frames := 0, cells := 0, slots := 0, locals := 0 }).room s m ([.ref (a 0), .long h] : List Value).toArray below meth c H locs 0 0 (MQ below (va_Ql (fun (r : Int64) (u : Unit) => F_X4_digestFrom_v9 R h = r) (mB (dC, dI) vwCl (xT cI) A (fun u => rW a cI 9 72 R)) A) ([.ref (a 0), .long h] : List Value).toArray s 0 0 A) (F0 m 2 ls []) := by
    intro n_2
    induction n_2 with
    | zero => intro k h1 H locs i0 hmu; exact absurd hmu (Nat.not_lt_zero _)
    | succ n_2 ih_2 =>
      intro k h1 H locs i0 hmu_2 hP hD hS ls hl hF
      rw [F_X4_digestFrom_v9_L2] at hF
      refine lv_iload_n hx hb dX4_digestFrom_2 rfl (lv_at hl 0 rfl) ?_
      refine lv_aload_n hx hb dX4_digestFrom_3 rfl (lv_at hl 1 rfl) ?_
      refine va_get (D := (dC, dI)) (ci := 4) (v := .int (Rus R)) (C := RX4) (T := TX4) (N := 3) hx hb hts hin4 hown hK hP 0 rfl rfl 2 (by decide) lk23 (fun _ h9 => h9) rfl dX4_digestFrom_4 ?_
      refine qv_top (e_pu) ?_
      refine qv_icmp_ge (tgt := 30) hx hb dX4_digestFrom_7 (by decide) (by omega) (by omega) (fun c_7 => ?_) (fun c_7 => ?_)
      · rw [if_pos c_7] at hF
        rw [let2_mk (k : Nat) (h1 : Int64)] at hF
        refine lv_lload_n hx hb dX4_digestFrom_30 rfl (lv_at hl 2 rfl) ?_
        have hP9 : va_P (dC, dI) vwCl (rW a cI 9 72 R) H := hP
        exact W.lret (v := h1) hx hb hr (fun t ht hW => ⟨⟨_, (()), rfl, hO.symm.trans hF, by rw [ht]; exact hP9, va_K.moved hW.alike hK, hD⟩, hS.F ht⟩) hS.2.2 dX4_digestFrom_31
      · rw [if_neg c_7] at hF
        refine lv_ldc2 (v := 31) hx hb hown (hts (.constantLong RX4 35 31) (by decide +kernel)) dX4_digestFrom_10 ?_
        refine lv_lload_n hx hb dX4_digestFrom_13 rfl (lv_at hl 2 rfl) ?_
        refine lv_lmul hx hb dX4_digestFrom_14 ?_
        refine lv_aload_n hx hb dX4_digestFrom_15 rfl (lv_at hl 1 rfl) ?_
        refine va_get (D := (dC, dI)) (ci := 4) (v := .ref (a 1)) (C := RX4) (T := TX4) (N := 3) hx hb hts hin4 hown hK hP 0 rfl rfl 1 (by decide) lk19 (fun _ h9 => h9) rfl dX4_digestFrom_16 ?_
        refine lv_iload_n hx hb dX4_digestFrom_19 rfl (lv_at hl 0 rfl) ?_
        refine qv_ald (v := (Rce R) k) hx hb hK hP 1 0 rfl rfl (by omega) (by decide) (rfl) dX4_digestFrom_20 ?_
        refine lv_i2l hx hb dX4_digestFrom_21 rfl ?_
        refine lv_ladd hx hb dX4_digestFrom_22 ?_
        refine lv_lstore_n (lv' := [(1, .long ((31 * h1) + (((Rce R) k).toInt64))), (3, .int (nI k)), (0, .ref (a 0))]) hx hb dX4_digestFrom_23 rfl hl (by decide) rfl (fun ls hl => ?_)
        refine lv_iinc (v := nI (k + 1)) (lv' := [(3, .int (nI (k + 1))), (1, .long ((31 * h1) + (((Rce R) k).toInt64))), (0, .ref (a 0))]) hx hb dX4_digestFrom_24 hl (k := 1) rfl (qn_inc (c := 1) rfl (by omega)) (by decide) rfl (fun ls hl => ?_)
        refine lv_goto (tgt := 2) hx hb dX4_digestFrom_27 (by decide) ?_
        exact ih_2 (k + 1) ((31 * h1) + (((Rce R) k).toInt64)) H locs (by omega) (by omega) hP hD hS ls (lv_sub hl [0, 2, 1] rfl) hF
  exact L_2 73 0 h s.heap [] (by omega) (by omega) hP hD hS ls (lv_sub hl [0, 1, 2] rfl) hF
theorem put_at9 {R R' : rS} {v : Int32} (e : F_X4_put_v9 R v = R') (h : inB (Rus R) 72) : inB (Rus R') 72 := by
  rw [← e]; unfold F_X4_put_v9
  split
  · exact h
  · exact inB_nI (by omega) (by decide)
theorem dropFirst_at9 {R R' : rS} (e : F_X4_dropFirst_v9 R = R') (h : inB (Rus R) 72) : inB (Rus R') 72 := by
  rw [← e]; unfold F_X4_dropFirst_v9
  have := h.2
  split
  · exact h
  · exact inB_nI (by omega) (by decide)
def F_X1_begin (P : pS) (Rw : Nat → Int32) (No : rS) (Ma : rS) (Pa : rS) (b : Int32) : (pS) × (Nat → Int32) × (rS) × (rS) × (rS) := let1 (F_X2_begin P b) (fun P_5 => let1 (F_J7_fill_53178_v8 Rw (nI 5)) (fun Rw_13 => let1 (F_X4_empty_v3 No) (fun No_20 => let1 (F_X4_empty_v4 Ma) (fun Ma_27 => let1 (F_X4_empty_v9 Pa) (fun Pa_34 => (P_5, Rw_13, No_20, Ma_27, Pa_34))))))
set_option maxHeartbeats 4000000 in
set_option maxRecDepth 100000 in
theorem c_X1_begin (l : Launch) (dC : Nat → ClassId) (dI : Nat → Nat → Nat) (a : Nat → Nat) (cI : ClassId) (sz : Nat) (P : pS) (Rw : Nat → Int32) (No : rS) (Ma : rS) (Pa : rS) (b : Int32) : Met l yX1_begin wsX1_begin { frames := 1, cells := 0, slots := 0, locals := 23 } (xPc (dC, dI) vwCl (xT cI) ((fO a) ++ (pW ((fun i => a (1 + i))) cI P) ++ ([(a 5, .inl (cI, 8, .inl Rw))]) ++ (rW ((fun i => a (6 + i))) cI 3 18 No) ++ (rW ((fun i => a (8 + i))) cI 4 24 Ma) ++ (rW ((fun i => a (10 + i))) cI 9 72 Pa)) sz [.ref (a 0), .int b]) (va_Qv (fun (u : (pS) × (Nat → Int32) × (rS) × (rS) × (rS)) => F_X1_begin P Rw No Ma Pa b = u) (mB (dC, dI) vwCl (xT cI) (va_A ((fO a) ++ (pW ((fun i => a (1 + i))) cI P) ++ ([(a 5, .inl (cI, 8, .inl Rw))]) ++ (rW ((fun i => a (6 + i))) cI 3 18 No) ++ (rW ((fun i => a (8 + i))) cI 4 24 Ma) ++ (rW ((fun i => a (10 + i))) cI 9 72 Pa)) sz) (fun u => (fO a) ++ (pW ((fun i => a (1 + i))) cI (u.1)) ++ ([(a 5, .inl (cI, 8, .inl (u.2.1)))]) ++ (rW ((fun i => a (6 + i))) cI 3 18 (u.2.2.1)) ++ (rW ((fun i => a (8 + i))) cI 4 24 (u.2.2.2.1)) ++ (rW ((fun i => a (10 + i))) cI 9 72 (u.2.2.2.2)))) (va_A ((fO a) ++ (pW ((fun i => a (1 + i))) cI P) ++ ([(a 5, .inl (cI, 8, .inl Rw))]) ++ (rW ((fun i => a (6 + i))) cI 3 18 No) ++ (rW ((fun i => a (8 + i))) cI 4 24 Ma) ++ (rW ((fun i => a (10 + i))) cI 9 72 Pa)) sz)) 0 0 (va_A ((fO a) ++ (pW ((fun i => a (1 + i))) cI P) ++ ([(a 5, .inl (cI, 8, .inl Rw))]) ++ (rW ((fun i => a (6 + i))) cI 3 18 No) ++ (rW ((fun i => a (8 + i))) cI 4 24 Ma) ++ (rW ((fun i => a (10 + i))) cI 9 72 Pa)) sz) := by
  refine Met.ofW (cc := cX1_begin) (maxL := 2) (ret := none) (by decide) rfl ?_
  intro p e s m args below meth c s₁ B hml hv
  obtain ⟨rfl, hsz, hP, hK, hD0, hN⟩ := hv
  have hx := B.exec
  have hb := B.bytes
  have hr := B.returns
  have hts := atoms_spec (ws := wsX1_begin) B.pre
  have hown : s.vm.findClass RX1 = some m.cls := findClass_of_methodNamed B.named
  have hlocks := B.notSynchronized
  subst hsz
  have hD := hD0.self (sz := s.heap.size)
  generalize hAe : va_A ((fO a) ++ (pW ((fun i => a (1 + i))) cI P) ++ ([(a 5, .inl (cI, 8, .inl Rw))]) ++ (rW ((fun i => a (6 + i))) cI 3 18 No) ++ (rW ((fun i => a (8 + i))) cI 4 24 Ma) ++ (rW ((fun i => a (10 + i))) cI 9 72 Pa)) s.heap.size = A at hD ⊢
  have hA : ∀ q : Nat, s.heap.size ≤ q → A q := fun q h => by rw [← hAe]; exact Or.inr h
  have hS : va_S A s.heap s.heap [] := va_S.rf
  have hin1 : ∀ w ∈ wsX10, w ∈ wsX1_begin := by decide +kernel
  have lk12 := hts (.fieldLink RX1 12 "PostRounders$Field" "play" "LPostRounders$Play;") (by decide +kernel)
  have lk18 := hts (.fieldLink RX1 18 "PostRounders$Field" "rowHits" "[I") (by decide +kernel)
  have lk27 := hts (.fieldLink RX1 27 "PostRounders$Field" "notes" "LPostRounders$Rows;") (by decide +kernel)
  have lk31 := hts (.fieldLink RX1 31 "PostRounders$Field" "marks" "LPostRounders$Rows;") (by decide +kernel)
  have lk34 := hts (.fieldLink RX1 34 "PostRounders$Field" "past" "LPostRounders$Rows;") (by decide +kernel)
  have hl := lv_entry ([.ref (a 0), .int b]) (n := 2) (Nat.le_of_ble_eq_true rfl)
  rw [lg_entry_eq]
  generalize (lg_sl ([.ref (a 0), .int b]) ++ List.replicate (2 - (lg_sl ([.ref (a 0), .int b])).length) Slot.unset).toArray = ls at hl ⊢
  have hl : lv_has ls 2 [(0, .ref (a 0)), (1, .int b)] := hl
  obtain ⟨OUT, hO⟩ : ∃ z, z = F_X1_begin P Rw No Ma Pa b := ⟨_, rfl⟩
  have hF := hO
  unfold F_X1_begin at hF
  refine lv_aload_n hx hb dX1_begin_0 rfl (lv_at hl 0 rfl) ?_
  refine va_get (D := (dC, dI)) (ci := 1) (v := .ref (a 1)) (C := RX1) (T := TX1) (N := 5) hx hb hts hin1 hown hK hP 0 rfl rfl 0 (by decide) lk12 (fun _ h9 => h9) rfl dX1_begin_1 ?_
  refine lv_iload_n hx hb dX1_begin_4 rfl (lv_at hl 1 rfl) ?_
  refine qx_Vv (C := RX2) (As := [.int b]) (rest := []) (ci := 2) (k0 := 1) (wr := (fO a) ++ ([(a 5, .inl (cI, 8, .inl Rw))]) ++ (rW ((fun i => a (6 + i))) cI 3 18 No) ++ (rW ((fun i => a (8 + i))) cI 4 24 Ma) ++ (rW ((fun i => a (10 + i))) cI 9 72 Pa)) (ws2 := fun u => (fO a) ++ (pW ((fun i => a (1 + i))) cI u) ++ ([(a 5, .inl (cI, 8, .inl Rw))]) ++ (rW ((fun i => a (6 + i))) cI 3 18 No) ++ (rW ((fun i => a (8 + i))) cI 4 24 Ma) ++ (rW ((fun i => a (10 + i))) cI 9 72 Pa)) [1, 2, 3, 4] [0, 5, 6, 7, 8, 9, 10, 11] [0, 8, 9, 10, 11, 1, 2, 3, 4, 5, 6, 7] ⟨hx, hb, hml, hown, hts⟩ (c_X2_begin l dC dI (fun i => a (1 + i)) cI s.heap.size P b ) (cwV 1 hts gX1_begin_X2_begin rfl rfl rfl (by decide +kernel) ⟨Nat.le_of_ble_eq_true rfl, Nat.le_of_ble_eq_true rfl⟩) (hK.sub [0] rfl) hK hP hD hS hA hN rfl rfl (by decide) (by decide) (by decide) (by decide) (fun _ => rfl) rfl rfl rfl rfl hl.1 rfl (Nat.le_of_ble_eq_true rfl) dX1_begin_5 ⟨Nat.zero_le _, Nat.zero_le _⟩ (fun u_5 H locs hw_5 hP hD hS => ?_)
  obtain ⟨P_5, rfl⟩ : ∃ z, z = u_5 := ⟨_, rfl⟩
  have hP : va_P (dC, dI) vwCl ((fO a) ++ (pW ((fun i => a (1 + i))) cI P_5) ++ ([(a 5, .inl (cI, 8, .inl Rw))]) ++ (rW ((fun i => a (6 + i))) cI 3 18 No) ++ (rW ((fun i => a (8 + i))) cI 4 24 Ma) ++ (rW ((fun i => a (10 + i))) cI 9 72 Pa)) H := hP
  have hD : va_D A ((fO a) ++ (pW ((fun i => a (1 + i))) cI P_5) ++ ([(a 5, .inl (cI, 8, .inl Rw))]) ++ (rW ((fun i => a (6 + i))) cI 3 18 No) ++ (rW ((fun i => a (8 + i))) cI 4 24 Ma) ++ (rW ((fun i => a (10 + i))) cI 9 72 Pa)) := hD
  rw [hw_5, let1_mk P_5] at hF
  refine lv_aload_n hx hb dX1_begin_8 rfl (lv_at hl 0 rfl) ?_
  refine va_get (D := (dC, dI)) (ci := 1) (v := .ref (a 5)) (C := RX1) (T := TX1) (N := 5) hx hb hts hin1 hown hK hP 0 rfl rfl 1 (by decide) lk18 (fun _ h9 => h9) rfl dX1_begin_9 ?_
  refine lv_iconst (v := nI 5) hx hb dX1_begin_12 (by decide) ?_
  refine qx_Sv (As := [.ref (a 5), .int (nI 5)]) (rest := []) (wr := (fO a) ++ (pW ((fun i => a (1 + i))) cI P_5) ++ (rW ((fun i => a (6 + i))) cI 3 18 No) ++ (rW ((fun i => a (8 + i))) cI 4 24 Ma) ++ (rW ((fun i => a (10 + i))) cI 9 72 Pa)) (ws2 := fun u => (fO a) ++ (pW ((fun i => a (1 + i))) cI P_5) ++ ([(a 5, .inl (cI, 8, .inl u))]) ++ (rW ((fun i => a (6 + i))) cI 3 18 No) ++ (rW ((fun i => a (8 + i))) cI 4 24 Ma) ++ (rW ((fun i => a (10 + i))) cI 9 72 Pa)) [5] [0, 1, 2, 3, 4, 6, 7, 8, 9, 10, 11] [0, 1, 2, 3, 4, 11, 5, 6, 7, 8, 9, 10] ⟨hx, hb, hml, hown, hts⟩ (c_J7_fill_53178_v8 l dC dI (a 5) cI H.size Rw (nI 5) ) (va_cwS 2 hts gX1_begin_J7_fill_53178 rfl rfl rfl (by decide +kernel) ⟨Nat.le_of_ble_eq_true rfl, Nat.le_of_ble_eq_true rfl⟩) (hK.sub [0] rfl) hK hP hD hS hA hN rfl rfl (by decide) (by decide) (by decide) (by decide) (fun _ => rfl) rfl hl.1 rfl (Nat.le_of_ble_eq_true rfl) dX1_begin_13 ⟨Nat.zero_le _, Nat.zero_le _⟩ (fun u_13 H locs hw_13 hP hD hS => ?_)
  obtain ⟨Rw_13, rfl⟩ : ∃ z, z = u_13 := ⟨_, rfl⟩
  have hP : va_P (dC, dI) vwCl ((fO a) ++ (pW ((fun i => a (1 + i))) cI P_5) ++ ([(a 5, .inl (cI, 8, .inl Rw_13))]) ++ (rW ((fun i => a (6 + i))) cI 3 18 No) ++ (rW ((fun i => a (8 + i))) cI 4 24 Ma) ++ (rW ((fun i => a (10 + i))) cI 9 72 Pa)) H := hP
  have hD : va_D A ((fO a) ++ (pW ((fun i => a (1 + i))) cI P_5) ++ ([(a 5, .inl (cI, 8, .inl Rw_13))]) ++ (rW ((fun i => a (6 + i))) cI 3 18 No) ++ (rW ((fun i => a (8 + i))) cI 4 24 Ma) ++ (rW ((fun i => a (10 + i))) cI 9 72 Pa)) := hD
  rw [hw_13, let1_mk Rw_13] at hF
  refine lv_aload_n hx hb dX1_begin_16 rfl (lv_at hl 0 rfl) ?_
  refine va_get (D := (dC, dI)) (ci := 1) (v := .ref (a 6)) (C := RX1) (T := TX1) (N := 5) hx hb hts hin1 hown hK hP 0 rfl rfl 2 (by decide) lk27 (fun _ h9 => h9) rfl dX1_begin_17 ?_
  refine qx_Vv (C := RX4) (As := []) (rest := []) (ci := 4) (k0 := 6) (wr := (fO a) ++ (pW ((fun i => a (1 + i))) cI P_5) ++ ([(a 5, .inl (cI, 8, .inl Rw_13))]) ++ (rW ((fun i => a (8 + i))) cI 4 24 Ma) ++ (rW ((fun i => a (10 + i))) cI 9 72 Pa)) (ws2 := fun u => (fO a) ++ (pW ((fun i => a (1 + i))) cI P_5) ++ ([(a 5, .inl (cI, 8, .inl Rw_13))]) ++ (rW ((fun i => a (6 + i))) cI 3 18 u) ++ (rW ((fun i => a (8 + i))) cI 4 24 Ma) ++ (rW ((fun i => a (10 + i))) cI 9 72 Pa)) [6, 7] [0, 1, 2, 3, 4, 5, 8, 9, 10, 11] [0, 1, 2, 3, 4, 5, 10, 11, 6, 7, 8, 9] ⟨hx, hb, hml, hown, hts⟩ (c_X4_empty_v3 l dC dI (fun i => a (6 + i)) cI H.size No  ) (cwV 0 hts gX1_begin_X4_empty rfl rfl rfl (by decide +kernel) ⟨Nat.le_of_ble_eq_true rfl, Nat.le_of_ble_eq_true rfl⟩) (hK.sub [0] rfl) hK hP hD hS hA hN rfl rfl (by decide) (by decide) (by decide) (by decide) (fun _ => rfl) rfl rfl rfl rfl hl.1 rfl (Nat.le_of_ble_eq_true rfl) dX1_begin_20 ⟨Nat.zero_le _, Nat.zero_le _⟩ (fun u_20 H locs hw_20 hP hD hS => ?_)
  obtain ⟨No_20, rfl⟩ : ∃ z, z = u_20 := ⟨_, rfl⟩
  have hP : va_P (dC, dI) vwCl ((fO a) ++ (pW ((fun i => a (1 + i))) cI P_5) ++ ([(a 5, .inl (cI, 8, .inl Rw_13))]) ++ (rW ((fun i => a (6 + i))) cI 3 18 No_20) ++ (rW ((fun i => a (8 + i))) cI 4 24 Ma) ++ (rW ((fun i => a (10 + i))) cI 9 72 Pa)) H := hP
  have hD : va_D A ((fO a) ++ (pW ((fun i => a (1 + i))) cI P_5) ++ ([(a 5, .inl (cI, 8, .inl Rw_13))]) ++ (rW ((fun i => a (6 + i))) cI 3 18 No_20) ++ (rW ((fun i => a (8 + i))) cI 4 24 Ma) ++ (rW ((fun i => a (10 + i))) cI 9 72 Pa)) := hD
  rw [hw_20, let1_mk No_20] at hF
  refine lv_aload_n hx hb dX1_begin_23 rfl (lv_at hl 0 rfl) ?_
  refine va_get (D := (dC, dI)) (ci := 1) (v := .ref (a 8)) (C := RX1) (T := TX1) (N := 5) hx hb hts hin1 hown hK hP 0 rfl rfl 3 (by decide) lk31 (fun _ h9 => h9) rfl dX1_begin_24 ?_
  refine qx_Vv (C := RX4) (As := []) (rest := []) (ci := 4) (k0 := 8) (wr := (fO a) ++ (pW ((fun i => a (1 + i))) cI P_5) ++ ([(a 5, .inl (cI, 8, .inl Rw_13))]) ++ (rW ((fun i => a (6 + i))) cI 3 18 No_20) ++ (rW ((fun i => a (10 + i))) cI 9 72 Pa)) (ws2 := fun u => (fO a) ++ (pW ((fun i => a (1 + i))) cI P_5) ++ ([(a 5, .inl (cI, 8, .inl Rw_13))]) ++ (rW ((fun i => a (6 + i))) cI 3 18 No_20) ++ (rW ((fun i => a (8 + i))) cI 4 24 u) ++ (rW ((fun i => a (10 + i))) cI 9 72 Pa)) [8, 9] [0, 1, 2, 3, 4, 5, 6, 7, 10, 11] [0, 1, 2, 3, 4, 5, 6, 7, 10, 11, 8, 9] ⟨hx, hb, hml, hown, hts⟩ (c_X4_empty_v4 l dC dI (fun i => a (8 + i)) cI H.size Ma  ) (cwV 0 hts gX1_begin_X4_empty rfl rfl rfl (by decide +kernel) ⟨Nat.le_of_ble_eq_true rfl, Nat.le_of_ble_eq_true rfl⟩) (hK.sub [0] rfl) hK hP hD hS hA hN rfl rfl (by decide) (by decide) (by decide) (by decide) (fun _ => rfl) rfl rfl rfl rfl hl.1 rfl (Nat.le_of_ble_eq_true rfl) dX1_begin_27 ⟨Nat.zero_le _, Nat.zero_le _⟩ (fun u_27 H locs hw_27 hP hD hS => ?_)
  obtain ⟨Ma_27, rfl⟩ : ∃ z, z = u_27 := ⟨_, rfl⟩
  have hP : va_P (dC, dI) vwCl ((fO a) ++ (pW ((fun i => a (1 + i))) cI P_5) ++ ([(a 5, .inl (cI, 8, .inl Rw_13))]) ++ (rW ((fun i => a (6 + i))) cI 3 18 No_20) ++ (rW ((fun i => a (8 + i))) cI 4 24 Ma_27) ++ (rW ((fun i => a (10 + i))) cI 9 72 Pa)) H := hP
  have hD : va_D A ((fO a) ++ (pW ((fun i => a (1 + i))) cI P_5) ++ ([(a 5, .inl (cI, 8, .inl Rw_13))]) ++ (rW ((fun i => a (6 + i))) cI 3 18 No_20) ++ (rW ((fun i => a (8 + i))) cI 4 24 Ma_27) ++ (rW ((fun i => a (10 + i))) cI 9 72 Pa)) := hD
  rw [hw_27, let1_mk Ma_27] at hF
  refine lv_aload_n hx hb dX1_begin_30 rfl (lv_at hl 0 rfl) ?_
  refine va_get (D := (dC, dI)) (ci := 1) (v := .ref (a 10)) (C := RX1) (T := TX1) (N := 5) hx hb hts hin1 hown hK hP 0 rfl rfl 4 (by decide) lk34 (fun _ h9 => h9) rfl dX1_begin_31 ?_
  refine qx_Vv (C := RX4) (As := []) (rest := []) (ci := 4) (k0 := 10) (wr := (fO a) ++ (pW ((fun i => a (1 + i))) cI P_5) ++ ([(a 5, .inl (cI, 8, .inl Rw_13))]) ++ (rW ((fun i => a (6 + i))) cI 3 18 No_20) ++ (rW ((fun i => a (8 + i))) cI 4 24 Ma_27)) (ws2 := fun u => (fO a) ++ (pW ((fun i => a (1 + i))) cI P_5) ++ ([(a 5, .inl (cI, 8, .inl Rw_13))]) ++ (rW ((fun i => a (6 + i))) cI 3 18 No_20) ++ (rW ((fun i => a (8 + i))) cI 4 24 Ma_27) ++ (rW ((fun i => a (10 + i))) cI 9 72 u)) [10, 11] [0, 1, 2, 3, 4, 5, 6, 7, 8, 9] [0, 1, 2, 3, 4, 5, 6, 7, 8, 9, 10, 11] ⟨hx, hb, hml, hown, hts⟩ (c_X4_empty_v9 l dC dI (fun i => a (10 + i)) cI H.size Pa  ) (cwV 0 hts gX1_begin_X4_empty rfl rfl rfl (by decide +kernel) ⟨Nat.le_of_ble_eq_true rfl, Nat.le_of_ble_eq_true rfl⟩) (hK.sub [0] rfl) hK hP hD hS hA hN rfl rfl (by decide) (by decide) (by decide) (by decide) (fun _ => rfl) rfl rfl rfl rfl hl.1 rfl (Nat.le_of_ble_eq_true rfl) dX1_begin_34 ⟨Nat.zero_le _, Nat.zero_le _⟩ (fun u_34 H locs hw_34 hP hD hS => ?_)
  obtain ⟨Pa_34, rfl⟩ : ∃ z, z = u_34 := ⟨_, rfl⟩
  have hP : va_P (dC, dI) vwCl ((fO a) ++ (pW ((fun i => a (1 + i))) cI P_5) ++ ([(a 5, .inl (cI, 8, .inl Rw_13))]) ++ (rW ((fun i => a (6 + i))) cI 3 18 No_20) ++ (rW ((fun i => a (8 + i))) cI 4 24 Ma_27) ++ (rW ((fun i => a (10 + i))) cI 9 72 Pa_34)) H := hP
  have hD : va_D A ((fO a) ++ (pW ((fun i => a (1 + i))) cI P_5) ++ ([(a 5, .inl (cI, 8, .inl Rw_13))]) ++ (rW ((fun i => a (6 + i))) cI 3 18 No_20) ++ (rW ((fun i => a (8 + i))) cI 4 24 Ma_27) ++ (rW ((fun i => a (10 + i))) cI 9 72 Pa_34)) := hD
  rw [hw_34, let1_mk Pa_34] at hF
  have hP9 : va_P (dC, dI) vwCl ((fO a) ++ (pW ((fun i => a (1 + i))) cI P_5) ++ ([(a 5, .inl (cI, 8, .inl Rw_13))]) ++ (rW ((fun i => a (6 + i))) cI 3 18 No_20) ++ (rW ((fun i => a (8 + i))) cI 4 24 Ma_27) ++ (rW ((fun i => a (10 + i))) cI 9 72 Pa_34)) H := hP
  exact W.vret hx hb hr (fun t ht hW => ⟨⟨((P_5, Rw_13, No_20, Ma_27, Pa_34)), rfl, hO.symm.trans hF, by rw [ht]; exact hP9, va_K.moved hW.alike hK, hD⟩, hS.F ht⟩) hS.2.2 dX1_begin_37
def F_X1_copy (P : pS) (Rw : Nat → Int32) (No : rS) (Ma : rS) (Pa : rS) (P2 : pS) (Rw2 : Nat → Int32) (No2 : rS) (Ma2 : rS) (Pa2 : rS) : (pS) × (Nat → Int32) × (rS) × (rS) × (rS) := let1 (F_X2_copy P P2) (fun P_8 => let1 (F_X4_copy_v3 No No2) (fun No_34 => let1 (F_X4_copy_v4 Ma Ma2) (fun Ma_45 => let1 (F_X4_copy_v9 Pa Pa2) (fun Pa_56 => (P_8, (va_cpy Rw2 Rw 0 0 8), No_34, Ma_45, Pa_56)))))
set_option maxHeartbeats 4000000 in
set_option maxRecDepth 100000 in
theorem c_X1_copy (l : Launch) (dC : Nat → ClassId) (dI : Nat → Nat → Nat) (a : Nat → Nat) (b : Nat → Nat) (cI : ClassId) (sz : Nat) (P : pS) (Rw : Nat → Int32) (No : rS) (Ma : rS) (Pa : rS) (P2 : pS) (Rw2 : Nat → Int32) (No2 : rS) (Ma2 : rS) (Pa2 : rS) (p1 : inB (Rus No2) 18) (p2 : inB (Rus Ma2) 24) (p3 : inB (Rus Pa2) 72) : Met l yX1_copy wsX1_copy { frames := 2, cells := 0, slots := 0, locals := 81 } (xPc (dC, dI) vwCl (xT cI) ((fO a) ++ (pW ((fun i => a (1 + i))) cI P) ++ ([(a 5, .inl (cI, 8, .inl Rw))]) ++ (rW ((fun i => a (6 + i))) cI 3 18 No) ++ (rW ((fun i => a (8 + i))) cI 4 24 Ma) ++ (rW ((fun i => a (10 + i))) cI 9 72 Pa) ++ (fO b) ++ (pW ((fun i => b (1 + i))) cI P2) ++ ([(b 5, .inl (cI, 8, .inl Rw2))]) ++ (rW ((fun i => b (6 + i))) cI 3 18 No2) ++ (rW ((fun i => b (8 + i))) cI 4 24 Ma2) ++ (rW ((fun i => b (10 + i))) cI 9 72 Pa2)) sz [.ref (a 0), .ref (b 0)]) (va_Qv (fun (u : (pS) × (Nat → Int32) × (rS) × (rS) × (rS)) => F_X1_copy P Rw No Ma Pa P2 Rw2 No2 Ma2 Pa2 = u) (mB (dC, dI) vwCl (xT cI) (va_A ((fO a) ++ (pW ((fun i => a (1 + i))) cI P) ++ ([(a 5, .inl (cI, 8, .inl Rw))]) ++ (rW ((fun i => a (6 + i))) cI 3 18 No) ++ (rW ((fun i => a (8 + i))) cI 4 24 Ma) ++ (rW ((fun i => a (10 + i))) cI 9 72 Pa) ++ (fO b) ++ (pW ((fun i => b (1 + i))) cI P2) ++ ([(b 5, .inl (cI, 8, .inl Rw2))]) ++ (rW ((fun i => b (6 + i))) cI 3 18 No2) ++ (rW ((fun i => b (8 + i))) cI 4 24 Ma2) ++ (rW ((fun i => b (10 + i))) cI 9 72 Pa2)) sz) (fun u => (fO a) ++ (pW ((fun i => a (1 + i))) cI (u.1)) ++ ([(a 5, .inl (cI, 8, .inl (u.2.1)))]) ++ (rW ((fun i => a (6 + i))) cI 3 18 (u.2.2.1)) ++ (rW ((fun i => a (8 + i))) cI 4 24 (u.2.2.2.1)) ++ (rW ((fun i => a (10 + i))) cI 9 72 (u.2.2.2.2)) ++ (fO b) ++ (pW ((fun i => b (1 + i))) cI P2) ++ ([(b 5, .inl (cI, 8, .inl Rw2))]) ++ (rW ((fun i => b (6 + i))) cI 3 18 No2) ++ (rW ((fun i => b (8 + i))) cI 4 24 Ma2) ++ (rW ((fun i => b (10 + i))) cI 9 72 Pa2))) (va_A ((fO a) ++ (pW ((fun i => a (1 + i))) cI P) ++ ([(a 5, .inl (cI, 8, .inl Rw))]) ++ (rW ((fun i => a (6 + i))) cI 3 18 No) ++ (rW ((fun i => a (8 + i))) cI 4 24 Ma) ++ (rW ((fun i => a (10 + i))) cI 9 72 Pa) ++ (fO b) ++ (pW ((fun i => b (1 + i))) cI P2) ++ ([(b 5, .inl (cI, 8, .inl Rw2))]) ++ (rW ((fun i => b (6 + i))) cI 3 18 No2) ++ (rW ((fun i => b (8 + i))) cI 4 24 Ma2) ++ (rW ((fun i => b (10 + i))) cI 9 72 Pa2)) sz)) 0 0 (va_A ((fO a) ++ (pW ((fun i => a (1 + i))) cI P) ++ ([(a 5, .inl (cI, 8, .inl Rw))]) ++ (rW ((fun i => a (6 + i))) cI 3 18 No) ++ (rW ((fun i => a (8 + i))) cI 4 24 Ma) ++ (rW ((fun i => a (10 + i))) cI 9 72 Pa) ++ (fO b) ++ (pW ((fun i => b (1 + i))) cI P2) ++ ([(b 5, .inl (cI, 8, .inl Rw2))]) ++ (rW ((fun i => b (6 + i))) cI 3 18 No2) ++ (rW ((fun i => b (8 + i))) cI 4 24 Ma2) ++ (rW ((fun i => b (10 + i))) cI 9 72 Pa2)) sz) := by
  refine Met.ofW (cc := cX1_copy) (maxL := 2) (ret := none) (by decide) rfl ?_
  intro p e s m args below meth c s₁ B hml hv
  obtain ⟨rfl, hsz, hP, hK, hD0, hN⟩ := hv
  have hx := B.exec
  have hb := B.bytes
  have hr := B.returns
  have hts := atoms_spec (ws := wsX1_copy) B.pre
  have hown : s.vm.findClass RX1 = some m.cls := findClass_of_methodNamed B.named
  have hlocks := B.notSynchronized
  subst hsz
  have hD := hD0.self (sz := s.heap.size)
  generalize hAe : va_A ((fO a) ++ (pW ((fun i => a (1 + i))) cI P) ++ ([(a 5, .inl (cI, 8, .inl Rw))]) ++ (rW ((fun i => a (6 + i))) cI 3 18 No) ++ (rW ((fun i => a (8 + i))) cI 4 24 Ma) ++ (rW ((fun i => a (10 + i))) cI 9 72 Pa) ++ (fO b) ++ (pW ((fun i => b (1 + i))) cI P2) ++ ([(b 5, .inl (cI, 8, .inl Rw2))]) ++ (rW ((fun i => b (6 + i))) cI 3 18 No2) ++ (rW ((fun i => b (8 + i))) cI 4 24 Ma2) ++ (rW ((fun i => b (10 + i))) cI 9 72 Pa2)) s.heap.size = A at hD ⊢
  have hA : ∀ q : Nat, s.heap.size ≤ q → A q := fun q h => by rw [← hAe]; exact Or.inr h
  have hS : va_S A s.heap s.heap [] := va_S.rf
  have hin1 : ∀ w ∈ wsX10, w ∈ wsX1_copy := by decide +kernel
  have lk12 := hts (.fieldLink RX1 12 "PostRounders$Field" "play" "LPostRounders$Play;") (by decide +kernel)
  have lk18 := hts (.fieldLink RX1 18 "PostRounders$Field" "rowHits" "[I") (by decide +kernel)
  have lk27 := hts (.fieldLink RX1 27 "PostRounders$Field" "notes" "LPostRounders$Rows;") (by decide +kernel)
  have lk31 := hts (.fieldLink RX1 31 "PostRounders$Field" "marks" "LPostRounders$Rows;") (by decide +kernel)
  have lk34 := hts (.fieldLink RX1 34 "PostRounders$Field" "past" "LPostRounders$Rows;") (by decide +kernel)
  have hl := lv_entry ([.ref (a 0), .ref (b 0)]) (n := 2) (Nat.le_of_ble_eq_true rfl)
  rw [lg_entry_eq]
  generalize (lg_sl ([.ref (a 0), .ref (b 0)]) ++ List.replicate (2 - (lg_sl ([.ref (a 0), .ref (b 0)])).length) Slot.unset).toArray = ls at hl ⊢
  have hl : lv_has ls 2 [(0, .ref (a 0)), (1, .ref (b 0))] := hl
  obtain ⟨OUT, hO⟩ : ∃ z, z = F_X1_copy P Rw No Ma Pa P2 Rw2 No2 Ma2 Pa2 := ⟨_, rfl⟩
  have hF := hO
  unfold F_X1_copy at hF
  have e_p1 := tN_eq p1.1
  have b_p1 := p1.2
  have e_p2 := tN_eq p2.1
  have b_p2 := p2.2
  have e_p3 := tN_eq p3.1
  have b_p3 := p3.2
  refine lv_aload_n hx hb dX1_copy_0 rfl (lv_at hl 0 rfl) ?_
  refine va_get (D := (dC, dI)) (ci := 1) (v := .ref (a 1)) (C := RX1) (T := TX1) (N := 5) hx hb hts hin1 hown hK hP 0 rfl rfl 0 (by decide) lk12 (fun _ h9 => h9) rfl dX1_copy_1 ?_
  refine lv_aload_n hx hb dX1_copy_4 rfl (lv_at hl 1 rfl) ?_
  refine va_get (D := (dC, dI)) (ci := 1) (v := .ref (b 1)) (C := RX1) (T := TX1) (N := 5) hx hb hts hin1 hown hK hP 12 rfl rfl 0 (by decide) lk12 (fun _ h9 => h9) rfl dX1_copy_5 ?_
  refine qx_Vv (C := RX2) (As := [.ref (b 1)]) (rest := []) (ci := 2) (k0 := 1) (wr := (fO a) ++ ([(a 5, .inl (cI, 8, .inl Rw))]) ++ (rW ((fun i => a (6 + i))) cI 3 18 No) ++ (rW ((fun i => a (8 + i))) cI 4 24 Ma) ++ (rW ((fun i => a (10 + i))) cI 9 72 Pa) ++ (fO b) ++ ([(b 5, .inl (cI, 8, .inl Rw2))]) ++ (rW ((fun i => b (6 + i))) cI 3 18 No2) ++ (rW ((fun i => b (8 + i))) cI 4 24 Ma2) ++ (rW ((fun i => b (10 + i))) cI 9 72 Pa2)) (ws2 := fun u => (fO a) ++ (pW ((fun i => a (1 + i))) cI u) ++ ([(a 5, .inl (cI, 8, .inl Rw))]) ++ (rW ((fun i => a (6 + i))) cI 3 18 No) ++ (rW ((fun i => a (8 + i))) cI 4 24 Ma) ++ (rW ((fun i => a (10 + i))) cI 9 72 Pa) ++ (fO b) ++ (pW ((fun i => b (1 + i))) cI P2) ++ ([(b 5, .inl (cI, 8, .inl Rw2))]) ++ (rW ((fun i => b (6 + i))) cI 3 18 No2) ++ (rW ((fun i => b (8 + i))) cI 4 24 Ma2) ++ (rW ((fun i => b (10 + i))) cI 9 72 Pa2)) [1, 2, 3, 4, 13, 14, 15, 16] [0, 5, 6, 7, 8, 9, 10, 11, 12, 17, 18, 19, 20, 21, 22, 23] [0, 16, 17, 18, 19, 1, 2, 3, 4, 5, 6, 7, 8, 20, 21, 22, 23, 9, 10, 11, 12, 13, 14, 15] ⟨hx, hb, hml, hown, hts⟩ (c_X2_copy l dC dI (fun i => a (1 + i)) (fun i => b (1 + i)) cI s.heap.size P P2  ) (cwV 1 hts gX1_copy_X2_copy rfl rfl rfl (by decide +kernel) ⟨Nat.le_of_ble_eq_true rfl, Nat.le_of_ble_eq_true rfl⟩) (hK.sub [0] rfl) hK hP hD hS hA hN rfl rfl (by decide) (by decide) (by decide) (by decide) (fun _ => rfl) rfl rfl rfl rfl hl.1 rfl (Nat.le_of_ble_eq_true rfl) dX1_copy_8 ⟨Nat.zero_le _, Nat.zero_le _⟩ (fun u_8 H locs hw_8 hP hD hS => ?_)
  obtain ⟨P_8, rfl⟩ : ∃ z, z = u_8 := ⟨_, rfl⟩
  have hP : va_P (dC, dI) vwCl ((fO a) ++ (pW ((fun i => a (1 + i))) cI P_8) ++ ([(a 5, .inl (cI, 8, .inl Rw))]) ++ (rW ((fun i => a (6 + i))) cI 3 18 No) ++ (rW ((fun i => a (8 + i))) cI 4 24 Ma) ++ (rW ((fun i => a (10 + i))) cI 9 72 Pa) ++ (fO b) ++ (pW ((fun i => b (1 + i))) cI P2) ++ ([(b 5, .inl (cI, 8, .inl Rw2))]) ++ (rW ((fun i => b (6 + i))) cI 3 18 No2) ++ (rW ((fun i => b (8 + i))) cI 4 24 Ma2) ++ (rW ((fun i => b (10 + i))) cI 9 72 Pa2)) H := hP
  have hD : va_D A ((fO a) ++ (pW ((fun i => a (1 + i))) cI P_8) ++ ([(a 5, .inl (cI, 8, .inl Rw))]) ++ (rW ((fun i => a (6 + i))) cI 3 18 No) ++ (rW ((fun i => a (8 + i))) cI 4 24 Ma) ++ (rW ((fun i => a (10 + i))) cI 9 72 Pa) ++ (fO b) ++ (pW ((fun i => b (1 + i))) cI P2) ++ ([(b 5, .inl (cI, 8, .inl Rw2))]) ++ (rW ((fun i => b (6 + i))) cI 3 18 No2) ++ (rW ((fun i => b (8 + i))) cI 4 24 Ma2) ++ (rW ((fun i => b (10 + i))) cI 9 72 Pa2)) := hD
  rw [hw_8, let1_mk P_8] at hF
  refine lv_aload_n hx hb dX1_copy_11 rfl (lv_at hl 1 rfl) ?_
  refine va_get (D := (dC, dI)) (ci := 1) (v := .ref (b 5)) (C := RX1) (T := TX1) (N := 5) hx hb hts hin1 hown hK hP 12 rfl rfl 1 (by decide) lk18 (fun _ h9 => h9) rfl dX1_copy_12 ?_
  refine lv_iconst (v := nI 0) hx hb dX1_copy_15 (by decide) ?_
  refine lv_aload_n hx hb dX1_copy_16 rfl (lv_at hl 0 rfl) ?_
  refine va_get (D := (dC, dI)) (ci := 1) (v := .ref (a 5)) (C := RX1) (T := TX1) (N := 5) hx hb hts hin1 hown hK hP 0 rfl rfl 1 (by decide) lk18 (fun _ h9 => h9) rfl dX1_copy_17 ?_
  refine lv_iconst (v := nI 0) hx hb dX1_copy_20 (by decide) ?_
  refine lv_bipush (v := nI 8) hx hb dX1_copy_21 (by decide) ?_
  refine qv_cpy (ws' := (fO a) ++ (pW ((fun i => a (1 + i))) cI P_8) ++ ([(a 5, .inl (cI, 8, .inl (va_cpy Rw2 Rw 0 0 8)))]) ++ (rW ((fun i => a (6 + i))) cI 3 18 No) ++ (rW ((fun i => a (8 + i))) cI 4 24 Ma) ++ (rW ((fun i => a (10 + i))) cI 9 72 Pa) ++ (fO b) ++ (pW ((fun i => b (1 + i))) cI P2) ++ ([(b 5, .inl (cI, 8, .inl Rw2))]) ++ (rW ((fun i => b (6 + i))) cI 3 18 No2) ++ (rW ((fun i => b (8 + i))) cI 4 24 Ma2) ++ (rW ((fun i => b (10 + i))) cI 9 72 Pa2)) hx hb (hml.trans hl.1.symm) hown (hts (.methodLink RX1 54 arraycopyName) (by decide +kernel)) (hts (.native arraycopyName) (by decide +kernel)) (hts (.static arraycopyName) (by decide +kernel)) (hts (.initialized "java/lang/System") (by decide +kernel)) hK hP hD hS 17 5 0 rfl rfl rfl (by omega) (by omega) (by decide) (by decide) (Nat.le_of_ble_eq_true rfl) (Nat.le_of_ble_eq_true rfl) dX1_copy_23 rfl (fun H locs hP hD hS => ?_)
  refine lv_aload_n hx hb dX1_copy_26 rfl (lv_at hl 0 rfl) ?_
  refine va_get (D := (dC, dI)) (ci := 1) (v := .ref (a 6)) (C := RX1) (T := TX1) (N := 5) hx hb hts hin1 hown hK hP 0 rfl rfl 2 (by decide) lk27 (fun _ h9 => h9) rfl dX1_copy_27 ?_
  refine lv_aload_n hx hb dX1_copy_30 rfl (lv_at hl 1 rfl) ?_
  refine va_get (D := (dC, dI)) (ci := 1) (v := .ref (b 6)) (C := RX1) (T := TX1) (N := 5) hx hb hts hin1 hown hK hP 12 rfl rfl 2 (by decide) lk27 (fun _ h9 => h9) rfl dX1_copy_31 ?_
  refine qx_Vv (C := RX4) (As := [.ref (b 6)]) (rest := []) (ci := 4) (k0 := 6) (wr := (fO a) ++ (pW ((fun i => a (1 + i))) cI P_8) ++ ([(a 5, .inl (cI, 8, .inl (va_cpy Rw2 Rw 0 0 8)))]) ++ (rW ((fun i => a (8 + i))) cI 4 24 Ma) ++ (rW ((fun i => a (10 + i))) cI 9 72 Pa) ++ (fO b) ++ (pW ((fun i => b (1 + i))) cI P2) ++ ([(b 5, .inl (cI, 8, .inl Rw2))]) ++ (rW ((fun i => b (8 + i))) cI 4 24 Ma2) ++ (rW ((fun i => b (10 + i))) cI 9 72 Pa2)) (ws2 := fun u => (fO a) ++ (pW ((fun i => a (1 + i))) cI P_8) ++ ([(a 5, .inl (cI, 8, .inl (va_cpy Rw2 Rw 0 0 8)))]) ++ (rW ((fun i => a (6 + i))) cI 3 18 u) ++ (rW ((fun i => a (8 + i))) cI 4 24 Ma) ++ (rW ((fun i => a (10 + i))) cI 9 72 Pa) ++ (fO b) ++ (pW ((fun i => b (1 + i))) cI P2) ++ ([(b 5, .inl (cI, 8, .inl Rw2))]) ++ (rW ((fun i => b (6 + i))) cI 3 18 No2) ++ (rW ((fun i => b (8 + i))) cI 4 24 Ma2) ++ (rW ((fun i => b (10 + i))) cI 9 72 Pa2)) [6, 7, 18, 19] [0, 1, 2, 3, 4, 5, 8, 9, 10, 11, 12, 13, 14, 15, 16, 17, 20, 21, 22, 23] [0, 1, 2, 3, 4, 5, 20, 21, 6, 7, 8, 9, 10, 11, 12, 13, 14, 15, 22, 23, 16, 17, 18, 19] ⟨hx, hb, hml, hown, hts⟩ (c_X4_copy_v3 l dC dI (fun i => a (6 + i)) (fun i => b (6 + i)) cI H.size No No2  (p1 : inB (Rus No2) 18)) (cwV 1 hts gX1_copy_X4_copy rfl rfl rfl (by decide +kernel) ⟨Nat.le_of_ble_eq_true rfl, Nat.le_of_ble_eq_true rfl⟩) (hK.sub [0] rfl) hK hP hD hS hA hN rfl rfl (by decide) (by decide) (by decide) (by decide) (fun _ => rfl) rfl rfl rfl rfl hl.1 rfl (Nat.le_of_ble_eq_true rfl) dX1_copy_34 ⟨Nat.zero_le _, Nat.zero_le _⟩ (fun u_34 H locs hw_34 hP hD hS => ?_)
  obtain ⟨No_34, rfl⟩ : ∃ z, z = u_34 := ⟨_, rfl⟩
  have hP : va_P (dC, dI) vwCl ((fO a) ++ (pW ((fun i => a (1 + i))) cI P_8) ++ ([(a 5, .inl (cI, 8, .inl (va_cpy Rw2 Rw 0 0 8)))]) ++ (rW ((fun i => a (6 + i))) cI 3 18 No_34) ++ (rW ((fun i => a (8 + i))) cI 4 24 Ma) ++ (rW ((fun i => a (10 + i))) cI 9 72 Pa) ++ (fO b) ++ (pW ((fun i => b (1 + i))) cI P2) ++ ([(b 5, .inl (cI, 8, .inl Rw2))]) ++ (rW ((fun i => b (6 + i))) cI 3 18 No2) ++ (rW ((fun i => b (8 + i))) cI 4 24 Ma2) ++ (rW ((fun i => b (10 + i))) cI 9 72 Pa2)) H := hP
  have hD : va_D A ((fO a) ++ (pW ((fun i => a (1 + i))) cI P_8) ++ ([(a 5, .inl (cI, 8, .inl (va_cpy Rw2 Rw 0 0 8)))]) ++ (rW ((fun i => a (6 + i))) cI 3 18 No_34) ++ (rW ((fun i => a (8 + i))) cI 4 24 Ma) ++ (rW ((fun i => a (10 + i))) cI 9 72 Pa) ++ (fO b) ++ (pW ((fun i => b (1 + i))) cI P2) ++ ([(b 5, .inl (cI, 8, .inl Rw2))]) ++ (rW ((fun i => b (6 + i))) cI 3 18 No2) ++ (rW ((fun i => b (8 + i))) cI 4 24 Ma2) ++ (rW ((fun i => b (10 + i))) cI 9 72 Pa2)) := hD
  rw [hw_34, let1_mk No_34] at hF
  refine lv_aload_n hx hb dX1_copy_37 rfl (lv_at hl 0 rfl) ?_
  refine va_get (D := (dC, dI)) (ci := 1) (v := .ref (a 8)) (C := RX1) (T := TX1) (N := 5) hx hb hts hin1 hown hK hP 0 rfl rfl 3 (by decide) lk31 (fun _ h9 => h9) rfl dX1_copy_38 ?_
  refine lv_aload_n hx hb dX1_copy_41 rfl (lv_at hl 1 rfl) ?_
  refine va_get (D := (dC, dI)) (ci := 1) (v := .ref (b 8)) (C := RX1) (T := TX1) (N := 5) hx hb hts hin1 hown hK hP 12 rfl rfl 3 (by decide) lk31 (fun _ h9 => h9) rfl dX1_copy_42 ?_
  refine qx_Vv (C := RX4) (As := [.ref (b 8)]) (rest := []) (ci := 4) (k0 := 8) (wr := (fO a) ++ (pW ((fun i => a (1 + i))) cI P_8) ++ ([(a 5, .inl (cI, 8, .inl (va_cpy Rw2 Rw 0 0 8)))]) ++ (rW ((fun i => a (6 + i))) cI 3 18 No_34) ++ (rW ((fun i => a (10 + i))) cI 9 72 Pa) ++ (fO b) ++ (pW ((fun i => b (1 + i))) cI P2) ++ ([(b 5, .inl (cI, 8, .inl Rw2))]) ++ (rW ((fun i => b (6 + i))) cI 3 18 No2) ++ (rW ((fun i => b (10 + i))) cI 9 72 Pa2)) (ws2 := fun u => (fO a) ++ (pW ((fun i => a (1 + i))) cI P_8) ++ ([(a 5, .inl (cI, 8, .inl (va_cpy Rw2 Rw 0 0 8)))]) ++ (rW ((fun i => a (6 + i))) cI 3 18 No_34) ++ (rW ((fun i => a (8 + i))) cI 4 24 u) ++ (rW ((fun i => a (10 + i))) cI 9 72 Pa) ++ (fO b) ++ (pW ((fun i => b (1 + i))) cI P2) ++ ([(b 5, .inl (cI, 8, .inl Rw2))]) ++ (rW ((fun i => b (6 + i))) cI 3 18 No2) ++ (rW ((fun i => b (8 + i))) cI 4 24 Ma2) ++ (rW ((fun i => b (10 + i))) cI 9 72 Pa2)) [8, 9, 20, 21] [0, 1, 2, 3, 4, 5, 6, 7, 10, 11, 12, 13, 14, 15, 16, 17, 18, 19, 22, 23] [0, 1, 2, 3, 4, 5, 6, 7, 20, 21, 8, 9, 10, 11, 12, 13, 14, 15, 16, 17, 22, 23, 18, 19] ⟨hx, hb, hml, hown, hts⟩ (c_X4_copy_v4 l dC dI (fun i => a (8 + i)) (fun i => b (8 + i)) cI H.size Ma Ma2  (p2 : inB (Rus Ma2) 24)) (cwV 1 hts gX1_copy_X4_copy rfl rfl rfl (by decide +kernel) ⟨Nat.le_of_ble_eq_true rfl, Nat.le_of_ble_eq_true rfl⟩) (hK.sub [0] rfl) hK hP hD hS hA hN rfl rfl (by decide) (by decide) (by decide) (by decide) (fun _ => rfl) rfl rfl rfl rfl hl.1 rfl (Nat.le_of_ble_eq_true rfl) dX1_copy_45 ⟨Nat.zero_le _, Nat.zero_le _⟩ (fun u_45 H locs hw_45 hP hD hS => ?_)
  obtain ⟨Ma_45, rfl⟩ : ∃ z, z = u_45 := ⟨_, rfl⟩
  have hP : va_P (dC, dI) vwCl ((fO a) ++ (pW ((fun i => a (1 + i))) cI P_8) ++ ([(a 5, .inl (cI, 8, .inl (va_cpy Rw2 Rw 0 0 8)))]) ++ (rW ((fun i => a (6 + i))) cI 3 18 No_34) ++ (rW ((fun i => a (8 + i))) cI 4 24 Ma_45) ++ (rW ((fun i => a (10 + i))) cI 9 72 Pa) ++ (fO b) ++ (pW ((fun i => b (1 + i))) cI P2) ++ ([(b 5, .inl (cI, 8, .inl Rw2))]) ++ (rW ((fun i => b (6 + i))) cI 3 18 No2) ++ (rW ((fun i => b (8 + i))) cI 4 24 Ma2) ++ (rW ((fun i => b (10 + i))) cI 9 72 Pa2)) H := hP
  have hD : va_D A ((fO a) ++ (pW ((fun i => a (1 + i))) cI P_8) ++ ([(a 5, .inl (cI, 8, .inl (va_cpy Rw2 Rw 0 0 8)))]) ++ (rW ((fun i => a (6 + i))) cI 3 18 No_34) ++ (rW ((fun i => a (8 + i))) cI 4 24 Ma_45) ++ (rW ((fun i => a (10 + i))) cI 9 72 Pa) ++ (fO b) ++ (pW ((fun i => b (1 + i))) cI P2) ++ ([(b 5, .inl (cI, 8, .inl Rw2))]) ++ (rW ((fun i => b (6 + i))) cI 3 18 No2) ++ (rW ((fun i => b (8 + i))) cI 4 24 Ma2) ++ (rW ((fun i => b (10 + i))) cI 9 72 Pa2)) := hD
  rw [hw_45, let1_mk Ma_45] at hF
  refine lv_aload_n hx hb dX1_copy_48 rfl (lv_at hl 0 rfl) ?_
  refine va_get (D := (dC, dI)) (ci := 1) (v := .ref (a 10)) (C := RX1) (T := TX1) (N := 5) hx hb hts hin1 hown hK hP 0 rfl rfl 4 (by decide) lk34 (fun _ h9 => h9) rfl dX1_copy_49 ?_
  refine lv_aload_n hx hb dX1_copy_52 rfl (lv_at hl 1 rfl) ?_
  refine va_get (D := (dC, dI)) (ci := 1) (v := .ref (b 10)) (C := RX1) (T := TX1) (N := 5) hx hb hts hin1 hown hK hP 12 rfl rfl 4 (by decide) lk34 (fun _ h9 => h9) rfl dX1_copy_53 ?_
  refine qx_Vv (C := RX4) (As := [.ref (b 10)]) (rest := []) (ci := 4) (k0 := 10) (wr := (fO a) ++ (pW ((fun i => a (1 + i))) cI P_8) ++ ([(a 5, .inl (cI, 8, .inl (va_cpy Rw2 Rw 0 0 8)))]) ++ (rW ((fun i => a (6 + i))) cI 3 18 No_34) ++ (rW ((fun i => a (8 + i))) cI 4 24 Ma_45) ++ (fO b) ++ (pW ((fun i => b (1 + i))) cI P2) ++ ([(b 5, .inl (cI, 8, .inl Rw2))]) ++ (rW ((fun i => b (6 + i))) cI 3 18 No2) ++ (rW ((fun i => b (8 + i))) cI 4 24 Ma2)) (ws2 := fun u => (fO a) ++ (pW ((fun i => a (1 + i))) cI P_8) ++ ([(a 5, .inl (cI, 8, .inl (va_cpy Rw2 Rw 0 0 8)))]) ++ (rW ((fun i => a (6 + i))) cI 3 18 No_34) ++ (rW ((fun i => a (8 + i))) cI 4 24 Ma_45) ++ (rW ((fun i => a (10 + i))) cI 9 72 u) ++ (fO b) ++ (pW ((fun i => b (1 + i))) cI P2) ++ ([(b 5, .inl (cI, 8, .inl Rw2))]) ++ (rW ((fun i => b (6 + i))) cI 3 18 No2) ++ (rW ((fun i => b (8 + i))) cI 4 24 Ma2) ++ (rW ((fun i => b (10 + i))) cI 9 72 Pa2)) [10, 11, 22, 23] [0, 1, 2, 3, 4, 5, 6, 7, 8, 9, 12, 13, 14, 15, 16, 17, 18, 19, 20, 21] [0, 1, 2, 3, 4, 5, 6, 7, 8, 9, 20, 21, 10, 11, 12, 13, 14, 15, 16, 17, 18, 19, 22, 23] ⟨hx, hb, hml, hown, hts⟩ (c_X4_copy_v9 l dC dI (fun i => a (10 + i)) (fun i => b (10 + i)) cI H.size Pa Pa2  (p3 : inB (Rus Pa2) 72)) (cwV 1 hts gX1_copy_X4_copy rfl rfl rfl (by decide +kernel) ⟨Nat.le_of_ble_eq_true rfl, Nat.le_of_ble_eq_true rfl⟩) (hK.sub [0] rfl) hK hP hD hS hA hN rfl rfl (by decide) (by decide) (by decide) (by decide) (fun _ => rfl) rfl rfl rfl rfl hl.1 rfl (Nat.le_of_ble_eq_true rfl) dX1_copy_56 ⟨Nat.zero_le _, Nat.zero_le _⟩ (fun u_56 H locs hw_56 hP hD hS => ?_)
  obtain ⟨Pa_56, rfl⟩ : ∃ z, z = u_56 := ⟨_, rfl⟩
  have hP : va_P (dC, dI) vwCl ((fO a) ++ (pW ((fun i => a (1 + i))) cI P_8) ++ ([(a 5, .inl (cI, 8, .inl (va_cpy Rw2 Rw 0 0 8)))]) ++ (rW ((fun i => a (6 + i))) cI 3 18 No_34) ++ (rW ((fun i => a (8 + i))) cI 4 24 Ma_45) ++ (rW ((fun i => a (10 + i))) cI 9 72 Pa_56) ++ (fO b) ++ (pW ((fun i => b (1 + i))) cI P2) ++ ([(b 5, .inl (cI, 8, .inl Rw2))]) ++ (rW ((fun i => b (6 + i))) cI 3 18 No2) ++ (rW ((fun i => b (8 + i))) cI 4 24 Ma2) ++ (rW ((fun i => b (10 + i))) cI 9 72 Pa2)) H := hP
  have hD : va_D A ((fO a) ++ (pW ((fun i => a (1 + i))) cI P_8) ++ ([(a 5, .inl (cI, 8, .inl (va_cpy Rw2 Rw 0 0 8)))]) ++ (rW ((fun i => a (6 + i))) cI 3 18 No_34) ++ (rW ((fun i => a (8 + i))) cI 4 24 Ma_45) ++ (rW ((fun i => a (10 + i))) cI 9 72 Pa_56) ++ (fO b) ++ (pW ((fun i => b (1 + i))) cI P2) ++ ([(b 5, .inl (cI, 8, .inl Rw2))]) ++ (rW ((fun i => b (6 + i))) cI 3 18 No2) ++ (rW ((fun i => b (8 + i))) cI 4 24 Ma2) ++ (rW ((fun i => b (10 + i))) cI 9 72 Pa2)) := hD
  rw [hw_56, let1_mk Pa_56] at hF
  have hP9 : va_P (dC, dI) vwCl ((fO a) ++ (pW ((fun i => a (1 + i))) cI P_8) ++ ([(a 5, .inl (cI, 8, .inl (va_cpy Rw2 Rw 0 0 8)))]) ++ (rW ((fun i => a (6 + i))) cI 3 18 No_34) ++ (rW ((fun i => a (8 + i))) cI 4 24 Ma_45) ++ (rW ((fun i => a (10 + i))) cI 9 72 Pa_56) ++ (fO b) ++ (pW ((fun i => b (1 + i))) cI P2) ++ ([(b 5, .inl (cI, 8, .inl Rw2))]) ++ (rW ((fun i => b (6 + i))) cI 3 18 No2) ++ (rW ((fun i => b (8 + i))) cI 4 24 Ma2) ++ (rW ((fun i => b (10 + i))) cI 9 72 Pa2)) H := hP
  exact W.vret hx hb hr (fun t ht hW => ⟨⟨((P_8, va_cpy Rw2 Rw 0 0 8, No_34, Ma_45, Pa_56)), rfl, hO.symm.trans hF, by rw [ht]; exact hP9, va_K.moved hW.alike hK, hD⟩, hS.F ht⟩) hS.2.2 dX1_copy_59
def F_X1_remember_L19 : Nat → (pS) → (Nat) → (rS) → (Nat) × (rS)
  | 0, _, k, Q => (k, Q)
  | n_19 + 1, P, k, Q => if 6 ≤ k then (k, Q) else let1 (F_X4_put_v9 Q ((Pwh P) k)) (fun Pa_38 => F_X1_remember_L19 n_19 P (k + 1) Pa_38)
def F_X1_remember_L19b : Nat → (pS) → (Nat) → (rS) → (Nat) × (rS)
  | 0, _, k, Q => (k, Q)
  | n_19 + 1, P, k, Q => if 6 ≤ k then (k, Q) else let1 (F_X4_put_v9 Q ((Pwh P) k)) (fun Pa_38 => F_X1_remember_L19b n_19 P (k + 1) Pa_38)
def F_X1_remember (P : pS) (Pa : rS) : (rS) := let1 (F_X4_isFull_v9 Pa) (fun z_4 => if z_4 = true then let1 (F_X4_dropFirst_v9 Pa) (fun Pa_14 => let2 (F_X1_remember_L19b 7 P 0 Pa_14) (fun k Q => let1 (F_X4_put_v9 Q (Pnx P)) (fun Pa_58 => let1 (F_X4_put_v9 Pa_58 (Ppt P)) (fun Pa_72 => let1 (F_X4_put_v9 Pa_72 (Pbl P)) (fun Pa_86 => Pa_86))))) else let2 (F_X1_remember_L19 7 P 0 Pa) (fun k Q => let1 (F_X4_put_v9 Q (Pnx P)) (fun Pa_58 => let1 (F_X4_put_v9 Pa_58 (Ppt P)) (fun Pa_72 => let1 (F_X4_put_v9 Pa_72 (Pbl P)) (fun Pa_86 => Pa_86)))))
set_option maxHeartbeats 4000000 in
set_option maxRecDepth 100000 in
theorem c_X1_remember (l : Launch) (dC : Nat → ClassId) (dI : Nat → Nat → Nat) (a : Nat → Nat) (cI : ClassId) (sz : Nat) (P : pS) (Rw : Nat → Int32) (No : rS) (Ma : rS) (Pa : rS) (pu : inB (Rus Pa) 72) : Met l yX1_remember wsX1_remember { frames := 2, cells := 0, slots := 0, locals := 80 } (xPc (dC, dI) vwCl (xT cI) ((fO a) ++ (pW ((fun i => a (1 + i))) cI P) ++ ([(a 5, .inl (cI, 8, .inl Rw))]) ++ (rW ((fun i => a (6 + i))) cI 3 18 No) ++ (rW ((fun i => a (8 + i))) cI 4 24 Ma) ++ (rW ((fun i => a (10 + i))) cI 9 72 Pa)) sz [.ref (a 0)]) (va_Qv (fun (u : (rS)) => F_X1_remember P Pa = u) (mB (dC, dI) vwCl (xT cI) (va_A ((fO a) ++ (pW ((fun i => a (1 + i))) cI P) ++ ([(a 5, .inl (cI, 8, .inl Rw))]) ++ (rW ((fun i => a (6 + i))) cI 3 18 No) ++ (rW ((fun i => a (8 + i))) cI 4 24 Ma) ++ (rW ((fun i => a (10 + i))) cI 9 72 Pa)) sz) (fun u => (fO a) ++ (pW ((fun i => a (1 + i))) cI P) ++ ([(a 5, .inl (cI, 8, .inl Rw))]) ++ (rW ((fun i => a (6 + i))) cI 3 18 No) ++ (rW ((fun i => a (8 + i))) cI 4 24 Ma) ++ (rW ((fun i => a (10 + i))) cI 9 72 u))) (va_A ((fO a) ++ (pW ((fun i => a (1 + i))) cI P) ++ ([(a 5, .inl (cI, 8, .inl Rw))]) ++ (rW ((fun i => a (6 + i))) cI 3 18 No) ++ (rW ((fun i => a (8 + i))) cI 4 24 Ma) ++ (rW ((fun i => a (10 + i))) cI 9 72 Pa)) sz)) 0 0 (va_A ((fO a) ++ (pW ((fun i => a (1 + i))) cI P) ++ ([(a 5, .inl (cI, 8, .inl Rw))]) ++ (rW ((fun i => a (6 + i))) cI 3 18 No) ++ (rW ((fun i => a (8 + i))) cI 4 24 Ma) ++ (rW ((fun i => a (10 + i))) cI 9 72 Pa)) sz) := by
  refine Met.ofW (cc := cX1_remember) (maxL := 2) (ret := none) (by decide) rfl ?_
  intro p e s m args below meth c s₁ B hml hv
  obtain ⟨rfl, hsz, hP, hK, hD0, hN⟩ := hv
  have hx := B.exec
  have hb := B.bytes
  have hr := B.returns
  have hts := atoms_spec (ws := wsX1_remember) B.pre
  have hown : s.vm.findClass RX1 = some m.cls := findClass_of_methodNamed B.named
  have hlocks := B.notSynchronized
  subst hsz
  have hD := hD0.self (sz := s.heap.size)
  generalize hAe : va_A ((fO a) ++ (pW ((fun i => a (1 + i))) cI P) ++ ([(a 5, .inl (cI, 8, .inl Rw))]) ++ (rW ((fun i => a (6 + i))) cI 3 18 No) ++ (rW ((fun i => a (8 + i))) cI 4 24 Ma) ++ (rW ((fun i => a (10 + i))) cI 9 72 Pa)) s.heap.size = A at hD ⊢
  have hA : ∀ q : Nat, s.heap.size ≤ q → A q := fun q h => by rw [← hAe]; exact Or.inr h
  have hS : va_S A s.heap s.heap [] := va_S.rf
  have hin1 : ∀ w ∈ wsX10, w ∈ wsX1_remember := by decide +kernel
  have hin2 : ∀ w ∈ wsX20, w ∈ wsX1_remember := by decide +kernel
  have lk12 := hts (.fieldLink RX1 12 "PostRounders$Field" "play" "LPostRounders$Play;") (by decide +kernel)
  have lk34 := hts (.fieldLink RX1 34 "PostRounders$Field" "past" "LPostRounders$Rows;") (by decide +kernel)
  have lk70 := hts (.fieldLink RX1 70 "PostRounders$Play" "where" "[I") (by decide +kernel)
  have lk76 := hts (.fieldLink RX1 76 "PostRounders$Play" "next" "I") (by decide +kernel)
  have lk80 := hts (.fieldLink RX1 80 "PostRounders$Play" "points" "I") (by decide +kernel)
  have lk83 := hts (.fieldLink RX1 83 "PostRounders$Play" "balls" "I") (by decide +kernel)
  have hl := lv_entry ([.ref (a 0)]) (n := 2) (Nat.le_of_ble_eq_true rfl)
  rw [lg_entry_eq]
  generalize (lg_sl ([.ref (a 0)]) ++ List.replicate (2 - (lg_sl ([.ref (a 0)])).length) Slot.unset).toArray = ls at hl ⊢
  have hl : lv_has ls 2 [(0, .ref (a 0))] := hl
  obtain ⟨OUT, hO⟩ : ∃ z, z = F_X1_remember P Pa := ⟨_, rfl⟩
  have hF := hO
  unfold F_X1_remember at hF
  have e_pu := tN_eq pu.1
  have b_pu := pu.2
  refine lv_aload_n hx hb dX1_remember_0 rfl (lv_at hl 0 rfl) ?_
  refine va_get (D := (dC, dI)) (ci := 1) (v := .ref (a 10)) (C := RX1) (T := TX1) (N := 5) hx hb hts hin1 hown hK hP 0 rfl rfl 4 (by decide) lk34 (fun _ h9 => h9) rfl dX1_remember_1 ?_
  refine qx_Vi (C := RX4) (As := []) (rest := []) (ci := 4) (k0 := 10) (wr := (fO a) ++ (pW ((fun i => a (1 + i))) cI P) ++ ([(a 5, .inl (cI, 8, .inl Rw))]) ++ (rW ((fun i => a (6 + i))) cI 3 18 No) ++ (rW ((fun i => a (8 + i))) cI 4 24 Ma)) (ws2 := fun u => (fO a) ++ (pW ((fun i => a (1 + i))) cI P) ++ ([(a 5, .inl (cI, 8, .inl Rw))]) ++ (rW ((fun i => a (6 + i))) cI 3 18 No) ++ (rW ((fun i => a (8 + i))) cI 4 24 Ma) ++ (rW ((fun i => a (10 + i))) cI 9 72 Pa)) [10, 11] [0, 1, 2, 3, 4, 5, 6, 7, 8, 9] [0, 1, 2, 3, 4, 5, 6, 7, 8, 9, 10, 11] ⟨hx, hb, hml, hown, hts⟩ (c_X4_isFull_v9 l dC dI (fun i => a (10 + i)) cI s.heap.size Pa  (pu : inB (Rus Pa) 72)) (cwV 0 hts gX1_remember_X4_isFull rfl rfl rfl (by decide +kernel) ⟨Nat.le_of_ble_eq_true rfl, Nat.le_of_ble_eq_true rfl⟩) (hK.sub [0] rfl) hK hP hD hS hA hN rfl rfl (by decide) (by decide) (by decide) (by decide) (fun _ => rfl) rfl rfl rfl rfl hl.1 rfl (Nat.le_of_ble_eq_true rfl) dX1_remember_4 ⟨Nat.zero_le _, Nat.zero_le _⟩ (fun r_4 u_4 H locs hw_4 hP hD hS => ?_)
  have hP : va_P (dC, dI) vwCl ((fO a) ++ (pW ((fun i => a (1 + i))) cI P) ++ ([(a 5, .inl (cI, 8, .inl Rw))]) ++ (rW ((fun i => a (6 + i))) cI 3 18 No) ++ (rW ((fun i => a (8 + i))) cI 4 24 Ma) ++ (rW ((fun i => a (10 + i))) cI 9 72 Pa)) H := hP
  have hD : va_D A ((fO a) ++ (pW ((fun i => a (1 + i))) cI P) ++ ([(a 5, .inl (cI, 8, .inl Rw))]) ++ (rW ((fun i => a (6 + i))) cI 3 18 No) ++ (rW ((fun i => a (8 + i))) cI 4 24 Ma) ++ (rW ((fun i => a (10 + i))) cI 9 72 Pa)) := hD
  obtain ⟨z_4, hw_4, rfl⟩ := hw_4
  rw [hw_4, let1_mk z_4] at hF
  refine qv_zif_eq (tgt := 17) hx hb dX1_remember_7 (by decide) (fun c_7 => ?_) (fun c_7 => ?_)
  · rw [if_neg c_7] at hF
    refine lv_iconst (v := nI 0) hx hb dX1_remember_17 (by decide) ?_
    refine lv_istore_n (lv' := [(1, .int (nI 0)), (0, .ref (a 0))]) hx hb dX1_remember_18 rfl hl (by decide) rfl (fun ls hl => ?_)
    have L_19 : ∀ (n_19 : Nat) (k : Nat) (Q : rS) (H : Heap) (locs : List Loc), k ≤ 6 → inB (Rus Q) 72 → 6 - k < n_19 → va_P (dC, dI) vwCl ((fO a) ++ (pW ((fun i => a (1 + i))) cI P) ++ ([(a 5, .inl (cI, 8, .inl Rw))]) ++ (rW ((fun i => a (6 + i))) cI 3 18 No) ++ (rW ((fun i => a (8 + i))) cI 4 24 Ma) ++ (rW ((fun i => a (10 + i))) cI 9 72 Q)) H → va_D A ((fO a) ++ (pW ((fun i => a (1 + i))) cI P) ++ ([(a 5, .inl (cI, 8, .inl Rw))]) ++ (rW ((fun i => a (6 + i))) cI 3 18 No) ++ (rW ((fun i => a (8 + i))) cI 4 24 Ma) ++ (rW ((fun i => a (10 + i))) cI 9 72 Q)) → va_S A s.heap H locs → ∀ (ls : Array Slot), lv_has ls 2 [(1, .int (nI k)), (0, .ref (a 0))] → OUT = let2 (F_X1_remember_L19 n_19 P k Q) (fun k Q => let1 (F_X4_put_v9 Q (Pnx P)) (fun Pa_58 => let1 (F_X4_put_v9 Pa_58 (Ppt P)) (fun Pa_72 => let1 (F_X4_put_v9 Pa_72 (Pbl P)) (fun Pa_86 => Pa_86)))) → W p l e (headSpec wsX1_remember { frames := 2, cells := 0, slots := 0, locals := 80 }).room s m ([.ref (a 0)] : List Value).toArray below meth c H locs 0 0 (MQ below (va_Qv (fun (u : (rS)) => F_X1_remember P Pa = u) (mB (dC, dI) vwCl (xT cI) A (fun u => (fO a) ++ (pW ((fun i => a (1 + i))) cI P) ++ ([(a 5, .inl (cI, 8, .inl Rw))]) ++ (rW ((fun i => a (6 + i))) cI 3 18 No) ++ (rW ((fun i => a (8 + i))) cI 4 24 Ma) ++ (rW ((fun i => a (10 + i))) cI 9 72 u))) A) ([.ref (a 0)] : List Value).toArray s 0 0 A) (F0 m 19 ls []) := by
      intro n_19
      induction n_19 with
      | zero => intro k Q H locs i0 i1 hmu; exact absurd hmu (Nat.not_lt_zero _)
      | succ n_19 ih_19 =>
        intro k Q H locs i0 i1 hmu_19 hP hD hS ls hl hF
        rw [F_X1_remember_L19] at hF
        refine lv_iload_n hx hb dX1_remember_19 rfl (lv_at hl 0 rfl) ?_
        refine lv_bipush (v := nI 6) hx hb dX1_remember_20 (by decide) ?_
        refine qv_icmp_ge (tgt := 47) hx hb dX1_remember_22 (by decide) (by omega) (by omega) (fun c_22 => ?_) (fun c_22 => ?_)
        · rw [if_pos c_22] at hF
          rw [let2_mk (k : Nat) (Q : rS)] at hF
          refine lv_aload_n hx hb dX1_remember_47 rfl (lv_at hl 1 rfl) ?_
          refine va_get (D := (dC, dI)) (ci := 1) (v := .ref (a 10)) (C := RX1) (T := TX1) (N := 5) hx hb hts hin1 hown hK hP 0 rfl rfl 4 (by decide) lk34 (fun _ h9 => h9) rfl dX1_remember_48 ?_
          refine lv_aload_n hx hb dX1_remember_51 rfl (lv_at hl 1 rfl) ?_
          refine va_get (D := (dC, dI)) (ci := 1) (v := .ref (a 1)) (C := RX1) (T := TX1) (N := 5) hx hb hts hin1 hown hK hP 0 rfl rfl 0 (by decide) lk12 (fun _ h9 => h9) rfl dX1_remember_52 ?_
          refine va_get (D := (dC, dI)) (ci := 2) (v := .int (Pnx P)) (C := RX2) (T := TX2) (N := 8) hx hb hts hin2 hown hK hP 1 rfl rfl 5 (by decide) lk76 (fun _ h9 => h9) rfl dX1_remember_55 ?_
          refine qx_Vv (C := RX4) (As := [.int (Pnx P)]) (rest := []) (ci := 4) (k0 := 10) (wr := (fO a) ++ (pW ((fun i => a (1 + i))) cI P) ++ ([(a 5, .inl (cI, 8, .inl Rw))]) ++ (rW ((fun i => a (6 + i))) cI 3 18 No) ++ (rW ((fun i => a (8 + i))) cI 4 24 Ma)) (ws2 := fun u => (fO a) ++ (pW ((fun i => a (1 + i))) cI P) ++ ([(a 5, .inl (cI, 8, .inl Rw))]) ++ (rW ((fun i => a (6 + i))) cI 3 18 No) ++ (rW ((fun i => a (8 + i))) cI 4 24 Ma) ++ (rW ((fun i => a (10 + i))) cI 9 72 u)) [10, 11] [0, 1, 2, 3, 4, 5, 6, 7, 8, 9] [0, 1, 2, 3, 4, 5, 6, 7, 8, 9, 10, 11] ⟨hx, hb, hml, hown, hts⟩ (c_X4_put_v9 l dC dI (fun i => a (10 + i)) cI H.size Q (Pnx P) (i1 : inB (Rus Q) 72)) (cwV 1 hts gX1_remember_X4_put rfl rfl rfl (by decide +kernel) ⟨Nat.le_of_ble_eq_true rfl, Nat.le_of_ble_eq_true rfl⟩) (hK.sub [0] rfl) hK hP hD hS hA hN rfl rfl (by decide) (by decide) (by decide) (by decide) (fun _ => rfl) rfl rfl rfl rfl hl.1 rfl (Nat.le_of_ble_eq_true rfl) dX1_remember_58 ⟨Nat.zero_le _, Nat.zero_le _⟩ (fun u_58 H locs hw_58 hP hD hS => ?_)
          obtain ⟨Pa_58, rfl⟩ : ∃ z, z = u_58 := ⟨_, rfl⟩
          have hP : va_P (dC, dI) vwCl ((fO a) ++ (pW ((fun i => a (1 + i))) cI P) ++ ([(a 5, .inl (cI, 8, .inl Rw))]) ++ (rW ((fun i => a (6 + i))) cI 3 18 No) ++ (rW ((fun i => a (8 + i))) cI 4 24 Ma) ++ (rW ((fun i => a (10 + i))) cI 9 72 Pa_58)) H := hP
          have hD : va_D A ((fO a) ++ (pW ((fun i => a (1 + i))) cI P) ++ ([(a 5, .inl (cI, 8, .inl Rw))]) ++ (rW ((fun i => a (6 + i))) cI 3 18 No) ++ (rW ((fun i => a (8 + i))) cI 4 24 Ma) ++ (rW ((fun i => a (10 + i))) cI 9 72 Pa_58)) := hD
          have a_58 := put_at9 hw_58 (i1 : inB (Rus Q) 72)
          rw [hw_58, let1_mk Pa_58] at hF
          refine lv_aload_n hx hb dX1_remember_61 rfl (lv_at hl 1 rfl) ?_
          refine va_get (D := (dC, dI)) (ci := 1) (v := .ref (a 10)) (C := RX1) (T := TX1) (N := 5) hx hb hts hin1 hown hK hP 0 rfl rfl 4 (by decide) lk34 (fun _ h9 => h9) rfl dX1_remember_62 ?_
          refine lv_aload_n hx hb dX1_remember_65 rfl (lv_at hl 1 rfl) ?_
          refine va_get (D := (dC, dI)) (ci := 1) (v := .ref (a 1)) (C := RX1) (T := TX1) (N := 5) hx hb hts hin1 hown hK hP 0 rfl rfl 0 (by decide) lk12 (fun _ h9 => h9) rfl dX1_remember_66 ?_
          refine va_get (D := (dC, dI)) (ci := 2) (v := .int (Ppt P)) (C := RX2) (T := TX2) (N := 8) hx hb hts hin2 hown hK hP 1 rfl rfl 6 (by decide) lk80 (fun _ h9 => h9) rfl dX1_remember_69 ?_
          refine qx_Vv (C := RX4) (As := [.int (Ppt P)]) (rest := []) (ci := 4) (k0 := 10) (wr := (fO a) ++ (pW ((fun i => a (1 + i))) cI P) ++ ([(a 5, .inl (cI, 8, .inl Rw))]) ++ (rW ((fun i => a (6 + i))) cI 3 18 No) ++ (rW ((fun i => a (8 + i))) cI 4 24 Ma)) (ws2 := fun u => (fO a) ++ (pW ((fun i => a (1 + i))) cI P) ++ ([(a 5, .inl (cI, 8, .inl Rw))]) ++ (rW ((fun i => a (6 + i))) cI 3 18 No) ++ (rW ((fun i => a (8 + i))) cI 4 24 Ma) ++ (rW ((fun i => a (10 + i))) cI 9 72 u)) [10, 11] [0, 1, 2, 3, 4, 5, 6, 7, 8, 9] [0, 1, 2, 3, 4, 5, 6, 7, 8, 9, 10, 11] ⟨hx, hb, hml, hown, hts⟩ (c_X4_put_v9 l dC dI (fun i => a (10 + i)) cI H.size Pa_58 (Ppt P) (a_58 : inB (Rus Pa_58) 72)) (cwV 1 hts gX1_remember_X4_put rfl rfl rfl (by decide +kernel) ⟨Nat.le_of_ble_eq_true rfl, Nat.le_of_ble_eq_true rfl⟩) (hK.sub [0] rfl) hK hP hD hS hA hN rfl rfl (by decide) (by decide) (by decide) (by decide) (fun _ => rfl) rfl rfl rfl rfl hl.1 rfl (Nat.le_of_ble_eq_true rfl) dX1_remember_72 ⟨Nat.zero_le _, Nat.zero_le _⟩ (fun u_72 H locs hw_72 hP hD hS => ?_)
          obtain ⟨Pa_72, rfl⟩ : ∃ z, z = u_72 := ⟨_, rfl⟩
          have hP : va_P (dC, dI) vwCl ((fO a) ++ (pW ((fun i => a (1 + i))) cI P) ++ ([(a 5, .inl (cI, 8, .inl Rw))]) ++ (rW ((fun i => a (6 + i))) cI 3 18 No) ++ (rW ((fun i => a (8 + i))) cI 4 24 Ma) ++ (rW ((fun i => a (10 + i))) cI 9 72 Pa_72)) H := hP
          have hD : va_D A ((fO a) ++ (pW ((fun i => a (1 + i))) cI P) ++ ([(a 5, .inl (cI, 8, .inl Rw))]) ++ (rW ((fun i => a (6 + i))) cI 3 18 No) ++ (rW ((fun i => a (8 + i))) cI 4 24 Ma) ++ (rW ((fun i => a (10 + i))) cI 9 72 Pa_72)) := hD
          have a_72 := put_at9 hw_72 (a_58 : inB (Rus Pa_58) 72)
          rw [hw_72, let1_mk Pa_72] at hF
          refine lv_aload_n hx hb dX1_remember_75 rfl (lv_at hl 1 rfl) ?_
          refine va_get (D := (dC, dI)) (ci := 1) (v := .ref (a 10)) (C := RX1) (T := TX1) (N := 5) hx hb hts hin1 hown hK hP 0 rfl rfl 4 (by decide) lk34 (fun _ h9 => h9) rfl dX1_remember_76 ?_
          refine lv_aload_n hx hb dX1_remember_79 rfl (lv_at hl 1 rfl) ?_
          refine va_get (D := (dC, dI)) (ci := 1) (v := .ref (a 1)) (C := RX1) (T := TX1) (N := 5) hx hb hts hin1 hown hK hP 0 rfl rfl 0 (by decide) lk12 (fun _ h9 => h9) rfl dX1_remember_80 ?_
          refine va_get (D := (dC, dI)) (ci := 2) (v := .int (Pbl P)) (C := RX2) (T := TX2) (N := 8) hx hb hts hin2 hown hK hP 1 rfl rfl 7 (by decide) lk83 (fun _ h9 => h9) rfl dX1_remember_83 ?_
          refine qx_Vv (C := RX4) (As := [.int (Pbl P)]) (rest := []) (ci := 4) (k0 := 10) (wr := (fO a) ++ (pW ((fun i => a (1 + i))) cI P) ++ ([(a 5, .inl (cI, 8, .inl Rw))]) ++ (rW ((fun i => a (6 + i))) cI 3 18 No) ++ (rW ((fun i => a (8 + i))) cI 4 24 Ma)) (ws2 := fun u => (fO a) ++ (pW ((fun i => a (1 + i))) cI P) ++ ([(a 5, .inl (cI, 8, .inl Rw))]) ++ (rW ((fun i => a (6 + i))) cI 3 18 No) ++ (rW ((fun i => a (8 + i))) cI 4 24 Ma) ++ (rW ((fun i => a (10 + i))) cI 9 72 u)) [10, 11] [0, 1, 2, 3, 4, 5, 6, 7, 8, 9] [0, 1, 2, 3, 4, 5, 6, 7, 8, 9, 10, 11] ⟨hx, hb, hml, hown, hts⟩ (c_X4_put_v9 l dC dI (fun i => a (10 + i)) cI H.size Pa_72 (Pbl P) (a_72 : inB (Rus Pa_72) 72)) (cwV 1 hts gX1_remember_X4_put rfl rfl rfl (by decide +kernel) ⟨Nat.le_of_ble_eq_true rfl, Nat.le_of_ble_eq_true rfl⟩) (hK.sub [0] rfl) hK hP hD hS hA hN rfl rfl (by decide) (by decide) (by decide) (by decide) (fun _ => rfl) rfl rfl rfl rfl hl.1 rfl (Nat.le_of_ble_eq_true rfl) dX1_remember_86 ⟨Nat.zero_le _, Nat.zero_le _⟩ (fun u_86 H locs hw_86 hP hD hS => ?_)
          obtain ⟨Pa_86, rfl⟩ : ∃ z, z = u_86 := ⟨_, rfl⟩
          have hP : va_P (dC, dI) vwCl ((fO a) ++ (pW ((fun i => a (1 + i))) cI P) ++ ([(a 5, .inl (cI, 8, .inl Rw))]) ++ (rW ((fun i => a (6 + i))) cI 3 18 No) ++ (rW ((fun i => a (8 + i))) cI 4 24 Ma) ++ (rW ((fun i => a (10 + i))) cI 9 72 Pa_86)) H := hP
          have hD : va_D A ((fO a) ++ (pW ((fun i => a (1 + i))) cI P) ++ ([(a 5, .inl (cI, 8, .inl Rw))]) ++ (rW ((fun i => a (6 + i))) cI 3 18 No) ++ (rW ((fun i => a (8 + i))) cI 4 24 Ma) ++ (rW ((fun i => a (10 + i))) cI 9 72 Pa_86)) := hD
          have a_86 := put_at9 hw_86 (a_72 : inB (Rus Pa_72) 72)
          rw [hw_86, let1_mk Pa_86] at hF
          have hP9 : va_P (dC, dI) vwCl ((fO a) ++ (pW ((fun i => a (1 + i))) cI P) ++ ([(a 5, .inl (cI, 8, .inl Rw))]) ++ (rW ((fun i => a (6 + i))) cI 3 18 No) ++ (rW ((fun i => a (8 + i))) cI 4 24 Ma) ++ (rW ((fun i => a (10 + i))) cI 9 72 Pa_86)) H := hP
          exact W.vret hx hb hr (fun t ht hW => ⟨⟨(Pa_86), rfl, hO.symm.trans hF, by rw [ht]; exact hP9, va_K.moved hW.alike hK, hD⟩, hS.F ht⟩) hS.2.2 dX1_remember_89
        · rw [if_neg c_22] at hF
          refine lv_aload_n hx hb dX1_remember_25 rfl (lv_at hl 1 rfl) ?_
          refine va_get (D := (dC, dI)) (ci := 1) (v := .ref (a 10)) (C := RX1) (T := TX1) (N := 5) hx hb hts hin1 hown hK hP 0 rfl rfl 4 (by decide) lk34 (fun _ h9 => h9) rfl dX1_remember_26 ?_
          refine lv_aload_n hx hb dX1_remember_29 rfl (lv_at hl 1 rfl) ?_
          refine va_get (D := (dC, dI)) (ci := 1) (v := .ref (a 1)) (C := RX1) (T := TX1) (N := 5) hx hb hts hin1 hown hK hP 0 rfl rfl 0 (by decide) lk12 (fun _ h9 => h9) rfl dX1_remember_30 ?_
          refine va_get (D := (dC, dI)) (ci := 2) (v := .ref (a 4)) (C := RX2) (T := TX2) (N := 8) hx hb hts hin2 hown hK hP 1 rfl rfl 4 (by decide) lk70 (fun _ h9 => h9) rfl dX1_remember_33 ?_
          refine lv_iload_n hx hb dX1_remember_36 rfl (lv_at hl 0 rfl) ?_
          refine qv_ald (v := (Pwh P) k) hx hb hK hP 4 0 rfl rfl (by omega) (by decide) (rfl) dX1_remember_37 ?_
          refine qx_Vv (C := RX4) (As := [.int ((Pwh P) k)]) (rest := []) (ci := 4) (k0 := 10) (wr := (fO a) ++ (pW ((fun i => a (1 + i))) cI P) ++ ([(a 5, .inl (cI, 8, .inl Rw))]) ++ (rW ((fun i => a (6 + i))) cI 3 18 No) ++ (rW ((fun i => a (8 + i))) cI 4 24 Ma)) (ws2 := fun u => (fO a) ++ (pW ((fun i => a (1 + i))) cI P) ++ ([(a 5, .inl (cI, 8, .inl Rw))]) ++ (rW ((fun i => a (6 + i))) cI 3 18 No) ++ (rW ((fun i => a (8 + i))) cI 4 24 Ma) ++ (rW ((fun i => a (10 + i))) cI 9 72 u)) [10, 11] [0, 1, 2, 3, 4, 5, 6, 7, 8, 9] [0, 1, 2, 3, 4, 5, 6, 7, 8, 9, 10, 11] ⟨hx, hb, hml, hown, hts⟩ (c_X4_put_v9 l dC dI (fun i => a (10 + i)) cI H.size Q ((Pwh P) k) (i1 : inB (Rus Q) 72)) (cwV 1 hts gX1_remember_X4_put rfl rfl rfl (by decide +kernel) ⟨Nat.le_of_ble_eq_true rfl, Nat.le_of_ble_eq_true rfl⟩) (hK.sub [0] rfl) hK hP hD hS hA hN rfl rfl (by decide) (by decide) (by decide) (by decide) (fun _ => rfl) rfl rfl rfl rfl hl.1 rfl (Nat.le_of_ble_eq_true rfl) dX1_remember_38 ⟨Nat.zero_le _, Nat.zero_le _⟩ (fun u_38 H locs hw_38 hP hD hS => ?_)
          obtain ⟨Pa_38, rfl⟩ : ∃ z, z = u_38 := ⟨_, rfl⟩
          have hP : va_P (dC, dI) vwCl ((fO a) ++ (pW ((fun i => a (1 + i))) cI P) ++ ([(a 5, .inl (cI, 8, .inl Rw))]) ++ (rW ((fun i => a (6 + i))) cI 3 18 No) ++ (rW ((fun i => a (8 + i))) cI 4 24 Ma) ++ (rW ((fun i => a (10 + i))) cI 9 72 Pa_38)) H := hP
          have hD : va_D A ((fO a) ++ (pW ((fun i => a (1 + i))) cI P) ++ ([(a 5, .inl (cI, 8, .inl Rw))]) ++ (rW ((fun i => a (6 + i))) cI 3 18 No) ++ (rW ((fun i => a (8 + i))) cI 4 24 Ma) ++ (rW ((fun i => a (10 + i))) cI 9 72 Pa_38)) := hD
          have a_38 := put_at9 hw_38 (i1 : inB (Rus Q) 72)
          rw [hw_38, let1_mk Pa_38] at hF
          refine lv_iinc (v := nI (k + 1)) (lv' := [(1, .int (nI (k + 1))), (0, .ref (a 0))]) hx hb dX1_remember_41 hl (k := 0) rfl (qn_inc (c := 1) rfl (by omega)) (by decide) rfl (fun ls hl => ?_)
          refine lv_goto (tgt := 19) hx hb dX1_remember_44 (by decide) ?_
          exact ih_19 (k + 1) Pa_38 H locs (by omega) (a_38 : inB (Rus Pa_38) 72) (by omega) hP hD hS ls (lv_sub hl [0, 1] rfl) hF
    exact L_19 7 0 Pa H locs (by omega) (pu : inB (Rus Pa) 72) (by omega) hP hD hS ls (lv_sub hl [0, 1] rfl) hF
  · rw [if_pos c_7] at hF
    refine lv_aload_n hx hb dX1_remember_10 rfl (lv_at hl 0 rfl) ?_
    refine va_get (D := (dC, dI)) (ci := 1) (v := .ref (a 10)) (C := RX1) (T := TX1) (N := 5) hx hb hts hin1 hown hK hP 0 rfl rfl 4 (by decide) lk34 (fun _ h9 => h9) rfl dX1_remember_11 ?_
    refine qx_Vv (C := RX4) (As := []) (rest := []) (ci := 4) (k0 := 10) (wr := (fO a) ++ (pW ((fun i => a (1 + i))) cI P) ++ ([(a 5, .inl (cI, 8, .inl Rw))]) ++ (rW ((fun i => a (6 + i))) cI 3 18 No) ++ (rW ((fun i => a (8 + i))) cI 4 24 Ma)) (ws2 := fun u => (fO a) ++ (pW ((fun i => a (1 + i))) cI P) ++ ([(a 5, .inl (cI, 8, .inl Rw))]) ++ (rW ((fun i => a (6 + i))) cI 3 18 No) ++ (rW ((fun i => a (8 + i))) cI 4 24 Ma) ++ (rW ((fun i => a (10 + i))) cI 9 72 u)) [10, 11] [0, 1, 2, 3, 4, 5, 6, 7, 8, 9] [0, 1, 2, 3, 4, 5, 6, 7, 8, 9, 10, 11] ⟨hx, hb, hml, hown, hts⟩ (c_X4_dropFirst_v9 l dC dI (fun i => a (10 + i)) cI H.size Pa  (pu : inB (Rus Pa) 72)) (cwV 0 hts gX1_remember_X4_dropFirst rfl rfl rfl (by decide +kernel) ⟨Nat.le_of_ble_eq_true rfl, Nat.le_of_ble_eq_true rfl⟩) (hK.sub [0] rfl) hK hP hD hS hA hN rfl rfl (by decide) (by decide) (by decide) (by decide) (fun _ => rfl) rfl rfl rfl rfl hl.1 rfl (Nat.le_of_ble_eq_true rfl) dX1_remember_14 ⟨Nat.zero_le _, Nat.zero_le _⟩ (fun u_14 H locs hw_14 hP hD hS => ?_)
    obtain ⟨Pa_14, rfl⟩ : ∃ z, z = u_14 := ⟨_, rfl⟩
    have hP : va_P (dC, dI) vwCl ((fO a) ++ (pW ((fun i => a (1 + i))) cI P) ++ ([(a 5, .inl (cI, 8, .inl Rw))]) ++ (rW ((fun i => a (6 + i))) cI 3 18 No) ++ (rW ((fun i => a (8 + i))) cI 4 24 Ma) ++ (rW ((fun i => a (10 + i))) cI 9 72 Pa_14)) H := hP
    have hD : va_D A ((fO a) ++ (pW ((fun i => a (1 + i))) cI P) ++ ([(a 5, .inl (cI, 8, .inl Rw))]) ++ (rW ((fun i => a (6 + i))) cI 3 18 No) ++ (rW ((fun i => a (8 + i))) cI 4 24 Ma) ++ (rW ((fun i => a (10 + i))) cI 9 72 Pa_14)) := hD
    have a_14 := dropFirst_at9 hw_14 (pu : inB (Rus Pa) 72)
    rw [hw_14, let1_mk Pa_14] at hF
    refine lv_iconst (v := nI 0) hx hb dX1_remember_17 (by decide) ?_
    refine lv_istore_n (lv' := [(1, .int (nI 0)), (0, .ref (a 0))]) hx hb dX1_remember_18 rfl hl (by decide) rfl (fun ls hl => ?_)
    have L_19 : ∀ (n_19 : Nat) (k : Nat) (Q : rS) (H : Heap) (locs : List Loc), k ≤ 6 → inB (Rus Q) 72 → 6 - k < n_19 → va_P (dC, dI) vwCl ((fO a) ++ (pW ((fun i => a (1 + i))) cI P) ++ ([(a 5, .inl (cI, 8, .inl Rw))]) ++ (rW ((fun i => a (6 + i))) cI 3 18 No) ++ (rW ((fun i => a (8 + i))) cI 4 24 Ma) ++ (rW ((fun i => a (10 + i))) cI 9 72 Q)) H → va_D A ((fO a) ++ (pW ((fun i => a (1 + i))) cI P) ++ ([(a 5, .inl (cI, 8, .inl Rw))]) ++ (rW ((fun i => a (6 + i))) cI 3 18 No) ++ (rW ((fun i => a (8 + i))) cI 4 24 Ma) ++ (rW ((fun i => a (10 + i))) cI 9 72 Q)) → va_S A s.heap H locs → ∀ (ls : Array Slot), lv_has ls 2 [(1, .int (nI k)), (0, .ref (a 0))] → OUT = let2 (F_X1_remember_L19b n_19 P k Q) (fun k Q => let1 (F_X4_put_v9 Q (Pnx P)) (fun Pa_58 => let1 (F_X4_put_v9 Pa_58 (Ppt P)) (fun Pa_72 => let1 (F_X4_put_v9 Pa_72 (Pbl P)) (fun Pa_86 => Pa_86)))) → W p l e (headSpec wsX1_remember { frames := 2, cells := 0, slots := 0, locals := 80 }).room s m ([.ref (a 0)] : List Value).toArray below meth c H locs 0 0 (MQ below (va_Qv (fun (u : (rS)) => F_X1_remember P Pa = u) (mB (dC, dI) vwCl (xT cI) A (fun u => (fO a) ++ (pW ((fun i => a (1 + i))) cI P) ++ ([(a 5, .inl (cI, 8, .inl Rw))]) ++ (rW ((fun i => a (6 + i))) cI 3 18 No) ++ (rW ((fun i => a (8 + i))) cI 4 24 Ma) ++ (rW ((fun i => a (10 + i))) cI 9 72 u))) A) ([.ref (a 0)] : List Value).toArray s 0 0 A) (F0 m 19 ls []) := by
      intro n_19
      induction n_19 with
      | zero => intro k Q H locs i0 i1 hmu; exact absurd hmu (Nat.not_lt_zero _)
      | succ n_19 ih_19 =>
        intro k Q H locs i0 i1 hmu_19 hP hD hS ls hl hF
        rw [F_X1_remember_L19b] at hF
        refine lv_iload_n hx hb dX1_remember_19 rfl (lv_at hl 0 rfl) ?_
        refine lv_bipush (v := nI 6) hx hb dX1_remember_20 (by decide) ?_
        refine qv_icmp_ge (tgt := 47) hx hb dX1_remember_22 (by decide) (by omega) (by omega) (fun c_22 => ?_) (fun c_22 => ?_)
        · rw [if_pos c_22] at hF
          rw [let2_mk (k : Nat) (Q : rS)] at hF
          refine lv_aload_n hx hb dX1_remember_47 rfl (lv_at hl 1 rfl) ?_
          refine va_get (D := (dC, dI)) (ci := 1) (v := .ref (a 10)) (C := RX1) (T := TX1) (N := 5) hx hb hts hin1 hown hK hP 0 rfl rfl 4 (by decide) lk34 (fun _ h9 => h9) rfl dX1_remember_48 ?_
          refine lv_aload_n hx hb dX1_remember_51 rfl (lv_at hl 1 rfl) ?_
          refine va_get (D := (dC, dI)) (ci := 1) (v := .ref (a 1)) (C := RX1) (T := TX1) (N := 5) hx hb hts hin1 hown hK hP 0 rfl rfl 0 (by decide) lk12 (fun _ h9 => h9) rfl dX1_remember_52 ?_
          refine va_get (D := (dC, dI)) (ci := 2) (v := .int (Pnx P)) (C := RX2) (T := TX2) (N := 8) hx hb hts hin2 hown hK hP 1 rfl rfl 5 (by decide) lk76 (fun _ h9 => h9) rfl dX1_remember_55 ?_
          refine qx_Vv (C := RX4) (As := [.int (Pnx P)]) (rest := []) (ci := 4) (k0 := 10) (wr := (fO a) ++ (pW ((fun i => a (1 + i))) cI P) ++ ([(a 5, .inl (cI, 8, .inl Rw))]) ++ (rW ((fun i => a (6 + i))) cI 3 18 No) ++ (rW ((fun i => a (8 + i))) cI 4 24 Ma)) (ws2 := fun u => (fO a) ++ (pW ((fun i => a (1 + i))) cI P) ++ ([(a 5, .inl (cI, 8, .inl Rw))]) ++ (rW ((fun i => a (6 + i))) cI 3 18 No) ++ (rW ((fun i => a (8 + i))) cI 4 24 Ma) ++ (rW ((fun i => a (10 + i))) cI 9 72 u)) [10, 11] [0, 1, 2, 3, 4, 5, 6, 7, 8, 9] [0, 1, 2, 3, 4, 5, 6, 7, 8, 9, 10, 11] ⟨hx, hb, hml, hown, hts⟩ (c_X4_put_v9 l dC dI (fun i => a (10 + i)) cI H.size Q (Pnx P) (i1 : inB (Rus Q) 72)) (cwV 1 hts gX1_remember_X4_put rfl rfl rfl (by decide +kernel) ⟨Nat.le_of_ble_eq_true rfl, Nat.le_of_ble_eq_true rfl⟩) (hK.sub [0] rfl) hK hP hD hS hA hN rfl rfl (by decide) (by decide) (by decide) (by decide) (fun _ => rfl) rfl rfl rfl rfl hl.1 rfl (Nat.le_of_ble_eq_true rfl) dX1_remember_58 ⟨Nat.zero_le _, Nat.zero_le _⟩ (fun u_58 H locs hw_58 hP hD hS => ?_)
          obtain ⟨Pa_58, rfl⟩ : ∃ z, z = u_58 := ⟨_, rfl⟩
          have hP : va_P (dC, dI) vwCl ((fO a) ++ (pW ((fun i => a (1 + i))) cI P) ++ ([(a 5, .inl (cI, 8, .inl Rw))]) ++ (rW ((fun i => a (6 + i))) cI 3 18 No) ++ (rW ((fun i => a (8 + i))) cI 4 24 Ma) ++ (rW ((fun i => a (10 + i))) cI 9 72 Pa_58)) H := hP
          have hD : va_D A ((fO a) ++ (pW ((fun i => a (1 + i))) cI P) ++ ([(a 5, .inl (cI, 8, .inl Rw))]) ++ (rW ((fun i => a (6 + i))) cI 3 18 No) ++ (rW ((fun i => a (8 + i))) cI 4 24 Ma) ++ (rW ((fun i => a (10 + i))) cI 9 72 Pa_58)) := hD
          have a_58 := put_at9 hw_58 (i1 : inB (Rus Q) 72)
          rw [hw_58, let1_mk Pa_58] at hF
          refine lv_aload_n hx hb dX1_remember_61 rfl (lv_at hl 1 rfl) ?_
          refine va_get (D := (dC, dI)) (ci := 1) (v := .ref (a 10)) (C := RX1) (T := TX1) (N := 5) hx hb hts hin1 hown hK hP 0 rfl rfl 4 (by decide) lk34 (fun _ h9 => h9) rfl dX1_remember_62 ?_
          refine lv_aload_n hx hb dX1_remember_65 rfl (lv_at hl 1 rfl) ?_
          refine va_get (D := (dC, dI)) (ci := 1) (v := .ref (a 1)) (C := RX1) (T := TX1) (N := 5) hx hb hts hin1 hown hK hP 0 rfl rfl 0 (by decide) lk12 (fun _ h9 => h9) rfl dX1_remember_66 ?_
          refine va_get (D := (dC, dI)) (ci := 2) (v := .int (Ppt P)) (C := RX2) (T := TX2) (N := 8) hx hb hts hin2 hown hK hP 1 rfl rfl 6 (by decide) lk80 (fun _ h9 => h9) rfl dX1_remember_69 ?_
          refine qx_Vv (C := RX4) (As := [.int (Ppt P)]) (rest := []) (ci := 4) (k0 := 10) (wr := (fO a) ++ (pW ((fun i => a (1 + i))) cI P) ++ ([(a 5, .inl (cI, 8, .inl Rw))]) ++ (rW ((fun i => a (6 + i))) cI 3 18 No) ++ (rW ((fun i => a (8 + i))) cI 4 24 Ma)) (ws2 := fun u => (fO a) ++ (pW ((fun i => a (1 + i))) cI P) ++ ([(a 5, .inl (cI, 8, .inl Rw))]) ++ (rW ((fun i => a (6 + i))) cI 3 18 No) ++ (rW ((fun i => a (8 + i))) cI 4 24 Ma) ++ (rW ((fun i => a (10 + i))) cI 9 72 u)) [10, 11] [0, 1, 2, 3, 4, 5, 6, 7, 8, 9] [0, 1, 2, 3, 4, 5, 6, 7, 8, 9, 10, 11] ⟨hx, hb, hml, hown, hts⟩ (c_X4_put_v9 l dC dI (fun i => a (10 + i)) cI H.size Pa_58 (Ppt P) (a_58 : inB (Rus Pa_58) 72)) (cwV 1 hts gX1_remember_X4_put rfl rfl rfl (by decide +kernel) ⟨Nat.le_of_ble_eq_true rfl, Nat.le_of_ble_eq_true rfl⟩) (hK.sub [0] rfl) hK hP hD hS hA hN rfl rfl (by decide) (by decide) (by decide) (by decide) (fun _ => rfl) rfl rfl rfl rfl hl.1 rfl (Nat.le_of_ble_eq_true rfl) dX1_remember_72 ⟨Nat.zero_le _, Nat.zero_le _⟩ (fun u_72 H locs hw_72 hP hD hS => ?_)
          obtain ⟨Pa_72, rfl⟩ : ∃ z, z = u_72 := ⟨_, rfl⟩
          have hP : va_P (dC, dI) vwCl ((fO a) ++ (pW ((fun i => a (1 + i))) cI P) ++ ([(a 5, .inl (cI, 8, .inl Rw))]) ++ (rW ((fun i => a (6 + i))) cI 3 18 No) ++ (rW ((fun i => a (8 + i))) cI 4 24 Ma) ++ (rW ((fun i => a (10 + i))) cI 9 72 Pa_72)) H := hP
          have hD : va_D A ((fO a) ++ (pW ((fun i => a (1 + i))) cI P) ++ ([(a 5, .inl (cI, 8, .inl Rw))]) ++ (rW ((fun i => a (6 + i))) cI 3 18 No) ++ (rW ((fun i => a (8 + i))) cI 4 24 Ma) ++ (rW ((fun i => a (10 + i))) cI 9 72 Pa_72)) := hD
          have a_72 := put_at9 hw_72 (a_58 : inB (Rus Pa_58) 72)
          rw [hw_72, let1_mk Pa_72] at hF
          refine lv_aload_n hx hb dX1_remember_75 rfl (lv_at hl 1 rfl) ?_
          refine va_get (D := (dC, dI)) (ci := 1) (v := .ref (a 10)) (C := RX1) (T := TX1) (N := 5) hx hb hts hin1 hown hK hP 0 rfl rfl 4 (by decide) lk34 (fun _ h9 => h9) rfl dX1_remember_76 ?_
          refine lv_aload_n hx hb dX1_remember_79 rfl (lv_at hl 1 rfl) ?_
          refine va_get (D := (dC, dI)) (ci := 1) (v := .ref (a 1)) (C := RX1) (T := TX1) (N := 5) hx hb hts hin1 hown hK hP 0 rfl rfl 0 (by decide) lk12 (fun _ h9 => h9) rfl dX1_remember_80 ?_
          refine va_get (D := (dC, dI)) (ci := 2) (v := .int (Pbl P)) (C := RX2) (T := TX2) (N := 8) hx hb hts hin2 hown hK hP 1 rfl rfl 7 (by decide) lk83 (fun _ h9 => h9) rfl dX1_remember_83 ?_
          refine qx_Vv (C := RX4) (As := [.int (Pbl P)]) (rest := []) (ci := 4) (k0 := 10) (wr := (fO a) ++ (pW ((fun i => a (1 + i))) cI P) ++ ([(a 5, .inl (cI, 8, .inl Rw))]) ++ (rW ((fun i => a (6 + i))) cI 3 18 No) ++ (rW ((fun i => a (8 + i))) cI 4 24 Ma)) (ws2 := fun u => (fO a) ++ (pW ((fun i => a (1 + i))) cI P) ++ ([(a 5, .inl (cI, 8, .inl Rw))]) ++ (rW ((fun i => a (6 + i))) cI 3 18 No) ++ (rW ((fun i => a (8 + i))) cI 4 24 Ma) ++ (rW ((fun i => a (10 + i))) cI 9 72 u)) [10, 11] [0, 1, 2, 3, 4, 5, 6, 7, 8, 9] [0, 1, 2, 3, 4, 5, 6, 7, 8, 9, 10, 11] ⟨hx, hb, hml, hown, hts⟩ (c_X4_put_v9 l dC dI (fun i => a (10 + i)) cI H.size Pa_72 (Pbl P) (a_72 : inB (Rus Pa_72) 72)) (cwV 1 hts gX1_remember_X4_put rfl rfl rfl (by decide +kernel) ⟨Nat.le_of_ble_eq_true rfl, Nat.le_of_ble_eq_true rfl⟩) (hK.sub [0] rfl) hK hP hD hS hA hN rfl rfl (by decide) (by decide) (by decide) (by decide) (fun _ => rfl) rfl rfl rfl rfl hl.1 rfl (Nat.le_of_ble_eq_true rfl) dX1_remember_86 ⟨Nat.zero_le _, Nat.zero_le _⟩ (fun u_86 H locs hw_86 hP hD hS => ?_)
          obtain ⟨Pa_86, rfl⟩ : ∃ z, z = u_86 := ⟨_, rfl⟩
          have hP : va_P (dC, dI) vwCl ((fO a) ++ (pW ((fun i => a (1 + i))) cI P) ++ ([(a 5, .inl (cI, 8, .inl Rw))]) ++ (rW ((fun i => a (6 + i))) cI 3 18 No) ++ (rW ((fun i => a (8 + i))) cI 4 24 Ma) ++ (rW ((fun i => a (10 + i))) cI 9 72 Pa_86)) H := hP
          have hD : va_D A ((fO a) ++ (pW ((fun i => a (1 + i))) cI P) ++ ([(a 5, .inl (cI, 8, .inl Rw))]) ++ (rW ((fun i => a (6 + i))) cI 3 18 No) ++ (rW ((fun i => a (8 + i))) cI 4 24 Ma) ++ (rW ((fun i => a (10 + i))) cI 9 72 Pa_86)) := hD
          have a_86 := put_at9 hw_86 (a_72 : inB (Rus Pa_72) 72)
          rw [hw_86, let1_mk Pa_86] at hF
          have hP9 : va_P (dC, dI) vwCl ((fO a) ++ (pW ((fun i => a (1 + i))) cI P) ++ ([(a 5, .inl (cI, 8, .inl Rw))]) ++ (rW ((fun i => a (6 + i))) cI 3 18 No) ++ (rW ((fun i => a (8 + i))) cI 4 24 Ma) ++ (rW ((fun i => a (10 + i))) cI 9 72 Pa_86)) H := hP
          exact W.vret hx hb hr (fun t ht hW => ⟨⟨(Pa_86), rfl, hO.symm.trans hF, by rw [ht]; exact hP9, va_K.moved hW.alike hK, hD⟩, hS.F ht⟩) hS.2.2 dX1_remember_89
        · rw [if_neg c_22] at hF
          refine lv_aload_n hx hb dX1_remember_25 rfl (lv_at hl 1 rfl) ?_
          refine va_get (D := (dC, dI)) (ci := 1) (v := .ref (a 10)) (C := RX1) (T := TX1) (N := 5) hx hb hts hin1 hown hK hP 0 rfl rfl 4 (by decide) lk34 (fun _ h9 => h9) rfl dX1_remember_26 ?_
          refine lv_aload_n hx hb dX1_remember_29 rfl (lv_at hl 1 rfl) ?_
          refine va_get (D := (dC, dI)) (ci := 1) (v := .ref (a 1)) (C := RX1) (T := TX1) (N := 5) hx hb hts hin1 hown hK hP 0 rfl rfl 0 (by decide) lk12 (fun _ h9 => h9) rfl dX1_remember_30 ?_
          refine va_get (D := (dC, dI)) (ci := 2) (v := .ref (a 4)) (C := RX2) (T := TX2) (N := 8) hx hb hts hin2 hown hK hP 1 rfl rfl 4 (by decide) lk70 (fun _ h9 => h9) rfl dX1_remember_33 ?_
          refine lv_iload_n hx hb dX1_remember_36 rfl (lv_at hl 0 rfl) ?_
          refine qv_ald (v := (Pwh P) k) hx hb hK hP 4 0 rfl rfl (by omega) (by decide) (rfl) dX1_remember_37 ?_
          refine qx_Vv (C := RX4) (As := [.int ((Pwh P) k)]) (rest := []) (ci := 4) (k0 := 10) (wr := (fO a) ++ (pW ((fun i => a (1 + i))) cI P) ++ ([(a 5, .inl (cI, 8, .inl Rw))]) ++ (rW ((fun i => a (6 + i))) cI 3 18 No) ++ (rW ((fun i => a (8 + i))) cI 4 24 Ma)) (ws2 := fun u => (fO a) ++ (pW ((fun i => a (1 + i))) cI P) ++ ([(a 5, .inl (cI, 8, .inl Rw))]) ++ (rW ((fun i => a (6 + i))) cI 3 18 No) ++ (rW ((fun i => a (8 + i))) cI 4 24 Ma) ++ (rW ((fun i => a (10 + i))) cI 9 72 u)) [10, 11] [0, 1, 2, 3, 4, 5, 6, 7, 8, 9] [0, 1, 2, 3, 4, 5, 6, 7, 8, 9, 10, 11] ⟨hx, hb, hml, hown, hts⟩ (c_X4_put_v9 l dC dI (fun i => a (10 + i)) cI H.size Q ((Pwh P) k) (i1 : inB (Rus Q) 72)) (cwV 1 hts gX1_remember_X4_put rfl rfl rfl (by decide +kernel) ⟨Nat.le_of_ble_eq_true rfl, Nat.le_of_ble_eq_true rfl⟩) (hK.sub [0] rfl) hK hP hD hS hA hN rfl rfl (by decide) (by decide) (by decide) (by decide) (fun _ => rfl) rfl rfl rfl rfl hl.1 rfl (Nat.le_of_ble_eq_true rfl) dX1_remember_38 ⟨Nat.zero_le _, Nat.zero_le _⟩ (fun u_38 H locs hw_38 hP hD hS => ?_)
          obtain ⟨Pa_38, rfl⟩ : ∃ z, z = u_38 := ⟨_, rfl⟩
          have hP : va_P (dC, dI) vwCl ((fO a) ++ (pW ((fun i => a (1 + i))) cI P) ++ ([(a 5, .inl (cI, 8, .inl Rw))]) ++ (rW ((fun i => a (6 + i))) cI 3 18 No) ++ (rW ((fun i => a (8 + i))) cI 4 24 Ma) ++ (rW ((fun i => a (10 + i))) cI 9 72 Pa_38)) H := hP
          have hD : va_D A ((fO a) ++ (pW ((fun i => a (1 + i))) cI P) ++ ([(a 5, .inl (cI, 8, .inl Rw))]) ++ (rW ((fun i => a (6 + i))) cI 3 18 No) ++ (rW ((fun i => a (8 + i))) cI 4 24 Ma) ++ (rW ((fun i => a (10 + i))) cI 9 72 Pa_38)) := hD
          have a_38 := put_at9 hw_38 (i1 : inB (Rus Q) 72)
          rw [hw_38, let1_mk Pa_38] at hF
          refine lv_iinc (v := nI (k + 1)) (lv' := [(1, .int (nI (k + 1))), (0, .ref (a 0))]) hx hb dX1_remember_41 hl (k := 0) rfl (qn_inc (c := 1) rfl (by omega)) (by decide) rfl (fun ls hl => ?_)
          refine lv_goto (tgt := 19) hx hb dX1_remember_44 (by decide) ?_
          exact ih_19 (k + 1) Pa_38 H locs (by omega) (a_38 : inB (Rus Pa_38) 72) (by omega) hP hD hS ls (lv_sub hl [0, 1] rfl) hF
    exact L_19 7 0 Pa_14 H locs (by omega) (a_14 : inB (Rus Pa_14) 72) (by omega) hP hD hS ls (lv_sub hl [0, 1] rfl) hF
def F_X1_goBack_L17 : Nat → (rS) → (Nat) → (Nat → Int32) → (Nat) × (Nat → Int32)
  | 0, _, k, w1 => (k, w1)
  | n_17 + 1, Pa, k, w1 => if 6 ≤ k then (k, w1) else let1 (F_X4_cell_v9 Pa (((tN (Rus Pa) / 9) - 1)) k) (fun r_37 => F_X1_goBack_L17 n_17 Pa (k + 1) (upd w1 k r_37))
def F_X1_goBack (P : pS) (Pa : rS) : (pS) × (rS) := let1 (F_X4_size_v9 Pa) (fun r_4 => if 0 ≤ ((nI ((tN (Rus Pa) / 9))) - (nI 1)) then let2 (F_X1_goBack_L17 7 Pa 0 (Pwh P)) (fun k w1 => let1 (F_X4_cell_v9 Pa (((tN (Rus Pa) / 9) - 1)) 6) (fun r_58 => let1 (F_X4_cell_v9 Pa (((tN (Rus Pa) / 9) - 1)) 7) (fun r_75 => let1 (F_X4_cell_v9 Pa (((tN (Rus Pa) / 9) - 1)) 8) (fun r_92 => let1 (F_X4_dropLast_v9 Pa) (fun Pa_102 => (((Pbo P, Psz P, Pkd P, Plg P, w1, r_58, r_75, r_92)), Pa_102)))))) else (P, Pa))
set_option maxHeartbeats 4000000 in
set_option maxRecDepth 100000 in
theorem c_X1_goBack (l : Launch) (dC : Nat → ClassId) (dI : Nat → Nat → Nat) (a : Nat → Nat) (cI : ClassId) (sz : Nat) (P : pS) (Rw : Nat → Int32) (No : rS) (Ma : rS) (Pa : rS) (pu : inB (Rus Pa) 72) : Met l yX1_goBack wsX1_goBack { frames := 2, cells := 0, slots := 0, locals := 34 } (xPc (dC, dI) vwCl (xT cI) ((fO a) ++ (pW ((fun i => a (1 + i))) cI P) ++ ([(a 5, .inl (cI, 8, .inl Rw))]) ++ (rW ((fun i => a (6 + i))) cI 3 18 No) ++ (rW ((fun i => a (8 + i))) cI 4 24 Ma) ++ (rW ((fun i => a (10 + i))) cI 9 72 Pa)) sz [.ref (a 0)]) (va_Qv (fun (u : (pS) × (rS)) => F_X1_goBack P Pa = u) (mB (dC, dI) vwCl (xT cI) (va_A ((fO a) ++ (pW ((fun i => a (1 + i))) cI P) ++ ([(a 5, .inl (cI, 8, .inl Rw))]) ++ (rW ((fun i => a (6 + i))) cI 3 18 No) ++ (rW ((fun i => a (8 + i))) cI 4 24 Ma) ++ (rW ((fun i => a (10 + i))) cI 9 72 Pa)) sz) (fun u => (fO a) ++ (pW ((fun i => a (1 + i))) cI (u.1)) ++ ([(a 5, .inl (cI, 8, .inl Rw))]) ++ (rW ((fun i => a (6 + i))) cI 3 18 No) ++ (rW ((fun i => a (8 + i))) cI 4 24 Ma) ++ (rW ((fun i => a (10 + i))) cI 9 72 (u.2)))) (va_A ((fO a) ++ (pW ((fun i => a (1 + i))) cI P) ++ ([(a 5, .inl (cI, 8, .inl Rw))]) ++ (rW ((fun i => a (6 + i))) cI 3 18 No) ++ (rW ((fun i => a (8 + i))) cI 4 24 Ma) ++ (rW ((fun i => a (10 + i))) cI 9 72 Pa)) sz)) 0 0 (va_A ((fO a) ++ (pW ((fun i => a (1 + i))) cI P) ++ ([(a 5, .inl (cI, 8, .inl Rw))]) ++ (rW ((fun i => a (6 + i))) cI 3 18 No) ++ (rW ((fun i => a (8 + i))) cI 4 24 Ma) ++ (rW ((fun i => a (10 + i))) cI 9 72 Pa)) sz) := by
  refine Met.ofW (cc := cX1_goBack) (maxL := 3) (ret := none) (by decide) rfl ?_
  intro p e s m args below meth c s₁ B hml hv
  obtain ⟨rfl, hsz, hP, hK, hD0, hN⟩ := hv
  have hx := B.exec
  have hb := B.bytes
  have hr := B.returns
  have hts := atoms_spec (ws := wsX1_goBack) B.pre
  have hown : s.vm.findClass RX1 = some m.cls := findClass_of_methodNamed B.named
  have hlocks := B.notSynchronized
  subst hsz
  have hD := hD0.self (sz := s.heap.size)
  generalize hAe : va_A ((fO a) ++ (pW ((fun i => a (1 + i))) cI P) ++ ([(a 5, .inl (cI, 8, .inl Rw))]) ++ (rW ((fun i => a (6 + i))) cI 3 18 No) ++ (rW ((fun i => a (8 + i))) cI 4 24 Ma) ++ (rW ((fun i => a (10 + i))) cI 9 72 Pa)) s.heap.size = A at hD ⊢
  have hA : ∀ q : Nat, s.heap.size ≤ q → A q := fun q h => by rw [← hAe]; exact Or.inr h
  have hS : va_S A s.heap s.heap [] := va_S.rf
  have hin1 : ∀ w ∈ wsX10, w ∈ wsX1_goBack := by decide +kernel
  have hin2 : ∀ w ∈ wsX20, w ∈ wsX1_goBack := by decide +kernel
  have lk12 := hts (.fieldLink RX1 12 "PostRounders$Field" "play" "LPostRounders$Play;") (by decide +kernel)
  have lk34 := hts (.fieldLink RX1 34 "PostRounders$Field" "past" "LPostRounders$Rows;") (by decide +kernel)
  have lk70 := hts (.fieldLink RX1 70 "PostRounders$Play" "where" "[I") (by decide +kernel)
  have lk76 := hts (.fieldLink RX1 76 "PostRounders$Play" "next" "I") (by decide +kernel)
  have lk80 := hts (.fieldLink RX1 80 "PostRounders$Play" "points" "I") (by decide +kernel)
  have lk83 := hts (.fieldLink RX1 83 "PostRounders$Play" "balls" "I") (by decide +kernel)
  have hl := lv_entry ([.ref (a 0)]) (n := 3) (Nat.le_of_ble_eq_true rfl)
  rw [lg_entry_eq]
  generalize (lg_sl ([.ref (a 0)]) ++ List.replicate (3 - (lg_sl ([.ref (a 0)])).length) Slot.unset).toArray = ls at hl ⊢
  have hl : lv_has ls 3 [(0, .ref (a 0))] := hl
  obtain ⟨OUT, hO⟩ : ∃ z, z = F_X1_goBack P Pa := ⟨_, rfl⟩
  have hF := hO
  unfold F_X1_goBack at hF
  have e_pu := tN_eq pu.1
  have b_pu := pu.2
  refine lv_aload_n hx hb dX1_goBack_0 rfl (lv_at hl 0 rfl) ?_
  refine va_get (D := (dC, dI)) (ci := 1) (v := .ref (a 10)) (C := RX1) (T := TX1) (N := 5) hx hb hts hin1 hown hK hP 0 rfl rfl 4 (by decide) lk34 (fun _ h9 => h9) rfl dX1_goBack_1 ?_
  refine qx_Vi (C := RX4) (As := []) (rest := []) (ci := 4) (k0 := 10) (wr := (fO a) ++ (pW ((fun i => a (1 + i))) cI P) ++ ([(a 5, .inl (cI, 8, .inl Rw))]) ++ (rW ((fun i => a (6 + i))) cI 3 18 No) ++ (rW ((fun i => a (8 + i))) cI 4 24 Ma)) (ws2 := fun u => (fO a) ++ (pW ((fun i => a (1 + i))) cI P) ++ ([(a 5, .inl (cI, 8, .inl Rw))]) ++ (rW ((fun i => a (6 + i))) cI 3 18 No) ++ (rW ((fun i => a (8 + i))) cI 4 24 Ma) ++ (rW ((fun i => a (10 + i))) cI 9 72 Pa)) [10, 11] [0, 1, 2, 3, 4, 5, 6, 7, 8, 9] [0, 1, 2, 3, 4, 5, 6, 7, 8, 9, 10, 11] ⟨hx, hb, hml, hown, hts⟩ (c_X4_size_v9 l dC dI (fun i => a (10 + i)) cI s.heap.size Pa  (pu : inB (Rus Pa) 72)) (cwV 0 hts gX1_goBack_X4_size rfl rfl rfl (by decide +kernel) ⟨Nat.le_of_ble_eq_true rfl, Nat.le_of_ble_eq_true rfl⟩) (hK.sub [0] rfl) hK hP hD hS hA hN rfl rfl (by decide) (by decide) (by decide) (by decide) (fun _ => rfl) rfl rfl rfl rfl hl.1 rfl (Nat.le_of_ble_eq_true rfl) dX1_goBack_4 ⟨Nat.zero_le _, Nat.zero_le _⟩ (fun r_4 u_4 H locs hw_4 hP hD hS => ?_)
  have hP : va_P (dC, dI) vwCl ((fO a) ++ (pW ((fun i => a (1 + i))) cI P) ++ ([(a 5, .inl (cI, 8, .inl Rw))]) ++ (rW ((fun i => a (6 + i))) cI 3 18 No) ++ (rW ((fun i => a (8 + i))) cI 4 24 Ma) ++ (rW ((fun i => a (10 + i))) cI 9 72 Pa)) H := hP
  have hD : va_D A ((fO a) ++ (pW ((fun i => a (1 + i))) cI P) ++ ([(a 5, .inl (cI, 8, .inl Rw))]) ++ (rW ((fun i => a (6 + i))) cI 3 18 No) ++ (rW ((fun i => a (8 + i))) cI 4 24 Ma) ++ (rW ((fun i => a (10 + i))) cI 9 72 Pa)) := hD
  have e_4 : r_4 = nI (tN (Rus Pa) / 9) := hw_4.symm
  refine qv_top (e_4) ?_
  rw [hw_4, let1_mk r_4] at hF
  refine lv_iconst (v := nI 1) hx hb dX1_goBack_7 (by decide) ?_
  refine lv_isub hx hb dX1_goBack_8 ?_
  refine lv_istore_n (lv' := [(1, .int ((nI ((tN (Rus Pa) / 9))) - (nI 1))), (0, .ref (a 0))]) hx hb dX1_goBack_9 rfl hl (by decide) rfl (fun ls hl => ?_)
  refine lv_iload_n hx hb dX1_goBack_10 rfl (lv_at hl 0 rfl) ?_
  refine lv_if_ge (tgt := 15) hx hb dX1_goBack_11 (by decide) (fun c_11 => ?_) (fun c_11 => ?_)
  · rw [if_pos c_11] at hF
    have g_p := pred_pos2 c_11
    refine lv_iconst (v := nI 0) hx hb dX1_goBack_15 (by decide) ?_
    refine lv_istore_n (lv' := [(2, .int (nI 0)), (1, .int ((nI ((tN (Rus Pa) / 9))) - (nI 1))), (0, .ref (a 0))]) hx hb dX1_goBack_16 rfl hl (by decide) rfl (fun ls hl => ?_)
    have L_17 : ∀ (n_17 : Nat) (k : Nat) (w1 : Nat → Int32) (H : Heap) (locs : List Loc), k ≤ 6 → 6 - k < n_17 → va_P (dC, dI) vwCl ((fO a) ++ (pW ((fun i => a (1 + i))) cI ((Pbo P, Psz P, Pkd P, Plg P, w1, Pnx P, Ppt P, Pbl P))) ++ ([(a 5, .inl (cI, 8, .inl Rw))]) ++ (rW ((fun i => a (6 + i))) cI 3 18 No) ++ (rW ((fun i => a (8 + i))) cI 4 24 Ma) ++ (rW ((fun i => a (10 + i))) cI 9 72 Pa)) H → va_D A ((fO a) ++ (pW ((fun i => a (1 + i))) cI ((Pbo P, Psz P, Pkd P, Plg P, w1, Pnx P, Ppt P, Pbl P))) ++ ([(a 5, .inl (cI, 8, .inl Rw))]) ++ (rW ((fun i => a (6 + i))) cI 3 18 No) ++ (rW ((fun i => a (8 + i))) cI 4 24 Ma) ++ (rW ((fun i => a (10 + i))) cI 9 72 Pa)) → va_S A s.heap H locs → ∀ (ls : Array Slot), lv_has ls 3 [(2, .int (nI k)), (1, .int ((nI ((tN (Rus Pa) / 9))) - (nI 1))), (0, .ref (a 0))] → OUT = let2 (F_X1_goBack_L17 n_17 Pa k w1) (fun k w1 => let1 (F_X4_cell_v9 Pa (((tN (Rus Pa) / 9) - 1)) 6) (fun r_58 => let1 (F_X4_cell_v9 Pa (((tN (Rus Pa) / 9) - 1)) 7) (fun r_75 => let1 (F_X4_cell_v9 Pa (((tN (Rus Pa) / 9) - 1)) 8) (fun r_92 => let1 (F_X4_dropLast_v9 Pa) (fun Pa_102 => (((Pbo P, Psz P, Pkd P, Plg P, w1, r_58, r_75, r_92)), Pa_102)))))) → W p l e (headSpec wsX1_goBack { frames := 2, cells := 0, slots := 0, locals := 34 }).room s m ([.ref (a 0)] : List Value).toArray below meth c H locs 0 0 (MQ below (va_Qv (fun (u : (pS) × (rS)) => F_X1_goBack P Pa = u) (mB (dC, dI) vwCl (xT cI) A (fun u => (fO a) ++ (pW ((fun i => a (1 + i))) cI (u.1)) ++ ([(a 5, .inl (cI, 8, .inl Rw))]) ++ (rW ((fun i => a (6 + i))) cI 3 18 No) ++ (rW ((fun i => a (8 + i))) cI 4 24 Ma) ++ (rW ((fun i => a (10 + i))) cI 9 72 (u.2)))) A) ([.ref (a 0)] : List Value).toArray s 0 0 A) (F0 m 17 ls []) := by
      intro n_17
      induction n_17 with
      | zero => intro k w1 H locs i0 hmu; exact absurd hmu (Nat.not_lt_zero _)
      | succ n_17 ih_17 =>
        intro k w1 H locs i0 hmu_17 hP hD hS ls hl hF
        rw [F_X1_goBack_L17] at hF
        refine lv_iload_n hx hb dX1_goBack_17 rfl (lv_at hl 0 rfl) ?_
        refine lv_bipush (v := nI 6) hx hb dX1_goBack_18 (by decide) ?_
        refine qv_icmp_ge (tgt := 47) hx hb dX1_goBack_20 (by decide) (by omega) (by omega) (fun c_20 => ?_) (fun c_20 => ?_)
        · rw [if_pos c_20] at hF
          rw [let2_mk (k : Nat) (w1 : Nat → Int32)] at hF
          refine lv_aload_n hx hb dX1_goBack_47 rfl (lv_at hl 2 rfl) ?_
          refine va_get (D := (dC, dI)) (ci := 1) (v := .ref (a 1)) (C := RX1) (T := TX1) (N := 5) hx hb hts hin1 hown hK hP 0 rfl rfl 0 (by decide) lk12 (fun _ h9 => h9) rfl dX1_goBack_48 ?_
          refine lv_aload_n hx hb dX1_goBack_51 rfl (lv_at hl 2 rfl) ?_
          refine va_get (D := (dC, dI)) (ci := 1) (v := .ref (a 10)) (C := RX1) (T := TX1) (N := 5) hx hb hts hin1 hown hK hP 0 rfl rfl 4 (by decide) lk34 (fun _ h9 => h9) rfl dX1_goBack_52 ?_
          refine lv_iload_n hx hb dX1_goBack_55 rfl (lv_at hl 1 rfl) ?_
          refine qv_top (pred_eq g_p) ?_
          refine lv_bipush (v := nI 6) hx hb dX1_goBack_56 (by decide) ?_
          refine qx_Vi (C := RX4) (As := [.int (nI (((tN (Rus Pa) / 9) - 1))), .int (nI 6)]) (rest := [.ref (a 1)]) (ci := 4) (k0 := 10) (wr := (fO a) ++ (pW ((fun i => a (1 + i))) cI ((Pbo P, Psz P, Pkd P, Plg P, w1, Pnx P, Ppt P, Pbl P))) ++ ([(a 5, .inl (cI, 8, .inl Rw))]) ++ (rW ((fun i => a (6 + i))) cI 3 18 No) ++ (rW ((fun i => a (8 + i))) cI 4 24 Ma)) (ws2 := fun u => (fO a) ++ (pW ((fun i => a (1 + i))) cI ((Pbo P, Psz P, Pkd P, Plg P, w1, Pnx P, Ppt P, Pbl P))) ++ ([(a 5, .inl (cI, 8, .inl Rw))]) ++ (rW ((fun i => a (6 + i))) cI 3 18 No) ++ (rW ((fun i => a (8 + i))) cI 4 24 Ma) ++ (rW ((fun i => a (10 + i))) cI 9 72 Pa)) [10, 11] [0, 1, 2, 3, 4, 5, 6, 7, 8, 9] [0, 1, 2, 3, 4, 5, 6, 7, 8, 9, 10, 11] ⟨hx, hb, hml, hown, hts⟩ (c_X4_cell_v9 l dC dI (fun i => a (10 + i)) cI H.size Pa (((tN (Rus Pa) / 9) - 1)) 6 (pu : inB (Rus Pa) 72) (by omega) (by omega)) (cwV 2 hts gX1_goBack_X4_cell rfl rfl rfl (by decide +kernel) ⟨Nat.le_of_ble_eq_true rfl, Nat.le_of_ble_eq_true rfl⟩) (hK.sub [0] rfl) hK hP hD hS hA hN rfl rfl (by decide) (by decide) (by decide) (by decide) (fun _ => rfl) rfl rfl rfl rfl hl.1 rfl (Nat.le_of_ble_eq_true rfl) dX1_goBack_58 ⟨Nat.zero_le _, Nat.zero_le _⟩ (fun r_58 u_58 H locs hw_58 hP hD hS => ?_)
          have hP : va_P (dC, dI) vwCl ((fO a) ++ (pW ((fun i => a (1 + i))) cI ((Pbo P, Psz P, Pkd P, Plg P, w1, Pnx P, Ppt P, Pbl P))) ++ ([(a 5, .inl (cI, 8, .inl Rw))]) ++ (rW ((fun i => a (6 + i))) cI 3 18 No) ++ (rW ((fun i => a (8 + i))) cI 4 24 Ma) ++ (rW ((fun i => a (10 + i))) cI 9 72 Pa)) H := hP
          have hD : va_D A ((fO a) ++ (pW ((fun i => a (1 + i))) cI ((Pbo P, Psz P, Pkd P, Plg P, w1, Pnx P, Ppt P, Pbl P))) ++ ([(a 5, .inl (cI, 8, .inl Rw))]) ++ (rW ((fun i => a (6 + i))) cI 3 18 No) ++ (rW ((fun i => a (8 + i))) cI 4 24 Ma) ++ (rW ((fun i => a (10 + i))) cI 9 72 Pa)) := hD
          rw [hw_58, let1_mk r_58] at hF
          refine va_put (D := (dC, dI)) (ci := 2) (v := .int r_58) (ty := .int) (C := RX2) (T := TX2) (N := 8) hx hb hts hin2 tyX2 tyX2_ok nmX2 hown hK hP hD hS 1 rfl rfl 5 (by decide) lk76 (fun _ h9 => h9) rfl (by decide +kernel) rfl rfl (Nat.le_of_ble_eq_true rfl) dX1_goBack_61 (fun H locs hP hD hS => ?_)
          have hP : va_P (dC, dI) vwCl ((fO a) ++ (pW ((fun i => a (1 + i))) cI ((Pbo P, Psz P, Pkd P, Plg P, w1, r_58, Ppt P, Pbl P))) ++ ([(a 5, .inl (cI, 8, .inl Rw))]) ++ (rW ((fun i => a (6 + i))) cI 3 18 No) ++ (rW ((fun i => a (8 + i))) cI 4 24 Ma) ++ (rW ((fun i => a (10 + i))) cI 9 72 Pa)) H := hP
          have hD : va_D A ((fO a) ++ (pW ((fun i => a (1 + i))) cI ((Pbo P, Psz P, Pkd P, Plg P, w1, r_58, Ppt P, Pbl P))) ++ ([(a 5, .inl (cI, 8, .inl Rw))]) ++ (rW ((fun i => a (6 + i))) cI 3 18 No) ++ (rW ((fun i => a (8 + i))) cI 4 24 Ma) ++ (rW ((fun i => a (10 + i))) cI 9 72 Pa)) := hD
          refine lv_aload_n hx hb dX1_goBack_64 rfl (lv_at hl 2 rfl) ?_
          refine va_get (D := (dC, dI)) (ci := 1) (v := .ref (a 1)) (C := RX1) (T := TX1) (N := 5) hx hb hts hin1 hown hK hP 0 rfl rfl 0 (by decide) lk12 (fun _ h9 => h9) rfl dX1_goBack_65 ?_
          refine lv_aload_n hx hb dX1_goBack_68 rfl (lv_at hl 2 rfl) ?_
          refine va_get (D := (dC, dI)) (ci := 1) (v := .ref (a 10)) (C := RX1) (T := TX1) (N := 5) hx hb hts hin1 hown hK hP 0 rfl rfl 4 (by decide) lk34 (fun _ h9 => h9) rfl dX1_goBack_69 ?_
          refine lv_iload_n hx hb dX1_goBack_72 rfl (lv_at hl 1 rfl) ?_
          refine qv_top (pred_eq g_p) ?_
          refine lv_bipush (v := nI 7) hx hb dX1_goBack_73 (by decide) ?_
          refine qx_Vi (C := RX4) (As := [.int (nI (((tN (Rus Pa) / 9) - 1))), .int (nI 7)]) (rest := [.ref (a 1)]) (ci := 4) (k0 := 10) (wr := (fO a) ++ (pW ((fun i => a (1 + i))) cI ((Pbo P, Psz P, Pkd P, Plg P, w1, r_58, Ppt P, Pbl P))) ++ ([(a 5, .inl (cI, 8, .inl Rw))]) ++ (rW ((fun i => a (6 + i))) cI 3 18 No) ++ (rW ((fun i => a (8 + i))) cI 4 24 Ma)) (ws2 := fun u => (fO a) ++ (pW ((fun i => a (1 + i))) cI ((Pbo P, Psz P, Pkd P, Plg P, w1, r_58, Ppt P, Pbl P))) ++ ([(a 5, .inl (cI, 8, .inl Rw))]) ++ (rW ((fun i => a (6 + i))) cI 3 18 No) ++ (rW ((fun i => a (8 + i))) cI 4 24 Ma) ++ (rW ((fun i => a (10 + i))) cI 9 72 Pa)) [10, 11] [0, 1, 2, 3, 4, 5, 6, 7, 8, 9] [0, 1, 2, 3, 4, 5, 6, 7, 8, 9, 10, 11] ⟨hx, hb, hml, hown, hts⟩ (c_X4_cell_v9 l dC dI (fun i => a (10 + i)) cI H.size Pa (((tN (Rus Pa) / 9) - 1)) 7 (pu : inB (Rus Pa) 72) (by omega) (by omega)) (cwV 2 hts gX1_goBack_X4_cell rfl rfl rfl (by decide +kernel) ⟨Nat.le_of_ble_eq_true rfl, Nat.le_of_ble_eq_true rfl⟩) (hK.sub [0] rfl) hK hP hD hS hA hN rfl rfl (by decide) (by decide) (by decide) (by decide) (fun _ => rfl) rfl rfl rfl rfl hl.1 rfl (Nat.le_of_ble_eq_true rfl) dX1_goBack_75 ⟨Nat.zero_le _, Nat.zero_le _⟩ (fun r_75 u_75 H locs hw_75 hP hD hS => ?_)
          have hP : va_P (dC, dI) vwCl ((fO a) ++ (pW ((fun i => a (1 + i))) cI ((Pbo P, Psz P, Pkd P, Plg P, w1, r_58, Ppt P, Pbl P))) ++ ([(a 5, .inl (cI, 8, .inl Rw))]) ++ (rW ((fun i => a (6 + i))) cI 3 18 No) ++ (rW ((fun i => a (8 + i))) cI 4 24 Ma) ++ (rW ((fun i => a (10 + i))) cI 9 72 Pa)) H := hP
          have hD : va_D A ((fO a) ++ (pW ((fun i => a (1 + i))) cI ((Pbo P, Psz P, Pkd P, Plg P, w1, r_58, Ppt P, Pbl P))) ++ ([(a 5, .inl (cI, 8, .inl Rw))]) ++ (rW ((fun i => a (6 + i))) cI 3 18 No) ++ (rW ((fun i => a (8 + i))) cI 4 24 Ma) ++ (rW ((fun i => a (10 + i))) cI 9 72 Pa)) := hD
          rw [hw_75, let1_mk r_75] at hF
          refine va_put (D := (dC, dI)) (ci := 2) (v := .int r_75) (ty := .int) (C := RX2) (T := TX2) (N := 8) hx hb hts hin2 tyX2 tyX2_ok nmX2 hown hK hP hD hS 1 rfl rfl 6 (by decide) lk80 (fun _ h9 => h9) rfl (by decide +kernel) rfl rfl (Nat.le_of_ble_eq_true rfl) dX1_goBack_78 (fun H locs hP hD hS => ?_)
          have hP : va_P (dC, dI) vwCl ((fO a) ++ (pW ((fun i => a (1 + i))) cI ((Pbo P, Psz P, Pkd P, Plg P, w1, r_58, r_75, Pbl P))) ++ ([(a 5, .inl (cI, 8, .inl Rw))]) ++ (rW ((fun i => a (6 + i))) cI 3 18 No) ++ (rW ((fun i => a (8 + i))) cI 4 24 Ma) ++ (rW ((fun i => a (10 + i))) cI 9 72 Pa)) H := hP
          have hD : va_D A ((fO a) ++ (pW ((fun i => a (1 + i))) cI ((Pbo P, Psz P, Pkd P, Plg P, w1, r_58, r_75, Pbl P))) ++ ([(a 5, .inl (cI, 8, .inl Rw))]) ++ (rW ((fun i => a (6 + i))) cI 3 18 No) ++ (rW ((fun i => a (8 + i))) cI 4 24 Ma) ++ (rW ((fun i => a (10 + i))) cI 9 72 Pa)) := hD
          refine lv_aload_n hx hb dX1_goBack_81 rfl (lv_at hl 2 rfl) ?_
          refine va_get (D := (dC, dI)) (ci := 1) (v := .ref (a 1)) (C := RX1) (T := TX1) (N := 5) hx hb hts hin1 hown hK hP 0 rfl rfl 0 (by decide) lk12 (fun _ h9 => h9) rfl dX1_goBack_82 ?_
          refine lv_aload_n hx hb dX1_goBack_85 rfl (lv_at hl 2 rfl) ?_
          refine va_get (D := (dC, dI)) (ci := 1) (v := .ref (a 10)) (C := RX1) (T := TX1) (N := 5) hx hb hts hin1 hown hK hP 0 rfl rfl 4 (by decide) lk34 (fun _ h9 => h9) rfl dX1_goBack_86 ?_
          refine lv_iload_n hx hb dX1_goBack_89 rfl (lv_at hl 1 rfl) ?_
          refine qv_top (pred_eq g_p) ?_
          refine lv_bipush (v := nI 8) hx hb dX1_goBack_90 (by decide) ?_
          refine qx_Vi (C := RX4) (As := [.int (nI (((tN (Rus Pa) / 9) - 1))), .int (nI 8)]) (rest := [.ref (a 1)]) (ci := 4) (k0 := 10) (wr := (fO a) ++ (pW ((fun i => a (1 + i))) cI ((Pbo P, Psz P, Pkd P, Plg P, w1, r_58, r_75, Pbl P))) ++ ([(a 5, .inl (cI, 8, .inl Rw))]) ++ (rW ((fun i => a (6 + i))) cI 3 18 No) ++ (rW ((fun i => a (8 + i))) cI 4 24 Ma)) (ws2 := fun u => (fO a) ++ (pW ((fun i => a (1 + i))) cI ((Pbo P, Psz P, Pkd P, Plg P, w1, r_58, r_75, Pbl P))) ++ ([(a 5, .inl (cI, 8, .inl Rw))]) ++ (rW ((fun i => a (6 + i))) cI 3 18 No) ++ (rW ((fun i => a (8 + i))) cI 4 24 Ma) ++ (rW ((fun i => a (10 + i))) cI 9 72 Pa)) [10, 11] [0, 1, 2, 3, 4, 5, 6, 7, 8, 9] [0, 1, 2, 3, 4, 5, 6, 7, 8, 9, 10, 11] ⟨hx, hb, hml, hown, hts⟩ (c_X4_cell_v9 l dC dI (fun i => a (10 + i)) cI H.size Pa (((tN (Rus Pa) / 9) - 1)) 8 (pu : inB (Rus Pa) 72) (by omega) (by omega)) (cwV 2 hts gX1_goBack_X4_cell rfl rfl rfl (by decide +kernel) ⟨Nat.le_of_ble_eq_true rfl, Nat.le_of_ble_eq_true rfl⟩) (hK.sub [0] rfl) hK hP hD hS hA hN rfl rfl (by decide) (by decide) (by decide) (by decide) (fun _ => rfl) rfl rfl rfl rfl hl.1 rfl (Nat.le_of_ble_eq_true rfl) dX1_goBack_92 ⟨Nat.zero_le _, Nat.zero_le _⟩ (fun r_92 u_92 H locs hw_92 hP hD hS => ?_)
          have hP : va_P (dC, dI) vwCl ((fO a) ++ (pW ((fun i => a (1 + i))) cI ((Pbo P, Psz P, Pkd P, Plg P, w1, r_58, r_75, Pbl P))) ++ ([(a 5, .inl (cI, 8, .inl Rw))]) ++ (rW ((fun i => a (6 + i))) cI 3 18 No) ++ (rW ((fun i => a (8 + i))) cI 4 24 Ma) ++ (rW ((fun i => a (10 + i))) cI 9 72 Pa)) H := hP
          have hD : va_D A ((fO a) ++ (pW ((fun i => a (1 + i))) cI ((Pbo P, Psz P, Pkd P, Plg P, w1, r_58, r_75, Pbl P))) ++ ([(a 5, .inl (cI, 8, .inl Rw))]) ++ (rW ((fun i => a (6 + i))) cI 3 18 No) ++ (rW ((fun i => a (8 + i))) cI 4 24 Ma) ++ (rW ((fun i => a (10 + i))) cI 9 72 Pa)) := hD
          rw [hw_92, let1_mk r_92] at hF
          refine va_put (D := (dC, dI)) (ci := 2) (v := .int r_92) (ty := .int) (C := RX2) (T := TX2) (N := 8) hx hb hts hin2 tyX2 tyX2_ok nmX2 hown hK hP hD hS 1 rfl rfl 7 (by decide) lk83 (fun _ h9 => h9) rfl (by decide +kernel) rfl rfl (Nat.le_of_ble_eq_true rfl) dX1_goBack_95 (fun H locs hP hD hS => ?_)
          have hP : va_P (dC, dI) vwCl ((fO a) ++ (pW ((fun i => a (1 + i))) cI ((Pbo P, Psz P, Pkd P, Plg P, w1, r_58, r_75, r_92))) ++ ([(a 5, .inl (cI, 8, .inl Rw))]) ++ (rW ((fun i => a (6 + i))) cI 3 18 No) ++ (rW ((fun i => a (8 + i))) cI 4 24 Ma) ++ (rW ((fun i => a (10 + i))) cI 9 72 Pa)) H := hP
          have hD : va_D A ((fO a) ++ (pW ((fun i => a (1 + i))) cI ((Pbo P, Psz P, Pkd P, Plg P, w1, r_58, r_75, r_92))) ++ ([(a 5, .inl (cI, 8, .inl Rw))]) ++ (rW ((fun i => a (6 + i))) cI 3 18 No) ++ (rW ((fun i => a (8 + i))) cI 4 24 Ma) ++ (rW ((fun i => a (10 + i))) cI 9 72 Pa)) := hD
          refine lv_aload_n hx hb dX1_goBack_98 rfl (lv_at hl 2 rfl) ?_
          refine va_get (D := (dC, dI)) (ci := 1) (v := .ref (a 10)) (C := RX1) (T := TX1) (N := 5) hx hb hts hin1 hown hK hP 0 rfl rfl 4 (by decide) lk34 (fun _ h9 => h9) rfl dX1_goBack_99 ?_
          refine qx_Vv (C := RX4) (As := []) (rest := []) (ci := 4) (k0 := 10) (wr := (fO a) ++ (pW ((fun i => a (1 + i))) cI ((Pbo P, Psz P, Pkd P, Plg P, w1, r_58, r_75, r_92))) ++ ([(a 5, .inl (cI, 8, .inl Rw))]) ++ (rW ((fun i => a (6 + i))) cI 3 18 No) ++ (rW ((fun i => a (8 + i))) cI 4 24 Ma)) (ws2 := fun u => (fO a) ++ (pW ((fun i => a (1 + i))) cI ((Pbo P, Psz P, Pkd P, Plg P, w1, r_58, r_75, r_92))) ++ ([(a 5, .inl (cI, 8, .inl Rw))]) ++ (rW ((fun i => a (6 + i))) cI 3 18 No) ++ (rW ((fun i => a (8 + i))) cI 4 24 Ma) ++ (rW ((fun i => a (10 + i))) cI 9 72 u)) [10, 11] [0, 1, 2, 3, 4, 5, 6, 7, 8, 9] [0, 1, 2, 3, 4, 5, 6, 7, 8, 9, 10, 11] ⟨hx, hb, hml, hown, hts⟩ (c_X4_dropLast_v9 l dC dI (fun i => a (10 + i)) cI H.size Pa  (pu : inB (Rus Pa) 72)) (cwV 0 hts gX1_goBack_X4_dropLast rfl rfl rfl (by decide +kernel) ⟨Nat.le_of_ble_eq_true rfl, Nat.le_of_ble_eq_true rfl⟩) (hK.sub [0] rfl) hK hP hD hS hA hN rfl rfl (by decide) (by decide) (by decide) (by decide) (fun _ => rfl) rfl rfl rfl rfl hl.1 rfl (Nat.le_of_ble_eq_true rfl) dX1_goBack_102 ⟨Nat.zero_le _, Nat.zero_le _⟩ (fun u_102 H locs hw_102 hP hD hS => ?_)
          obtain ⟨Pa_102, rfl⟩ : ∃ z, z = u_102 := ⟨_, rfl⟩
          have hP : va_P (dC, dI) vwCl ((fO a) ++ (pW ((fun i => a (1 + i))) cI ((Pbo P, Psz P, Pkd P, Plg P, w1, r_58, r_75, r_92))) ++ ([(a 5, .inl (cI, 8, .inl Rw))]) ++ (rW ((fun i => a (6 + i))) cI 3 18 No) ++ (rW ((fun i => a (8 + i))) cI 4 24 Ma) ++ (rW ((fun i => a (10 + i))) cI 9 72 Pa_102)) H := hP
          have hD : va_D A ((fO a) ++ (pW ((fun i => a (1 + i))) cI ((Pbo P, Psz P, Pkd P, Plg P, w1, r_58, r_75, r_92))) ++ ([(a 5, .inl (cI, 8, .inl Rw))]) ++ (rW ((fun i => a (6 + i))) cI 3 18 No) ++ (rW ((fun i => a (8 + i))) cI 4 24 Ma) ++ (rW ((fun i => a (10 + i))) cI 9 72 Pa_102)) := hD
          rw [hw_102, let1_mk Pa_102] at hF
          have hP9 : va_P (dC, dI) vwCl ((fO a) ++ (pW ((fun i => a (1 + i))) cI ((Pbo P, Psz P, Pkd P, Plg P, w1, r_58, r_75, r_92))) ++ ([(a 5, .inl (cI, 8, .inl Rw))]) ++ (rW ((fun i => a (6 + i))) cI 3 18 No) ++ (rW ((fun i => a (8 + i))) cI 4 24 Ma) ++ (rW ((fun i => a (10 + i))) cI 9 72 Pa_102)) H := hP
          exact W.vret hx hb hr (fun t ht hW => ⟨⟨(((Pbo P, Psz P, Pkd P, Plg P, w1, r_58, r_75, r_92), Pa_102)), rfl, hO.symm.trans hF, by rw [ht]; exact hP9, va_K.moved hW.alike hK, hD⟩, hS.F ht⟩) hS.2.2 dX1_goBack_105
        · rw [if_neg c_20] at hF
          refine lv_aload_n hx hb dX1_goBack_23 rfl (lv_at hl 2 rfl) ?_
          refine va_get (D := (dC, dI)) (ci := 1) (v := .ref (a 1)) (C := RX1) (T := TX1) (N := 5) hx hb hts hin1 hown hK hP 0 rfl rfl 0 (by decide) lk12 (fun _ h9 => h9) rfl dX1_goBack_24 ?_
          refine va_get (D := (dC, dI)) (ci := 2) (v := .ref (a 4)) (C := RX2) (T := TX2) (N := 8) hx hb hts hin2 hown hK hP 1 rfl rfl 4 (by decide) lk70 (fun _ h9 => h9) rfl dX1_goBack_27 ?_
          refine lv_iload_n hx hb dX1_goBack_30 rfl (lv_at hl 0 rfl) ?_
          refine lv_aload_n hx hb dX1_goBack_31 rfl (lv_at hl 2 rfl) ?_
          refine va_get (D := (dC, dI)) (ci := 1) (v := .ref (a 10)) (C := RX1) (T := TX1) (N := 5) hx hb hts hin1 hown hK hP 0 rfl rfl 4 (by decide) lk34 (fun _ h9 => h9) rfl dX1_goBack_32 ?_
          refine lv_iload_n hx hb dX1_goBack_35 rfl (lv_at hl 1 rfl) ?_
          refine qv_top (pred_eq g_p) ?_
          refine lv_iload_n hx hb dX1_goBack_36 rfl (lv_at hl 0 rfl) ?_
          refine qx_Vi (C := RX4) (As := [.int (nI (((tN (Rus Pa) / 9) - 1))), .int (nI k)]) (rest := [.int (nI k), .ref (a 4)]) (ci := 4) (k0 := 10) (wr := (fO a) ++ (pW ((fun i => a (1 + i))) cI ((Pbo P, Psz P, Pkd P, Plg P, w1, Pnx P, Ppt P, Pbl P))) ++ ([(a 5, .inl (cI, 8, .inl Rw))]) ++ (rW ((fun i => a (6 + i))) cI 3 18 No) ++ (rW ((fun i => a (8 + i))) cI 4 24 Ma)) (ws2 := fun u => (fO a) ++ (pW ((fun i => a (1 + i))) cI ((Pbo P, Psz P, Pkd P, Plg P, w1, Pnx P, Ppt P, Pbl P))) ++ ([(a 5, .inl (cI, 8, .inl Rw))]) ++ (rW ((fun i => a (6 + i))) cI 3 18 No) ++ (rW ((fun i => a (8 + i))) cI 4 24 Ma) ++ (rW ((fun i => a (10 + i))) cI 9 72 Pa)) [10, 11] [0, 1, 2, 3, 4, 5, 6, 7, 8, 9] [0, 1, 2, 3, 4, 5, 6, 7, 8, 9, 10, 11] ⟨hx, hb, hml, hown, hts⟩ (c_X4_cell_v9 l dC dI (fun i => a (10 + i)) cI H.size Pa (((tN (Rus Pa) / 9) - 1)) k (pu : inB (Rus Pa) 72) (by omega) (by omega)) (cwV 2 hts gX1_goBack_X4_cell rfl rfl rfl (by decide +kernel) ⟨Nat.le_of_ble_eq_true rfl, Nat.le_of_ble_eq_true rfl⟩) (hK.sub [0] rfl) hK hP hD hS hA hN rfl rfl (by decide) (by decide) (by decide) (by decide) (fun _ => rfl) rfl rfl rfl rfl hl.1 rfl (Nat.le_of_ble_eq_true rfl) dX1_goBack_37 ⟨Nat.zero_le _, Nat.zero_le _⟩ (fun r_37 u_37 H locs hw_37 hP hD hS => ?_)
          have hP : va_P (dC, dI) vwCl ((fO a) ++ (pW ((fun i => a (1 + i))) cI ((Pbo P, Psz P, Pkd P, Plg P, w1, Pnx P, Ppt P, Pbl P))) ++ ([(a 5, .inl (cI, 8, .inl Rw))]) ++ (rW ((fun i => a (6 + i))) cI 3 18 No) ++ (rW ((fun i => a (8 + i))) cI 4 24 Ma) ++ (rW ((fun i => a (10 + i))) cI 9 72 Pa)) H := hP
          have hD : va_D A ((fO a) ++ (pW ((fun i => a (1 + i))) cI ((Pbo P, Psz P, Pkd P, Plg P, w1, Pnx P, Ppt P, Pbl P))) ++ ([(a 5, .inl (cI, 8, .inl Rw))]) ++ (rW ((fun i => a (6 + i))) cI 3 18 No) ++ (rW ((fun i => a (8 + i))) cI 4 24 Ma) ++ (rW ((fun i => a (10 + i))) cI 9 72 Pa)) := hD
          rw [hw_37, let1_mk r_37] at hF
          refine qv_ast (ws' := (fO a) ++ (pW ((fun i => a (1 + i))) cI ((Pbo P, Psz P, Pkd P, Plg P, upd w1 k r_37, Pnx P, Ppt P, Pbl P))) ++ ([(a 5, .inl (cI, 8, .inl Rw))]) ++ (rW ((fun i => a (6 + i))) cI 3 18 No) ++ (rW ((fun i => a (8 + i))) cI 4 24 Ma) ++ (rW ((fun i => a (10 + i))) cI 9 72 Pa)) hx hb hK hP hD hS 4 0 rfl rfl (by omega) (by decide) dX1_goBack_40 rfl (fun H locs hP hD hS => ?_)
          refine lv_iinc (v := nI (k + 1)) (lv' := [(2, .int (nI (k + 1))), (1, .int ((nI ((tN (Rus Pa) / 9))) - (nI 1))), (0, .ref (a 0))]) hx hb dX1_goBack_41 hl (k := 0) rfl (qn_inc (c := 1) rfl (by omega)) (by decide) rfl (fun ls hl => ?_)
          refine lv_goto (tgt := 17) hx hb dX1_goBack_44 (by decide) ?_
          exact ih_17 (k + 1) (upd w1 k r_37) H locs (by omega) (by omega) hP hD hS ls (lv_sub hl [0, 1, 2] rfl) hF
    exact L_17 7 0 (Pwh P) H locs (by omega) (by omega) hP hD hS ls (lv_sub hl [0, 1, 2] rfl) hF
  · rw [if_neg c_11] at hF
    have hP9 : va_P (dC, dI) vwCl ((fO a) ++ (pW ((fun i => a (1 + i))) cI P) ++ ([(a 5, .inl (cI, 8, .inl Rw))]) ++ (rW ((fun i => a (6 + i))) cI 3 18 No) ++ (rW ((fun i => a (8 + i))) cI 4 24 Ma) ++ (rW ((fun i => a (10 + i))) cI 9 72 Pa)) H := hP
    exact W.vret hx hb hr (fun t ht hW => ⟨⟨((P, Pa)), rfl, hO.symm.trans hF, by rw [ht]; exact hP9, va_K.moved hW.alike hK, hD⟩, hS.F ht⟩) hS.2.2 dX1_goBack_14
