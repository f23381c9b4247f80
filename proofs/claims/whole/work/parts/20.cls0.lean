/-! the class: what its objects hold, and the words on its nest -/
abbrev xT (cI : ClassId) : List (ClassId × FieldType) := [(cI, .int)]
abbrev pS : Type := Int32 × Int32 × (Nat → Int32) × (Nat → Int32) × (Nat → Int32) × Int32 × Int32 × Int32
abbrev Pbo (P : pS) : Int32 := P.1
abbrev Psz (P : pS) : Int32 := P.2.1
abbrev Pkd (P : pS) : Nat → Int32 := P.2.2.1
abbrev Plg (P : pS) : Nat → Int32 := P.2.2.2.1
abbrev Pwh (P : pS) : Nat → Int32 := P.2.2.2.2.1
abbrev Pnx (P : pS) : Int32 := P.2.2.2.2.2.1
abbrev Ppt (P : pS) : Int32 := P.2.2.2.2.2.2.1
abbrev Pbl (P : pS) : Int32 := P.2.2.2.2.2.2.2
abbrev pW (a : Nat → Nat) (cI : ClassId) (P : pS) : va_W := [(a 0, .inr (2, [.int (Pbo P), .int (Psz P), .ref (a 1), .ref (a 2), .ref (a 3), .int (Pnx P), .int (Ppt P), .int (Pbl P)])), (a 1, .inl (cI, 6, .inl (Pkd P))), (a 2, .inl (cI, 6, .inl (Plg P))), (a 3, .inl (cI, 6, .inl (Pwh P)))]
abbrev rS : Type := (Nat → Int32) × Int32
abbrev Rce (R : rS) : Nat → Int32 := R.1
abbrev Rus (R : rS) : Int32 := R.2
abbrev rW (a : Nat → Nat) (cI : ClassId) (wd n : Nat) (R : rS) : va_W := [(a 0, .inr (4, [.int (nI wd), .ref (a 1), .int (Rus R)])), (a 1, .inl (cI, n, .inl (Rce R)))]
def xN (U : State) : Prop := va_Nw (.methodLinkNest RX2 47 yX5_within RX5) U ∧ va_Nw (.methodLinkNest RX2 55 yX5_hitWorth RX5) U ∧ va_Nw (.methodLinkNest RX2 63 yX5_postsRun RX5) U ∧ va_Nw (.methodLinkNest RX0 33 yX5_within RX5) U ∧ va_Nw (.methodLinkNest RX3 96 yX5_within RX5) U ∧ va_Nw (.methodLinkNest RX1 11 yX2_init RX5) U ∧ va_Nw (.methodLinkNest RX5 33 yX3_init RX5) U ∧ va_Nw (.methodLinkNest RX3 11 yX2_init RX5) U ∧ va_Nw (.methodLinkNest RX0 26 yX2_init RX5) U ∧ va_Nw (.methodLinkNest RX5 47 yX2_init RX5) U ∧ va_Nw (.fieldLinkNest RX0 55 RX5 "TENS" "[I" RX5) U
theorem xN_47 {U : State} (h : xN U) : va_Nw (.methodLinkNest RX2 47 yX5_within RX5) U := h.1
theorem xN_55 {U : State} (h : xN U) : va_Nw (.methodLinkNest RX2 55 yX5_hitWorth RX5) U := h.2.1
theorem xN_63 {U : State} (h : xN U) : va_Nw (.methodLinkNest RX2 63 yX5_postsRun RX5) U := h.2.2.1
theorem xN_33 {U : State} (h : xN U) : va_Nw (.methodLinkNest RX0 33 yX5_within RX5) U := h.2.2.2.1
theorem xN_96 {U : State} (h : xN U) : va_Nw (.methodLinkNest RX3 96 yX5_within RX5) U := h.2.2.2.2.1
theorem xN_warm {s U : State} (hW : s.WarmedH U.vm) (h : xN s) : xN U := by
  obtain ⟨h1, h2, h3, h4, h5, h6, h7, h8, h9, h10, h11⟩ := h
  exact ⟨va_Nw.warmM hW h1, va_Nw.warmM hW h2, va_Nw.warmM hW h3, va_Nw.warmM hW h4, va_Nw.warmM hW h5, va_Nw.warmM hW h6, va_Nw.warmM hW h7, va_Nw.warmM hW h8, va_Nw.warmM hW h9, va_Nw.warmM hW h10, va_Nw.warmF hW h11⟩
theorem xN_same {u U : State} (e : u.vm = U.vm) (h : xN u) : xN U := by
  obtain ⟨h1, h2, h3, h4, h5, h6, h7, h8, h9, h10, h11⟩ := h
  exact ⟨va_Nw.same rfl e h1, va_Nw.same rfl e h2, va_Nw.same rfl e h3, va_Nw.same rfl e h4, va_Nw.same rfl e h5, va_Nw.same rfl e h6, va_Nw.same rfl e h7, va_Nw.same rfl e h8, va_Nw.same rfl e h9, va_Nw.same rfl e h10, va_Nw.same rfl e h11⟩
def xPc (D : va_G) (cl : List vw_C) (tys : List (ClassId × FieldType)) (ws : va_W) (sz : Nat) (av : List Value) : Array Value → State → Prop := va_Pc av (fun U => U.heap.size = sz ∧ va_P D cl ws U.heap ∧ va_K D cl tys U ∧ va_D (fun _ => True) ws ∧ xN U)
theorem xPc_blind {D : va_G} {cl : List vw_C} {tys : List (ClassId × FieldType)} {ws : va_W} {sz : Nat} {av : List Value} : FrameBlind (xPc D cl tys ws sz av) := by
  intro a U g mk q
  obtain ⟨q0, q1, qP, qK, qD, qN⟩ := q
  exact ⟨q0, q1, qP, va_K.moved (u := U) (U := U.calling g mk a) (Vm.Alike.refl U.vm) qK, qD, xN_same (u := U) (U := U.calling g mk a) rfl qN⟩
theorem va_Psub {D : va_G} {cl : List vw_C} {ws ws' : va_W} {H : Heap} (h : va_P D cl ws H) (is : List Nat) (hs : is.map (fun i => ws[i]?) = ws'.map some) : va_P D cl ws' H := by
  intro k q hk
  have h1 : (is.map (fun i => ws[i]?))[k]? = some (some q) := by rw [hs, List.getElem?_map, hk]; rfl
  rw [List.getElem?_map] at h1
  cases hi : is[k]? with
  | none => rw [hi] at h1; cases h1
  | some i => rw [hi] at h1; exact h i q (Option.some.inj h1)
section XCALLS
variable {p : Program} {l : Launch} {e : Env} {R : Room} {s : State} {m : MethodId} {args : Array Value} {below : List Frame} {meth : Method} {c : Code} {H : Heap} {locs : List Loc} {cells slots : Nat} {Q : State → Prop}
variable {cc : ByteArray} {pc : Nat} {ls : Array Slot} {rest : List Value} {D : va_G} {cl : List vw_C} {A : Nat → Prop} {tys tysC : List (ClassId × FieldType)} {ws wc wr : va_W} {H0 : Heap}
variable {y : MethodName} {wy Ts : List Cond} {rm : Room} {own C host : String} {index maxL nL nA ci k0 b a : Nat} {ret : Option FieldType} {bytes : ByteArray} {As fs st0 : List Value} {qc : vw_C}
theorem qc_SiN {post : Int32 → Prop} (S0 : CallFix p m c cc nL s args Ts own)
    (hM : Met l y wy rm (va_Pc As (fun _ => True)) (vp_Si post) 0 0 (fun _ => False))
    (cw : va_CN R s args own index y host bytes maxL ret wy rm 0 0 nA) (hstat : (Cond.static y).before args s = true)
    (hn : As.length = nA) (hsize : ls.size = nL) (hst : st0 = As.reverse ++ rest) (hW : (rest.map fun v => v.category).sum ≤ 8) (hdg : decode cc pc = .ok (.invokestatic index, 3)) (hf : cells ≤ R.cells ∧ slots ≤ R.slots)
    (kk : ∀ r : Int32, post r → W p l e R s m args below meth c H locs cells slots Q (F0 m (pc + 3) ls (.int r :: rest))) : W p l e R s m args below meth c H locs cells slots Q (F0 m pc ls st0) := by
  intro T hT X
  obtain ⟨v, st₀, t, T', L, h0, X', hL, e1, e2, ⟨r, hv, hp, hh⟩, st⟩ := (va_runSN (As := As) (rest := rest) (g := F0 m pc ls st0) S0 hM ⟨cw, hstat, trivial⟩ ⟨pure_blind, fun U hU hW => ⟨rfl, trivial⟩⟩ rfl hn hsize hst (lv_room hW) hdg hf) T hT X
  cases hv
  obtain ⟨t2, a1, b1⟩ := kk r hp T' (by rw [e1, hh, h0]) (Stand.forget X' (fun q h => (hL q h).elim))
  exact ⟨t2, st t2 a1, b1⟩
theorem sfree (isC : List Nat) (hC : isC.map (fun i => ws[i]?) = wc.map some) (hD : va_D A ws) (hS : va_S A H0 H locs) (hA : ∀ q, H0.size ≤ q → A q) : ∀ q, va_A wc H.size q → A q := va_free hD hS hA isC hC
theorem qx_Vi {S : Type} {post : Int32 → S → Prop} {wc' ws2 : S → va_W} (isC isR ix : List Nat) (S0 : CallFix p m c cc nL s args Ts own)
    (hM : Met l y wy rm (xPc D cl tysC wc H.size (.ref b :: As)) (va_Qi post (mB D cl tysC (va_A wc H.size) wc') (va_A wc H.size)) 0 0 (va_A wc H.size))
    (cw : CallW R s args own C index y bytes maxL ret wy rm 0 0 nA) (hKc : va_K D cl tysC s) (hK : va_K D cl tys s) (hP : va_P D cl ws H) (hD : va_D A ws) (hS : va_S A H0 H locs) (hA : ∀ q, H0.size ≤ q → A q) (hN : xN s)
    (hC : isC.map (fun i => ws[i]?) = wc.map some) (hR : isR.map (fun i => ws[i]?) = wr.map some) (hnC : va_nd isC = true) (hnR : va_nd isR = true) (hnx : va_nd ix = true) (hdis : ∀ i ∈ isR, i ∉ isC) (hix : ∀ u, ix.map (fun i => (wr ++ wc' u)[i]?) = (ws2 u).map some)
    (hc : cl[ci]? = some qc) (he : ws[k0]? = some (b, .inr (ci, fs))) (hCn : qc.1 = C) (hn : As.length = nA) (hsize : ls.size = nL) (hst : st0 = As.reverse ++ .ref b :: rest) (hW : (rest.map fun v => v.category).sum ≤ 8) (hdg : decode cc pc = .ok (.invokevirtual index, 3)) (hf : cells ≤ R.cells ∧ slots ≤ R.slots)
    (kk : ∀ (r : Int32) (u : S) (H1 : Heap) (locs1 : List Loc), post r u → va_P D cl (ws2 u) H1 → va_D A (ws2 u) → va_S A H0 H1 locs1 → W p l e R s m args below meth c H1 locs1 cells slots Q (F0 m (pc + 3) ls (.int r :: rest))) : W p l e R s m args below meth c H locs cells slots Q (F0 m pc ls st0) := by
  have hFc := sfree isC hC hD hS hA
  have hPc : va_P D cl wc H := va_Psub hP isC hC
  have hDc : va_D A wc := hD.sub isC hnC hC
  subst hCn
  refine va_calli (va_runV (As := As) (rest := rest) (b := b) S0 hM cw ⟨xPc_blind, va_recv hK hP hc he, fun U hU hW => ⟨rfl, by rw [hU], by rw [hU]; exact hPc, va_K.moved hW.alike hKc, hDc.weaken (fun _ _ _ _ => trivial), xN_warm hW hN⟩⟩ rfl hn hsize hst (lv_room hW) hdg hf) hS (fun q _ h => hFc q h) hFc (fun r u t H1 locs1 ht hvm hw hB hz1 hk1 hS1 => ?_)
  obtain ⟨hP1, -, hD1⟩ := hB
  rw [ht] at hP1
  obtain ⟨hP2, hD2⟩ := va_join (wr := wr) (w1 := wc' u) hP hD isC isR hC hR hnR hdis hk1 hFc hP1 hD1
  exact kk r u H1 locs1 hw (va_Psub hP2 ix (hix u)) (hD2.sub ix hnx (hix u)) hS1
theorem qx_Vl {S : Type} {post : Int64 → S → Prop} {wc' ws2 : S → va_W} (isC isR ix : List Nat) (S0 : CallFix p m c cc nL s args Ts own)
    (hM : Met l y wy rm (xPc D cl tysC wc H.size (.ref b :: As)) (va_Ql post (mB D cl tysC (va_A wc H.size) wc') (va_A wc H.size)) 0 0 (va_A wc H.size))
    (cw : CallW R s args own C index y bytes maxL ret wy rm 0 0 nA) (hKc : va_K D cl tysC s) (hK : va_K D cl tys s) (hP : va_P D cl ws H) (hD : va_D A ws) (hS : va_S A H0 H locs) (hA : ∀ q, H0.size ≤ q → A q) (hN : xN s)
    (hC : isC.map (fun i => ws[i]?) = wc.map some) (hR : isR.map (fun i => ws[i]?) = wr.map some) (hnC : va_nd isC = true) (hnR : va_nd isR = true) (hnx : va_nd ix = true) (hdis : ∀ i ∈ isR, i ∉ isC) (hix : ∀ u, ix.map (fun i => (wr ++ wc' u)[i]?) = (ws2 u).map some)
    (hc : cl[ci]? = some qc) (he : ws[k0]? = some (b, .inr (ci, fs))) (hCn : qc.1 = C) (hn : As.length = nA) (hsize : ls.size = nL) (hst : st0 = As.reverse ++ .ref b :: rest) (hW : (rest.map fun v => v.category).sum ≤ 8) (hdg : decode cc pc = .ok (.invokevirtual index, 3)) (hf : cells ≤ R.cells ∧ slots ≤ R.slots)
    (kk : ∀ (r : Int64) (u : S) (H1 : Heap) (locs1 : List Loc), post r u → va_P D cl (ws2 u) H1 → va_D A (ws2 u) → va_S A H0 H1 locs1 → W p l e R s m args below meth c H1 locs1 cells slots Q (F0 m (pc + 3) ls (.long r :: rest))) : W p l e R s m args below meth c H locs cells slots Q (F0 m pc ls st0) := by
  have hFc := sfree isC hC hD hS hA
  have hPc : va_P D cl wc H := va_Psub hP isC hC
  have hDc : va_D A wc := hD.sub isC hnC hC
  subst hCn
  refine va_calll (va_runV (As := As) (rest := rest) (b := b) S0 hM cw ⟨xPc_blind, va_recv hK hP hc he, fun U hU hW => ⟨rfl, by rw [hU], by rw [hU]; exact hPc, va_K.moved hW.alike hKc, hDc.weaken (fun _ _ _ _ => trivial), xN_warm hW hN⟩⟩ rfl hn hsize hst (lv_room hW) hdg hf) hS (fun q _ h => hFc q h) hFc (fun r u t H1 locs1 ht hvm hw hB hz1 hk1 hS1 => ?_)
  obtain ⟨hP1, -, hD1⟩ := hB
  rw [ht] at hP1
  obtain ⟨hP2, hD2⟩ := va_join (wr := wr) (w1 := wc' u) hP hD isC isR hC hR hnR hdis hk1 hFc hP1 hD1
  exact kk r u H1 locs1 hw (va_Psub hP2 ix (hix u)) (hD2.sub ix hnx (hix u)) hS1
theorem qx_Vv {S : Type} {post : S → Prop} {wc' ws2 : S → va_W} (isC isR ix : List Nat) (S0 : CallFix p m c cc nL s args Ts own)
    (hM : Met l y wy rm (xPc D cl tysC wc H.size (.ref b :: As)) (va_Qv post (mB D cl tysC (va_A wc H.size) wc') (va_A wc H.size)) 0 0 (va_A wc H.size))
    (cw : CallW R s args own C index y bytes maxL ret wy rm 0 0 nA) (hKc : va_K D cl tysC s) (hK : va_K D cl tys s) (hP : va_P D cl ws H) (hD : va_D A ws) (hS : va_S A H0 H locs) (hA : ∀ q, H0.size ≤ q → A q) (hN : xN s)
    (hC : isC.map (fun i => ws[i]?) = wc.map some) (hR : isR.map (fun i => ws[i]?) = wr.map some) (hnC : va_nd isC = true) (hnR : va_nd isR = true) (hnx : va_nd ix = true) (hdis : ∀ i ∈ isR, i ∉ isC) (hix : ∀ u, ix.map (fun i => (wr ++ wc' u)[i]?) = (ws2 u).map some)
    (hc : cl[ci]? = some qc) (he : ws[k0]? = some (b, .inr (ci, fs))) (hCn : qc.1 = C) (hn : As.length = nA) (hsize : ls.size = nL) (hst : st0 = As.reverse ++ .ref b :: rest) (hW : (rest.map fun v => v.category).sum ≤ 8) (hdg : decode cc pc = .ok (.invokevirtual index, 3)) (hf : cells ≤ R.cells ∧ slots ≤ R.slots)
    (kk : ∀ (u : S) (H1 : Heap) (locs1 : List Loc), post u → va_P D cl (ws2 u) H1 → va_D A (ws2 u) → va_S A H0 H1 locs1 → W p l e R s m args below meth c H1 locs1 cells slots Q (F0 m (pc + 3) ls rest)) : W p l e R s m args below meth c H locs cells slots Q (F0 m pc ls st0) := by
  have hFc := sfree isC hC hD hS hA
  have hPc : va_P D cl wc H := va_Psub hP isC hC
  have hDc : va_D A wc := hD.sub isC hnC hC
  subst hCn
  refine va_callv (va_runV (As := As) (rest := rest) (b := b) S0 hM cw ⟨xPc_blind, va_recv hK hP hc he, fun U hU hW => ⟨rfl, by rw [hU], by rw [hU]; exact hPc, va_K.moved hW.alike hKc, hDc.weaken (fun _ _ _ _ => trivial), xN_warm hW hN⟩⟩ rfl hn hsize hst (lv_room hW) hdg hf) hS (fun q _ h => hFc q h) hFc (fun u t H1 locs1 ht hvm hw hB hz1 hk1 hS1 => ?_)
  obtain ⟨hP1, -, hD1⟩ := hB
  rw [ht] at hP1
  obtain ⟨hP2, hD2⟩ := va_join (wr := wr) (w1 := wc' u) hP hD isC isR hC hR hnR hdis hk1 hFc hP1 hD1
  exact kk u H1 locs1 hw (va_Psub hP2 ix (hix u)) (hD2.sub ix hnx (hix u)) hS1
theorem qv_cpy (hexec : p.tables.exec = Jvm.exec) (hb : c.code = cc) (hml : c.maxLocals = ls.size) (hown : s.vm.findClass own = some m.cls) (hlink : (Cond.methodLink own index arraycopyName).before args s = true) (hnat : (Cond.native arraycopyName).before args s = true) (hstat : (Cond.static arraycopyName).before args s = true) (hini : (Cond.initialized "java/lang/System").before args s = true)
    (hK : va_K D cl tys s) (hP : va_P D cl ws H) (hD : va_D A ws) (hS : va_S A H0 H locs) (q0 q1 t0 : Nat) {a0 : Nat} {cA : ClassId} {n0 n1 : Nat} {f g : Nat → Int32} (ha0 : ws[q0]? = some (a0, .inl (cA, n0, .inl f))) (ha1 : ws[q1]? = some (a, .inl (cA, n1, .inl g))) (ht : tys[t0]? = some (cA, .int))
    {sp dp n : Nat} (h4 : sp + n ≤ n0) (h5 : dp + n ≤ n1) (h6 : n0 < 2 ^ 31) (h7 : n1 < 2 ^ 31) (hframes : 1 ≤ R.frames) (hlocals : (rest.map fun v => v.category).sum + (nativeFrameWords "java/lang/System" "arraycopy" 5 + 11) ≤ R.locals) (hdg : decode cc pc = .ok (.invokestatic index, 3)) {ws' : va_W} (hw : ws.set q1 (a, .inl (cA, n1, .inl (va_cpy f g sp dp n))) = ws')
    (kk : ∀ (H1 : Heap) (locs1 : List Loc), va_P D cl ws' H1 → va_D A ws' → va_S A H0 H1 locs1 → W p l e R s m args below meth c H1 locs1 cells slots Q (F0 m (pc + 3) ls rest)) : W p l e R s m args below meth c H locs cells slots Q (F0 m pc ls (.int (nI n) :: .int (nI dp) :: .ref a :: .int (nI sp) :: .ref a0 :: rest)) := by
  have k1 : (nI sp).toNatClampNeg = sp := nI_clamp (by omega)
  have k2 : (nI dp).toNatClampNeg = dp := nI_clamp (by omega)
  have k3 : (nI n).toNatClampNeg = n := nI_clamp (by omega)
  refine va_copyi (ty := .int) hexec hb hml hown hlink hnat hstat hini hK hP hD hS q0 q1 t0 t0 ha0 ha1 ht ht rfl (nI_pos (by omega)) (nI_pos (by omega)) (nI_pos (by omega)) (by rw [k1, k3]; exact h4) (by rw [k2, k3]; exact h5) (fun _ _ => rfl) hframes hlocals hdg (fun H1 locs1 g1 g2 g3 => ?_)
  rw [k1, k2, k3, hw] at g1 g2
  exact kk H1 locs1 g1 g2 g3
end XCALLS
