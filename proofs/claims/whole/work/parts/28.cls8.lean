def lenS : List Nat := [5, 6, 4]
def bytS : List (List Int32) := [[102, 105, 101, 108, 100], [98, 97, 116, 116, 101, 114], [98, 97, 108, 108]]
def wdC (w k : Nat) : Int32 := ((((bytS.getD w []).getD k 0) &&& (nI 255)).toUInt32 % 65536).toInt32
theorem wdC_nar : ∀ w, w < 3 → ∀ k, k < 6 → narrow .char (.int (wdC w k)) = .int (wdC w k) := by decide
/-- what the statement gives of the formatter: a reference or null; 0 is null, k + 1 the reference k -/
def fV (n : Nat) : Value := match n with
  | 0 => .null
  | k + 1 => .ref k
def xG (fr : Nat) (adK adV : Nat → Nat) (A : Nat → Prop) (U : State) : Prop := va_Z RJ0 "COMPACT_STRINGS" "Z" (.int (nI 1)) A U U.heap ∧ va_Z RJ3 "SIOOBE_FORMATTER" "Ljava/util/function/BiFunction;" (fV fr) A U U.heap ∧ vk_S 3 lenS bytS adK adV A U U.heap ∧ vk_R RX3 58 "field" (adK 0) U ∧ vk_R RX3 77 "batter" (adK 1) U ∧ vk_R RX3 82 "ball" (adK 2) U
theorem xG_call {fr : Nat} {adK adV : Nat → Nat} {A B : Nat → Prop} {s U : State} {H : Heap} {locs : List Loc} (hE : xG fr adK adV A s) (hS : va_S A s.heap H locs) (hFc : ∀ q, B q → A q) (hU : U.heap = H) (hW : s.WarmedH U.vm) : xG fr adK adV B U := by
  obtain ⟨h1, h2, h3, h4, h5, h6⟩ := hE
  refine ⟨?_, ?_, ?_, vk_R.warm hW h4, vk_R.warm hW h5, vk_R.warm hW h6⟩
  · rw [hU]; exact va_Z.moved hW.alike ((h1.kept (fun a h1 h2 => hS.2.1 a h1 h2)).narrow hFc)
  · rw [hU]; exact va_Z.moved hW.alike ((h2.kept (fun a h1 h2 => hS.2.1 a h1 h2)).narrow hFc)
  · rw [hU]; exact vk_S.moved hW.alike ((h3.kept (fun a h1 h2 => hS.2.1 a h1 h2)).narrow hFc)
theorem xG_same {fr : Nat} {adK adV : Nat → Nat} {A : Nat → Prop} {u U : State} (e : U.vm = u.vm) (h : U.heap = u.heap) (ha : u.vm.Alike U.vm) (hE : xG fr adK adV A u) : xG fr adK adV A U := by
  obtain ⟨h1, h2, h3, h4, h5, h6⟩ := hE
  exact ⟨by rw [h]; exact va_Z.moved ha h1, by rw [h]; exact va_Z.moved ha h2, by rw [h]; exact vk_S.moved ha h3, vk_R.same e h4, vk_R.same e h5, vk_R.same e h6⟩
def sPc (fr : Nat) (adK adV : Nat → Nat) (av : List Value) : Array Value → State → Prop := va_Pc av (fun U => xG fr adK adV (fun q => U.heap.size ≤ q) U)
theorem sPc_blind {fr : Nat} {adK adV : Nat → Nat} {av : List Value} : FrameBlind (sPc fr adK adV av) := by
  intro a U g mk q
  obtain ⟨q0, q1⟩ := q
  exact ⟨q0, xG_same (u := U) (U := U.calling g mk a) rfl rfl (Vm.Alike.refl U.vm) q1⟩
def xPcG (fr : Nat) (adK adV : Nat → Nat) (D : va_G) (cl : List vw_C) (tys : List (ClassId × FieldType)) (ws : va_W) (sz : Nat) (av : List Value) : Array Value → State → Prop := va_Pc av (fun U => U.heap.size = sz ∧ va_P D cl ws U.heap ∧ va_K D cl tys U ∧ va_D (fun _ => True) ws ∧ xN U ∧ xG fr adK adV (va_A ws sz) U)
theorem xPcG_blind {fr : Nat} {adK adV : Nat → Nat} {D : va_G} {cl : List vw_C} {tys : List (ClassId × FieldType)} {ws : va_W} {sz : Nat} {av : List Value} : FrameBlind (xPcG fr adK adV D cl tys ws sz av) := by
  intro a U g mk q
  obtain ⟨q0, q1, qP, qK, qD, qN, qE⟩ := q
  exact ⟨q0, q1, qP, va_K.moved (u := U) (U := U.calling g mk a) (Vm.Alike.refl U.vm) qK, qD, xN_same (u := U) (U := U.calling g mk a) rfl qN, xG_same (u := U) (U := U.calling g mk a) rfl rfl (Vm.Alike.refl U.vm) qE⟩
def sV : Array Value → State → Outcome → State → Prop := fun _ st o t => o = .returned none ∧ t.heap = st.heap
section XSTR
variable {p : Program} {l : Launch} {e : Env} {R : Room} {s : State} {m : MethodId} {args : Array Value} {below : List Frame} {meth : Method} {c : Code} {H : Heap} {locs : List Loc} {cells slots : Nat} {Q : State → Prop}
variable {cc : ByteArray} {pc : Nat} {ls : Array Slot} {rest : List Value} {D : va_G} {cl : List vw_C} {A : Nat → Prop} {tys tysC : List (ClassId × FieldType)} {ws wc wr : va_W}
variable {y : MethodName} {wy Ts : List Cond} {rm : Room} {own C : String} {index maxL nL nA ci k0 b a fr w : Nat} {adK adV : Nat → Nat} {ret : Option FieldType} {bytes : ByteArray} {As fs st0 : List Value} {qc : vw_C}
theorem qg_V {post : Int32 → Prop} (S0 : CallFix p m c cc nL s args Ts own) (hM : Met l y wy rm (sPc fr adK adV (.ref (adK w) :: As)) (vp_Si post) 0 0 (fun _ => False)) (cw : CallW R s args own "java/lang/String" index y bytes maxL ret wy rm 0 0 nA) (hw : w < 3) (hS : va_S A s.heap H locs) (hA : ∀ q, s.heap.size ≤ q → A q) (hE : xG fr adK adV A s)
    (hn : As.length = nA) (hsize : ls.size = nL) (hst : st0 = As.reverse ++ .ref (adK w) :: rest) (hW : (rest.map fun v => v.category).sum ≤ 8) (hdg : decode cc pc = .ok (.invokevirtual index, 3)) (hf : cells ≤ R.cells ∧ slots ≤ R.slots)
    (kk : ∀ r : Int32, post r → W p l e R s m args below meth c H locs cells slots Q (F0 m (pc + 3) ls (.int r :: rest))) : W p l e R s m args below meth c H locs cells slots Q (F0 m pc ls st0) :=
  vp_callSi (W.runV (As := As) (rest := rest) (b := adK w) S0 hM cw ⟨sPc_blind, vk_recv hE.2.2.1 hw hS, fun U hU hW => ⟨rfl, xG_call hE hS (fun q h => hA q (Nat.le_trans hS.1 (by rw [hU] at h; exact h))) hU hW⟩⟩ rfl hn hsize hst (lv_room hW) hdg hf) kk
theorem qg_S {post : Int32 → Prop} (S0 : CallFix p m c cc nL s args Ts own) (hM : Met l y wy rm (sPc fr adK adV As) (vp_Si post) 0 0 (fun _ => False)) (cw : CallB R s args own index y bytes maxL ret wy rm 0 0 nA ∧ (Cond.static y).before args s = true) (hS : va_S A s.heap H locs) (hA : ∀ q, s.heap.size ≤ q → A q) (hE : xG fr adK adV A s)
    (hn : As.length = nA) (hsize : ls.size = nL) (hst : st0 = As.reverse ++ rest) (hW : (rest.map fun v => v.category).sum ≤ 8) (hdg : decode cc pc = .ok (.invokestatic index, 3)) (hf : cells ≤ R.cells ∧ slots ≤ R.slots)
    (kk : ∀ r : Int32, post r → W p l e R s m args below meth c H locs cells slots Q (F0 m (pc + 3) ls (.int r :: rest))) : W p l e R s m args below meth c H locs cells slots Q (F0 m pc ls st0) :=
  vp_callSi (W.runS (As := As) (rest := rest) S0 hM cw ⟨sPc_blind, fun U hU hW => ⟨rfl, xG_call hE hS (fun q h => hA q (Nat.le_trans hS.1 (by rw [hU] at h; exact h))) hU hW⟩⟩ rfl hn hsize hst (lv_room hW) hdg hf) kk
theorem qg_Sv (S0 : CallFix p m c cc nL s args Ts own) (hM : Met l y wy rm (sPc fr adK adV As) sV 0 0 (fun _ => False)) (cw : CallB R s args own index y bytes maxL ret wy rm 0 0 nA ∧ (Cond.static y).before args s = true) (hS : va_S A s.heap H locs) (hA : ∀ q, s.heap.size ≤ q → A q) (hE : xG fr adK adV A s)
    (hn : As.length = nA) (hsize : ls.size = nL) (hst : st0 = As.reverse ++ rest) (hW : (rest.map fun v => v.category).sum ≤ 8) (hdg : decode cc pc = .ok (.invokestatic index, 3)) (hf : cells ≤ R.cells ∧ slots ≤ R.slots)
    (kk : W p l e R s m args below meth c H locs cells slots Q (F0 m (pc + 3) ls rest)) : W p l e R s m args below meth c H locs cells slots Q (F0 m pc ls st0) := by
  intro T hT X
  obtain ⟨v, st₀, t, T', L, h0, X', hL, e1, ⟨hv, hh⟩, st⟩ := (W.runS (As := As) (rest := rest) (g := F0 m pc ls st0) S0 hM cw ⟨sPc_blind, fun U hU hW => ⟨rfl, xG_call hE hS (fun q h => hA q (Nat.le_trans hS.1 (by rw [hU] at h; exact h))) hU hW⟩⟩ rfl hn hsize hst (lv_room hW) hdg hf) T hT X
  cases hv
  obtain ⟨t2, a1, b1⟩ := kk T' (by rw [e1, hh, h0]) (Stand.forget X' (fun q h => (hL q h).elim))
  exact ⟨t2, st t2 a1, b1⟩
theorem qxg_Vi {S : Type} {post : Int32 → S → Prop} {wc' ws2 : S → va_W} (isC isR ix : List Nat) (S0 : CallFix p m c cc nL s args Ts own)
    (hM : Met l y wy rm (xPcG fr adK adV D cl tysC wc H.size (.ref b :: As)) (va_Qi post (mB D cl tysC (va_A wc H.size) wc') (va_A wc H.size)) 0 0 (va_A wc H.size))
    (cw : CallW R s args own C index y bytes maxL ret wy rm 0 0 nA) (hKc : va_K D cl tysC s) (hK : va_K D cl tys s) (hP : va_P D cl ws H) (hD : va_D A ws) (hS : va_S A s.heap H locs) (hA : ∀ q, s.heap.size ≤ q → A q) (hN : xN s) (hE : xG fr adK adV A s)
    (hC : isC.map (fun i => ws[i]?) = wc.map some) (hR : isR.map (fun i => ws[i]?) = wr.map some) (hnC : va_nd isC = true) (hnR : va_nd isR = true) (hnx : va_nd ix = true) (hdis : ∀ i ∈ isR, i ∉ isC) (hix : ∀ u, ix.map (fun i => (wr ++ wc' u)[i]?) = (ws2 u).map some)
    (hc : cl[ci]? = some qc) (he : ws[k0]? = some (b, .inr (ci, fs))) (hCn : qc.1 = C) (hn : As.length = nA) (hsize : ls.size = nL) (hst : st0 = As.reverse ++ .ref b :: rest) (hW : (rest.map fun v => v.category).sum ≤ 8) (hdg : decode cc pc = .ok (.invokevirtual index, 3)) (hf : cells ≤ R.cells ∧ slots ≤ R.slots)
    (kk : ∀ (r : Int32) (u : S) (H1 : Heap) (locs1 : List Loc), post r u → va_P D cl (ws2 u) H1 → va_D A (ws2 u) → va_S A s.heap H1 locs1 → W p l e R s m args below meth c H1 locs1 cells slots Q (F0 m (pc + 3) ls (.int r :: rest))) : W p l e R s m args below meth c H locs cells slots Q (F0 m pc ls st0) := by
  have hFc := sfree isC hC hD hS hA
  have hPc : va_P D cl wc H := va_Psub hP isC hC
  have hDc : va_D A wc := hD.sub isC hnC hC
  subst hCn
  refine va_calli (va_runV (As := As) (rest := rest) (b := b) S0 hM cw ⟨xPcG_blind, va_recv hK hP hc he, fun U hU hW => ⟨rfl, by rw [hU], by rw [hU]; exact hPc, va_K.moved hW.alike hKc, hDc.weaken (fun _ _ _ _ => trivial), xN_warm hW hN, xG_call hE hS hFc hU hW⟩⟩ rfl hn hsize hst (lv_room hW) hdg hf) hS (fun q _ h => hFc q h) hFc (fun r u t H1 locs1 ht hvm hw hB hz1 hk1 hS1 => ?_)
  obtain ⟨hP1, -, hD1⟩ := hB
  rw [ht] at hP1
  obtain ⟨hP2, hD2⟩ := va_join (wr := wr) (w1 := wc' u) hP hD isC isR hC hR hnR hdis hk1 hFc hP1 hD1
  exact kk r u H1 locs1 hw (va_Psub hP2 ix (hix u)) (hD2.sub ix hnx (hix u)) hS1
theorem qxg_Vv {S : Type} {post : S → Prop} {wc' ws2 : S → va_W} (isC isR ix : List Nat) (S0 : CallFix p m c cc nL s args Ts own)
    (hM : Met l y wy rm (xPcG fr adK adV D cl tysC wc H.size (.ref b :: As)) (va_Qv post (mB D cl tysC (va_A wc H.size) wc') (va_A wc H.size)) 0 0 (va_A wc H.size))
    (cw : CallW R s args own C index y bytes maxL ret wy rm 0 0 nA) (hKc : va_K D cl tysC s) (hK : va_K D cl tys s) (hP : va_P D cl ws H) (hD : va_D A ws) (hS : va_S A s.heap H locs) (hA : ∀ q, s.heap.size ≤ q → A q) (hN : xN s) (hE : xG fr adK adV A s)
    (hC : isC.map (fun i => ws[i]?) = wc.map some) (hR : isR.map (fun i => ws[i]?) = wr.map some) (hnC : va_nd isC = true) (hnR : va_nd isR = true) (hnx : va_nd ix = true) (hdis : ∀ i ∈ isR, i ∉ isC) (hix : ∀ u, ix.map (fun i => (wr ++ wc' u)[i]?) = (ws2 u).map some)
    (hc : cl[ci]? = some qc) (he : ws[k0]? = some (b, .inr (ci, fs))) (hCn : qc.1 = C) (hn : As.length = nA) (hsize : ls.size = nL) (hst : st0 = As.reverse ++ .ref b :: rest) (hW : (rest.map fun v => v.category).sum ≤ 8) (hdg : decode cc pc = .ok (.invokevirtual index, 3)) (hf : cells ≤ R.cells ∧ slots ≤ R.slots)
    (kk : ∀ (u : S) (H1 : Heap) (locs1 : List Loc), post u → va_P D cl (ws2 u) H1 → va_D A (ws2 u) → va_S A s.heap H1 locs1 → W p l e R s m args below meth c H1 locs1 cells slots Q (F0 m (pc + 3) ls rest)) : W p l e R s m args below meth c H locs cells slots Q (F0 m pc ls st0) := by
  have hFc := sfree isC hC hD hS hA
  have hPc : va_P D cl wc H := va_Psub hP isC hC
  have hDc : va_D A wc := hD.sub isC hnC hC
  subst hCn
  refine va_callv (va_runV (As := As) (rest := rest) (b := b) S0 hM cw ⟨xPcG_blind, va_recv hK hP hc he, fun U hU hW => ⟨rfl, by rw [hU], by rw [hU]; exact hPc, va_K.moved hW.alike hKc, hDc.weaken (fun _ _ _ _ => trivial), xN_warm hW hN, xG_call hE hS hFc hU hW⟩⟩ rfl hn hsize hst (lv_room hW) hdg hf) hS (fun q _ h => hFc q h) hFc (fun u t H1 locs1 ht hvm hw hB hz1 hk1 hS1 => ?_)
  obtain ⟨hP1, -, hD1⟩ := hB
  rw [ht] at hP1
  obtain ⟨hP2, hD2⟩ := va_join (wr := wr) (w1 := wc' u) hP hD isC isR hC hR hnR hdis hk1 hFc hP1 hD1
  exact kk u H1 locs1 hw (va_Psub hP2 ix (hix u)) (hD2.sub ix hnx (hix u)) hS1

end XSTR
def F_J0_coder_7d493 (w : Nat) : Int32 := nI 0
set_option maxHeartbeats 4000000 in
set_option maxRecDepth 100000 in
theorem c_J0_coder_7d493 (l : Launch) (fr : Nat) (adK adV : Nat → Nat) (w : Nat) (hw : w < 3) : Met l yJ0_coder_7d493 wsJ0_coder_7d493 { frames := 0, cells := 0, slots := 0, locals := 0 } (sPc fr adK adV [.ref (adK w)]) (vp_Si (fun r => F_J0_coder_7d493 w = r)) 0 0 (fun _ => False) := by
  refine Met.ofW (cc := cJ0_coder_7d493) (maxL := 1) (ret := (some .byte)) (by decide) rfl ?_
  intro p e s m args below meth c s₁ B hml hv
  obtain ⟨rfl, hE⟩ := hv
  have hx := B.exec
  have hb := B.bytes
  have hr := B.returns
  have hts := atoms_spec (ws := wsJ0_coder_7d493) B.pre
  have hown : s.vm.findClass RJ0 = some m.cls := findClass_of_methodNamed B.named
  have hlocks := B.notSynchronized
  have hS : va_S (fun q => s.heap.size ≤ q) s.heap s.heap [] := va_S.rf
  have hA : ∀ q : Nat, s.heap.size ≤ q → s.heap.size ≤ q := fun _ h => h
  have hlw : lenS.getD w 0 ≤ 6 := by have : w = 0 ∨ w = 1 ∨ w = 2 := by omega
                                     rcases this with rfl | rfl | rfl <;> decide
  have hl := lv_entry ([.ref (adK w)]) (n := 1) (Nat.le_of_ble_eq_true rfl)
  rw [lg_entry_eq]
  generalize (lg_sl ([.ref (adK w)]) ++ List.replicate (1 - (lg_sl ([.ref (adK w)])).length) Slot.unset).toArray = ls at hl ⊢
  have hl : lv_has ls 1 [(0, .ref (adK w))] := hl
  obtain ⟨OUT, hO⟩ : ∃ z, z = F_J0_coder_7d493 w := ⟨_, rfl⟩
  have hF := hO
  unfold F_J0_coder_7d493 at hF
  refine va_gets (v := .int (nI 1)) hx hb hE.1 hS hown (hts (.fieldLink RJ0 38 "java/lang/String" "COMPACT_STRINGS" "Z") (by decide +kernel)) (fun _ h9 => h9) dJ0_coder_7d493_0 ?_
  refine qv_if_eq (tgt := 13) hx hb dJ0_coder_7d493_3 (by decide) (by omega) (fun c_3 => absurd c_3 (by decide)) (fun _ => ?_)
  refine lv_aload_n hx hb dJ0_coder_7d493_6 rfl (lv_at hl 0 rfl) ?_
  refine vk_getf (v := .int (nI 0)) hx hb (hE.2.2.1.1 w hw).2.1 hS hown (hts (.fieldLink RJ0 15 "java/lang/String" "coder" "B") (by decide +kernel)) (fun _ h9 => h9) dJ0_coder_7d493_7 ?_
  refine lv_goto (tgt := 14) hx hb dJ0_coder_7d493_10 (by decide) ?_
  exact W.zret (v := nI 0) hx hb hr (rfl) (fun t ht hW => ⟨_, rfl, hO.symm.trans hF, ht⟩) (fun _ h => by cases h) dJ0_coder_7d493_14
def F_J0_isLatin1_aae02 (w : Nat) : Bool := true
set_option maxHeartbeats 4000000 in
set_option maxRecDepth 100000 in
theorem c_J0_isLatin1_aae02 (l : Launch) (fr : Nat) (adK adV : Nat → Nat) (w : Nat) (hw : w < 3) : Met l yJ0_isLatin1_aae02 wsJ0_isLatin1_aae02 { frames := 0, cells := 0, slots := 0, locals := 0 } (sPc fr adK adV [.ref (adK w)]) (vp_Si (fun r => r = if F_J0_isLatin1_aae02 w = true then 1 else 0)) 0 0 (fun _ => False) := by
  refine Met.ofW (cc := cJ0_isLatin1_aae02) (maxL := 1) (ret := (some .boolean)) (by decide) rfl ?_
  intro p e s m args below meth c s₁ B hml hv
  obtain ⟨rfl, hE⟩ := hv
  have hx := B.exec
  have hb := B.bytes
  have hr := B.returns
  have hts := atoms_spec (ws := wsJ0_isLatin1_aae02) B.pre
  have hown : s.vm.findClass RJ0 = some m.cls := findClass_of_methodNamed B.named
  have hlocks := B.notSynchronized
  have hS : va_S (fun q => s.heap.size ≤ q) s.heap s.heap [] := va_S.rf
  have hA : ∀ q : Nat, s.heap.size ≤ q → s.heap.size ≤ q := fun _ h => h
  have hlw : lenS.getD w 0 ≤ 6 := by have : w = 0 ∨ w = 1 ∨ w = 2 := by omega
                                     rcases this with rfl | rfl | rfl <;> decide
  have hl := lv_entry ([.ref (adK w)]) (n := 1) (Nat.le_of_ble_eq_true rfl)
  rw [lg_entry_eq]
  generalize (lg_sl ([.ref (adK w)]) ++ List.replicate (1 - (lg_sl ([.ref (adK w)])).length) Slot.unset).toArray = ls at hl ⊢
  have hl : lv_has ls 1 [(0, .ref (adK w))] := hl
  obtain ⟨OUT, hO⟩ : ∃ z, z = F_J0_isLatin1_aae02 w := ⟨_, rfl⟩
  have hF := hO
  unfold F_J0_isLatin1_aae02 at hF
  refine va_gets (v := .int (nI 1)) hx hb hE.1 hS hown (hts (.fieldLink RJ0 38 "java/lang/String" "COMPACT_STRINGS" "Z") (by decide +kernel)) (fun _ h9 => h9) dJ0_isLatin1_aae02_0 ?_
  refine qv_if_eq (tgt := 17) hx hb dJ0_isLatin1_aae02_3 (by decide) (by omega) (fun c_3 => absurd c_3 (by decide)) (fun _ => ?_)
  refine lv_aload_n hx hb dJ0_isLatin1_aae02_6 rfl (lv_at hl 0 rfl) ?_
  refine vk_getf (v := .int (nI 0)) hx hb (hE.2.2.1.1 w hw).2.1 hS hown (hts (.fieldLink RJ0 15 "java/lang/String" "coder" "B") (by decide +kernel)) (fun _ h9 => h9) dJ0_isLatin1_aae02_7 ?_
  refine qv_if_ne (tgt := 17) hx hb dJ0_isLatin1_aae02_10 (by decide) (by omega) (fun c_10 => absurd c_10 (by decide)) (fun _ => ?_)
  refine lv_iconst (v := nI 1) hx hb dJ0_isLatin1_aae02_13 (by decide) ?_
  refine lv_goto (tgt := 18) hx hb dJ0_isLatin1_aae02_14 (by decide) ?_
  have hq : (nI 1 : Int32) = if F_J0_isLatin1_aae02 w = true then 1 else 0 := by rw [← hO, hF] <;> rfl
  exact W.zret (v := nI 1) hx hb hr (by rfl) (fun t ht hW => ⟨_, rfl, hq, ht⟩) (fun _ h => by cases h) dJ0_isLatin1_aae02_18
theorem len_shr : ∀ w, w < 3 → (nI (lenS.getD w 0)) >>> ((nI 0) &&& 31) = nI (lenS.getD w 0) := by decide
def F_J0_length_8abf5 (w : Nat) : Int32 := (nI ((lenS.getD w 0))) >>> ((nI 0) &&& 31)
set_option maxHeartbeats 4000000 in
set_option maxRecDepth 100000 in
theorem c_J0_length_8abf5 (l : Launch) (fr : Nat) (adK adV : Nat → Nat) (w : Nat) (hw : w < 3) : Met l yJ0_length_8abf5 wsJ0_length_8abf5 { frames := 1, cells := 0, slots := 0, locals := 20 } (sPc fr adK adV [.ref (adK w)]) (vp_Si (fun r => F_J0_length_8abf5 w = r)) 0 0 (fun _ => False) := by
  refine Met.ofW (cc := cJ0_length_8abf5) (maxL := 1) (ret := (some .int)) (by decide) rfl ?_
  intro p e s m args below meth c s₁ B hml hv
  obtain ⟨rfl, hE⟩ := hv
  have hx := B.exec
  have hb := B.bytes
  have hr := B.returns
  have hts := atoms_spec (ws := wsJ0_length_8abf5) B.pre
  have hown : s.vm.findClass RJ0 = some m.cls := findClass_of_methodNamed B.named
  have hlocks := B.notSynchronized
  have hS : va_S (fun q => s.heap.size ≤ q) s.heap s.heap [] := va_S.rf
  have hA : ∀ q : Nat, s.heap.size ≤ q → s.heap.size ≤ q := fun _ h => h
  have hlw : lenS.getD w 0 ≤ 6 := by have : w = 0 ∨ w = 1 ∨ w = 2 := by omega
                                     rcases this with rfl | rfl | rfl <;> decide
  have hl := lv_entry ([.ref (adK w)]) (n := 1) (Nat.le_of_ble_eq_true rfl)
  rw [lg_entry_eq]
  generalize (lg_sl ([.ref (adK w)]) ++ List.replicate (1 - (lg_sl ([.ref (adK w)])).length) Slot.unset).toArray = ls at hl ⊢
  have hl : lv_has ls 1 [(0, .ref (adK w))] := hl
  obtain ⟨OUT, hO⟩ : ∃ z, z = F_J0_length_8abf5 w := ⟨_, rfl⟩
  have hF := hO
  unfold F_J0_length_8abf5 at hF
  refine lv_aload_n hx hb dJ0_length_8abf5_0 rfl (lv_at hl 0 rfl) ?_
  refine vk_getf (v := .ref (adV w)) hx hb (hE.2.2.1.1 w hw).2.2.1 hS hown (hts (.fieldLink RJ0 9 "java/lang/String" "value" "[B") (by decide +kernel)) (fun _ h9 => h9) dJ0_length_8abf5_1 ?_
  refine va_tlen (v := nI ((lenS.getD w 0))) hx hb (hE.2.2.1.1 w hw).2.2.2 hS rfl dJ0_length_8abf5_4 ?_
  refine lv_aload_n hx hb dJ0_length_8abf5_5 rfl (lv_at hl 0 rfl) ?_
  refine qg_V (w := w) (As := []) (rest := [.int (nI ((lenS.getD w 0)))]) ⟨hx, hb, hml, hown, hts⟩ (c_J0_coder_7d493 l fr adK adV w hw  ) (cwV 0 hts gJ0_length_8abf5_J0_coder_7d493 rfl rfl rfl (by decide +kernel) ⟨Nat.le_of_ble_eq_true rfl, Nat.le_of_ble_eq_true rfl⟩) hw hS hA hE rfl hl.1 rfl (Nat.le_of_ble_eq_true rfl) dJ0_length_8abf5_6 ⟨Nat.zero_le _, Nat.zero_le _⟩ (fun r_6 hw_6 => ?_)
  subst hw_6
  refine qv_top (show F_J0_coder_7d493 w = nI 0 from rfl) ?_
  refine lv_ishr hx hb dJ0_length_8abf5_9 ?_
  exact W.iret (v := (nI ((lenS.getD w 0))) >>> ((nI 0) &&& 31)) hx hb hr (fun t ht hW => ⟨_, rfl, hO.symm.trans hF, ht⟩) (fun _ h => by cases h) dJ0_length_8abf5_10
def F_J3_checkIndex_8e157 (i : Nat) (n : Nat) : Int32 := nI i
set_option maxHeartbeats 4000000 in
set_option maxRecDepth 100000 in
theorem c_J3_checkIndex_8e157 (l : Launch) (fr : Nat) (i : Nat) (n : Nat) (h1 : i < n) (h2 : n < 2 ^ 31) : Met l yJ3_checkIndex_8e157 wsJ3_checkIndex_8e157 { frames := 0, cells := 0, slots := 0, locals := 0 } (va_Pc [.int (nI i), .int (nI n), .ref fr] (fun _ => True)) (vp_Si (fun r => F_J3_checkIndex_8e157 i n = r)) 0 0 (fun _ => False) := by
  refine Met.ofW (cc := cJ3_checkIndex_8e157) (maxL := 3) (ret := (some .int)) (by decide) rfl ?_
  intro p e s m args below meth c s₁ B hml hv
  obtain ⟨rfl, hE⟩ := hv
  have hx := B.exec
  have hb := B.bytes
  have hr := B.returns
  have hts := atoms_spec (ws := wsJ3_checkIndex_8e157) B.pre
  have hown : s.vm.findClass RJ3 = some m.cls := findClass_of_methodNamed B.named
  have hlocks := B.notSynchronized
  have hl := lv_entry ([.int (nI i), .int (nI n), .ref fr]) (n := 3) (Nat.le_of_ble_eq_true rfl)
  rw [lg_entry_eq]
  generalize (lg_sl ([.int (nI i), .int (nI n), .ref fr]) ++ List.replicate (3 - (lg_sl ([.int (nI i), .int (nI n), .ref fr])).length) Slot.unset).toArray = ls at hl ⊢
  have hl : lv_has ls 3 [(0, .int (nI i)), (1, .int (nI n)), (2, .ref fr)] := hl
  obtain ⟨OUT, hO⟩ : ∃ z, z = F_J3_checkIndex_8e157 i n := ⟨_, rfl⟩
  have hF := hO
  unfold F_J3_checkIndex_8e157 at hF
  refine lv_iload_n hx hb dJ3_checkIndex_8e157_0 rfl (lv_at hl 0 rfl) ?_
  refine lv_if_lt (tgt := 9) hx hb dJ3_checkIndex_8e157_1 (by decide) (fun c_1 => absurd c_1 (nI_pos (by omega))) (fun _ => ?_)
  refine lv_iload_n hx hb dJ3_checkIndex_8e157_4 rfl (lv_at hl 0 rfl) ?_
  refine lv_iload_n hx hb dJ3_checkIndex_8e157_5 rfl (lv_at hl 1 rfl) ?_
  refine qv_icmp_lt (tgt := 16) hx hb dJ3_checkIndex_8e157_6 (by decide) (by omega) (by omega) (fun _ => ?_) (fun c_6 => absurd h1 c_6)
  refine lv_iload_n hx hb dJ3_checkIndex_8e157_16 rfl (lv_at hl 0 rfl) ?_
  exact W.iret (v := nI i) hx hb hr (fun t ht hW => ⟨_, rfl, hO.symm.trans hF, ht⟩) (fun _ h => by cases h) dJ3_checkIndex_8e157_17
set_option maxHeartbeats 4000000 in
set_option maxRecDepth 100000 in
theorem c_J3_checkIndex_8e157_n (l : Launch) (i : Nat) (n : Nat) (h1 : i < n) (h2 : n < 2 ^ 31) : Met l yJ3_checkIndex_8e157 wsJ3_checkIndex_8e157 { frames := 0, cells := 0, slots := 0, locals := 0 } (va_Pc [.int (nI i), .int (nI n), .null] (fun _ => True)) (vp_Si (fun r => F_J3_checkIndex_8e157 i n = r)) 0 0 (fun _ => False) := by
  refine Met.ofW (cc := cJ3_checkIndex_8e157) (maxL := 3) (ret := (some .int)) (by decide) rfl ?_
  intro p e s m args below meth c s₁ B hml hv
  obtain ⟨rfl, hE⟩ := hv
  have hx := B.exec
  have hb := B.bytes
  have hr := B.returns
  have hts := atoms_spec (ws := wsJ3_checkIndex_8e157) B.pre
  have hown : s.vm.findClass RJ3 = some m.cls := findClass_of_methodNamed B.named
  have hlocks := B.notSynchronized
  have hl := lv_entry ([.int (nI i), .int (nI n), .null]) (n := 3) (Nat.le_of_ble_eq_true rfl)
  rw [lg_entry_eq]
  generalize (lg_sl ([.int (nI i), .int (nI n), .null]) ++ List.replicate (3 - (lg_sl ([.int (nI i), .int (nI n), .null])).length) Slot.unset).toArray = ls at hl ⊢
  have hl : lv_has ls 3 [(0, .int (nI i)), (1, .int (nI n)), (2, .null)] := hl
  obtain ⟨OUT, hO⟩ : ∃ z, z = F_J3_checkIndex_8e157 i n := ⟨_, rfl⟩
  have hF := hO
  unfold F_J3_checkIndex_8e157 at hF
  refine lv_iload_n hx hb dJ3_checkIndex_8e157_0 rfl (lv_at hl 0 rfl) ?_
  refine lv_if_lt (tgt := 9) hx hb dJ3_checkIndex_8e157_1 (by decide) (fun c_1 => absurd c_1 (nI_pos (by omega))) (fun _ => ?_)
  refine lv_iload_n hx hb dJ3_checkIndex_8e157_4 rfl (lv_at hl 0 rfl) ?_
  refine lv_iload_n hx hb dJ3_checkIndex_8e157_5 rfl (lv_at hl 1 rfl) ?_
  refine qv_icmp_lt (tgt := 16) hx hb dJ3_checkIndex_8e157_6 (by decide) (by omega) (by omega) (fun _ => ?_) (fun c_6 => absurd h1 c_6)
  refine lv_iload_n hx hb dJ3_checkIndex_8e157_16 rfl (lv_at hl 0 rfl) ?_
  exact W.iret (v := nI i) hx hb hr (fun t ht hW => ⟨_, rfl, hO.symm.trans hF, ht⟩) (fun _ h => by cases h) dJ3_checkIndex_8e157_17
def F_J0_checkIndex_df160 (i : Nat) (n : Nat) : Unit := ()
set_option maxHeartbeats 4000000 in
set_option maxRecDepth 100000 in
theorem c_J0_checkIndex_df160 (l : Launch) (fr : Nat) (adK adV : Nat → Nat) (i : Nat) (n : Nat) (h1 : i < n) (h2 : n < 2 ^ 31) : Met l yJ0_checkIndex_df160 wsJ0_checkIndex_df160 { frames := 1, cells := 0, slots := 0, locals := 22 } (sPc fr adK adV [.int (nI i), .int (nI n)]) sV 0 0 (fun _ => False) := by
  refine Met.ofW (cc := cJ0_checkIndex_df160) (maxL := 2) (ret := none) (by decide) rfl ?_
  intro p e s m args below meth c s₁ B hml hv
  obtain ⟨rfl, hE⟩ := hv
  have hx := B.exec
  have hb := B.bytes
  have hr := B.returns
  have hts := atoms_spec (ws := wsJ0_checkIndex_df160) B.pre
  have hown : s.vm.findClass RJ0 = some m.cls := findClass_of_methodNamed B.named
  have hlocks := B.notSynchronized
  have hS : va_S (fun q => s.heap.size ≤ q) s.heap s.heap [] := va_S.rf
  have hA : ∀ q : Nat, s.heap.size ≤ q → s.heap.size ≤ q := fun _ h => h
  have hl := lv_entry ([.int (nI i), .int (nI n)]) (n := 2) (Nat.le_of_ble_eq_true rfl)
  rw [lg_entry_eq]
  generalize (lg_sl ([.int (nI i), .int (nI n)]) ++ List.replicate (2 - (lg_sl ([.int (nI i), .int (nI n)])).length) Slot.unset).toArray = ls at hl ⊢
  have hl : lv_has ls 2 [(0, .int (nI i)), (1, .int (nI n))] := hl
  obtain ⟨OUT, hO⟩ : ∃ z, z = F_J0_checkIndex_df160 i n := ⟨_, rfl⟩
  have hF := hO
  unfold F_J0_checkIndex_df160 at hF
  refine lv_iload_n hx hb dJ0_checkIndex_df160_0 rfl (lv_at hl 0 rfl) ?_
  refine lv_iload_n hx hb dJ0_checkIndex_df160_1 rfl (lv_at hl 1 rfl) ?_
  cases fr with
  | zero =>
    refine va_gets (v := .null) hx hb hE.2.1 hS hown (hts (.fieldLink RJ0 1053 "jdk/internal/util/Preconditions" "SIOOBE_FORMATTER" "Ljava/util/function/BiFunction;") (by decide +kernel)) (fun _ h9 => h9) dJ0_checkIndex_df160_2 ?_
    refine qc_Si (As := [.int (nI i), .int (nI n), .null]) (rest := []) ⟨hx, hb, hml, hown, hts⟩ (c_J3_checkIndex_8e157_n l  i n (by omega) (by omega)) (va_cwS 3 hts gJ0_checkIndex_df160_J3_checkIndex_8e157 rfl rfl rfl (by decide +kernel) ⟨Nat.le_of_ble_eq_true rfl, Nat.le_of_ble_eq_true rfl⟩) rfl hl.1 rfl (Nat.le_of_ble_eq_true rfl) dJ0_checkIndex_df160_5 ⟨Nat.zero_le _, Nat.zero_le _⟩ (fun r_5 hw_5 => ?_)
    subst hw_5
    refine lv_pop hx hb dJ0_checkIndex_df160_8 rfl ?_
    exact W.vret hx hb hr (fun t ht hW => ⟨rfl, ht⟩) (fun _ h => by cases h) dJ0_checkIndex_df160_9
  | succ k =>
    refine va_gets (v := .ref k) hx hb hE.2.1 hS hown (hts (.fieldLink RJ0 1053 "jdk/internal/util/Preconditions" "SIOOBE_FORMATTER" "Ljava/util/function/BiFunction;") (by decide +kernel)) (fun _ h9 => h9) dJ0_checkIndex_df160_2 ?_
    refine qc_Si (As := [.int (nI i), .int (nI n), .ref k]) (rest := []) ⟨hx, hb, hml, hown, hts⟩ (c_J3_checkIndex_8e157 l k  i n (by omega) (by omega)) (va_cwS 3 hts gJ0_checkIndex_df160_J3_checkIndex_8e157 rfl rfl rfl (by decide +kernel) ⟨Nat.le_of_ble_eq_true rfl, Nat.le_of_ble_eq_true rfl⟩) rfl hl.1 rfl (Nat.le_of_ble_eq_true rfl) dJ0_checkIndex_df160_5 ⟨Nat.zero_le _, Nat.zero_le _⟩ (fun r_5 hw_5 => ?_)
    subst hw_5
    refine lv_pop hx hb dJ0_checkIndex_df160_8 rfl ?_
    exact W.vret hx hb hr (fun t ht hW => ⟨rfl, ht⟩) (fun _ h => by cases h) dJ0_checkIndex_df160_9
def F_J1_charAt_3b067 (w : Nat) (i : Nat) : Int32 := ((((bytS.getD w []).getD i 0) &&& (nI 255)).toUInt32 % 65536).toInt32
set_option maxHeartbeats 4000000 in
set_option maxRecDepth 100000 in
theorem c_J1_charAt_3b067 (l : Launch) (fr : Nat) (adK adV : Nat → Nat) (w : Nat) (hw : w < 3) (i : Nat) (h1 : i < lenS.getD w 0) : Met l yJ1_charAt_3b067 wsJ1_charAt_3b067 { frames := 2, cells := 0, slots := 0, locals := 43 } (sPc fr adK adV [.ref (adV w), .int (nI i)]) (vp_Si (fun r => F_J1_charAt_3b067 w i = r)) 0 0 (fun _ => False) := by
  refine Met.ofW (cc := cJ1_charAt_3b067) (maxL := 2) (ret := (some .char)) (by decide) rfl ?_
  intro p e s m args below meth c s₁ B hml hv
  obtain ⟨rfl, hE⟩ := hv
  have hx := B.exec
  have hb := B.bytes
  have hr := B.returns
  have hts := atoms_spec (ws := wsJ1_charAt_3b067) B.pre
  have hown : s.vm.findClass RJ1 = some m.cls := findClass_of_methodNamed B.named
  have hlocks := B.notSynchronized
  have hS : va_S (fun q => s.heap.size ≤ q) s.heap s.heap [] := va_S.rf
  have hA : ∀ q : Nat, s.heap.size ≤ q → s.heap.size ≤ q := fun _ h => h
  have hlw : lenS.getD w 0 ≤ 6 := by have : w = 0 ∨ w = 1 ∨ w = 2 := by omega
                                     rcases this with rfl | rfl | rfl <;> decide
  have hl := lv_entry ([.ref (adV w), .int (nI i)]) (n := 2) (Nat.le_of_ble_eq_true rfl)
  rw [lg_entry_eq]
  generalize (lg_sl ([.ref (adV w), .int (nI i)]) ++ List.replicate (2 - (lg_sl ([.ref (adV w), .int (nI i)])).length) Slot.unset).toArray = ls at hl ⊢
  have hl : lv_has ls 2 [(0, .ref (adV w)), (1, .int (nI i))] := hl
  obtain ⟨OUT, hO⟩ : ∃ z, z = F_J1_charAt_3b067 w i := ⟨_, rfl⟩
  have hF := hO
  unfold F_J1_charAt_3b067 at hF
  refine lv_iload_n hx hb dJ1_charAt_3b067_0 rfl (lv_at hl 1 rfl) ?_
  refine lv_aload_n hx hb dJ1_charAt_3b067_1 rfl (lv_at hl 0 rfl) ?_
  refine va_tlen (v := nI ((lenS.getD w 0))) hx hb (hE.2.2.1.1 w hw).2.2.2 hS rfl dJ1_charAt_3b067_2 ?_
  refine qg_Sv (As := [.int (nI i), .int (nI ((lenS.getD w 0)))]) (rest := []) ⟨hx, hb, hml, hown, hts⟩ (c_J0_checkIndex_df160 l fr adK adV  i ((lenS.getD w 0)) (by omega) (by omega)) (va_cwS 2 hts gJ1_charAt_3b067_J0_checkIndex_df160 rfl rfl rfl (by decide +kernel) ⟨Nat.le_of_ble_eq_true rfl, Nat.le_of_ble_eq_true rfl⟩) hS hA hE rfl hl.1 rfl (Nat.le_of_ble_eq_true rfl) dJ1_charAt_3b067_3 ⟨Nat.zero_le _, Nat.zero_le _⟩ ?_
  refine lv_aload_n hx hb dJ1_charAt_3b067_6 rfl (lv_at hl 0 rfl) ?_
  refine lv_iload_n hx hb dJ1_charAt_3b067_7 rfl (lv_at hl 1 rfl) ?_
  refine va_tb (v := .int ((bytS.getD w []).getD i 0)) hx hb (hE.2.2.1.1 w hw).2.2.2 hS (vp_in_nI (by omega) (by omega)) (by show Value.int _ = _; rw [nI_clamp (by omega)]) dJ1_charAt_3b067_8 ?_
  refine lv_sipush (v := nI 255) hx hb dJ1_charAt_3b067_9 (by decide) ?_
  refine lv_iand hx hb dJ1_charAt_3b067_12 ?_
  refine lv_i2c (v := ((((bytS.getD w []).getD i 0) &&& (nI 255)).toUInt32 % 65536).toInt32) hx hb dJ1_charAt_3b067_13 rfl ?_
  exact W.zret (v := ((((bytS.getD w []).getD i 0) &&& (nI 255)).toUInt32 % 65536).toInt32) hx hb hr (wdC_nar w hw i (by omega)) (fun t ht hW => ⟨_, rfl, hO.symm.trans hF, ht⟩) (fun _ h => by cases h) dJ1_charAt_3b067_14
def F_J0_charAt_5068e (w : Nat) (i : Nat) : Int32 := F_J1_charAt_3b067 w i
set_option maxHeartbeats 4000000 in
set_option maxRecDepth 100000 in
theorem c_J0_charAt_5068e (l : Launch) (fr : Nat) (adK adV : Nat → Nat) (w : Nat) (hw : w < 3) (i : Nat) (h1 : i < lenS.getD w 0) : Met l yJ0_charAt_5068e wsJ0_charAt_5068e { frames := 3, cells := 0, slots := 0, locals := 64 } (sPc fr adK adV [.ref (adK w), .int (nI i)]) (vp_Si (fun r => F_J0_charAt_5068e w i = r)) 0 0 (fun _ => False) := by
  refine Met.ofW (cc := cJ0_charAt_5068e) (maxL := 2) (ret := (some .char)) (by decide) rfl ?_
  intro p e s m args below meth c s₁ B hml hv
  obtain ⟨rfl, hE⟩ := hv
  have hx := B.exec
  have hb := B.bytes
  have hr := B.returns
  have hts := atoms_spec (ws := wsJ0_charAt_5068e) B.pre
  have hown : s.vm.findClass RJ0 = some m.cls := findClass_of_methodNamed B.named
  have hlocks := B.notSynchronized
  have hS : va_S (fun q => s.heap.size ≤ q) s.heap s.heap [] := va_S.rf
  have hA : ∀ q : Nat, s.heap.size ≤ q → s.heap.size ≤ q := fun _ h => h
  have hlw : lenS.getD w 0 ≤ 6 := by have : w = 0 ∨ w = 1 ∨ w = 2 := by omega
                                     rcases this with rfl | rfl | rfl <;> decide
  have hl := lv_entry ([.ref (adK w), .int (nI i)]) (n := 2) (Nat.le_of_ble_eq_true rfl)
  rw [lg_entry_eq]
  generalize (lg_sl ([.ref (adK w), .int (nI i)]) ++ List.replicate (2 - (lg_sl ([.ref (adK w), .int (nI i)])).length) Slot.unset).toArray = ls at hl ⊢
  have hl : lv_has ls 2 [(0, .ref (adK w)), (1, .int (nI i))] := hl
  obtain ⟨OUT, hO⟩ : ∃ z, z = F_J0_charAt_5068e w i := ⟨_, rfl⟩
  have hF := hO
  unfold F_J0_charAt_5068e at hF
  refine lv_aload_n hx hb dJ0_charAt_5068e_0 rfl (lv_at hl 0 rfl) ?_
  refine qg_V (w := w) (As := []) (rest := []) ⟨hx, hb, hml, hown, hts⟩ (c_J0_isLatin1_aae02 l fr adK adV w hw  ) (cwV 0 hts gJ0_charAt_5068e_J0_isLatin1_aae02 rfl rfl rfl (by decide +kernel) ⟨Nat.le_of_ble_eq_true rfl, Nat.le_of_ble_eq_true rfl⟩) hw hS hA hE rfl hl.1 rfl (Nat.le_of_ble_eq_true rfl) dJ0_charAt_5068e_1 ⟨Nat.zero_le _, Nat.zero_le _⟩ (fun r_1 hw_1 => ?_)
  subst hw_1
  refine qv_top (show (if F_J0_isLatin1_aae02 w = true then (1 : Int32) else 0) = nI 1 from rfl) ?_
  refine qv_if_eq (tgt := 16) hx hb dJ0_charAt_5068e_4 (by decide) (by omega) (fun c_4 => absurd c_4 (by decide)) (fun _ => ?_)
  refine lv_aload_n hx hb dJ0_charAt_5068e_7 rfl (lv_at hl 0 rfl) ?_
  refine vk_getf (v := .ref (adV w)) hx hb (hE.2.2.1.1 w hw).2.2.1 hS hown (hts (.fieldLink RJ0 9 "java/lang/String" "value" "[B") (by decide +kernel)) (fun _ h9 => h9) dJ0_charAt_5068e_8 ?_
  refine lv_iload_n hx hb dJ0_charAt_5068e_11 rfl (lv_at hl 1 rfl) ?_
  refine qg_S (As := [.ref (adV w), .int (nI i)]) (rest := []) ⟨hx, hb, hml, hown, hts⟩ (c_J1_charAt_3b067 l fr adK adV w hw i (by omega)) (va_cwS 2 hts gJ0_charAt_5068e_J1_charAt_3b067 rfl rfl rfl (by decide +kernel) ⟨Nat.le_of_ble_eq_true rfl, Nat.le_of_ble_eq_true rfl⟩) hS hA hE rfl hl.1 rfl (Nat.le_of_ble_eq_true rfl) dJ0_charAt_5068e_12 ⟨Nat.zero_le _, Nat.zero_le _⟩ (fun r_12 hw_12 => ?_)
  subst hw_12
  exact W.zret (v := F_J1_charAt_3b067 w i) hx hb hr (wdC_nar w hw i (by omega)) (fun t ht hW => ⟨_, rfl, hO.symm.trans hF, ht⟩) (fun _ h => by cases h) dJ0_charAt_5068e_15
