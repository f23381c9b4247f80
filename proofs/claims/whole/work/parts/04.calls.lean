/-! calls over one world -/
/-- a method's start: its world, of a size -/
def mPc (D : va_G) (cl : List vw_C) (tys : List (ClassId × FieldType)) (ws : va_W) (sz : Nat) (av : List Value) : Array Value → State → Prop := va_Pc av (fun U => U.heap.size = sz ∧ va_P D cl ws U.heap ∧ va_K D cl tys U ∧ va_D (fun _ => True) ws)
/-- a method's end: the world as the answer's state tells -/
def mB {S : Type} (D : va_G) (cl : List vw_C) (tys : List (ClassId × FieldType)) (A : Nat → Prop) (ws' : S → va_W) : S → State → Prop := fun u t => va_P D cl (ws' u) t.heap ∧ va_K D cl tys t ∧ va_D A (ws' u)
theorem mPc_blind {D : va_G} {cl : List vw_C} {tys : List (ClassId × FieldType)} {ws : va_W} {sz : Nat} {av : List Value} : FrameBlind (mPc D cl tys ws sz av) := by
  intro a U g mk q
  obtain ⟨q0, q1, qP, qK, qD⟩ := q
  exact ⟨q0, q1, qP, va_K.moved (u := U) (U := U.calling g mk a) (Vm.Alike.refl U.vm) qK, qD⟩
theorem pure_blind {av : List Value} : FrameBlind (va_Pc av (fun _ => True)) := fun _ _ _ _ q => q
section QCALLS
variable {p : Program} {l : Launch} {e : Env} {R : Room} {s : State} {m : MethodId} {args : Array Value} {below : List Frame} {meth : Method} {c : Code} {H : Heap} {locs : List Loc} {cells slots : Nat} {Q : State → Prop}
variable {cc : ByteArray} {pc : Nat} {ls : Array Slot} {rest : List Value} {D : va_G} {cl : List vw_C} {A : Nat → Prop} {tys : List (ClassId × FieldType)} {ws : va_W} {H0 : Heap}
variable {y : MethodName} {wy Ts : List Cond} {rm : Room} {own C : String} {index maxL nL nA ci k0 b : Nat} {ret : Option FieldType} {bytes : ByteArray} {As fs st0 : List Value} {qc : vw_C}
theorem mfree (hD : va_D A ws) (hS : va_S A H0 H locs) (hA : ∀ q, H0.size ≤ q → A q) : ∀ q, va_A ws H.size q → A q := by
  intro q h
  rcases h with ⟨k, e, h⟩ | h
  · exact hD.2 k (q, e) h
  · exact hA q (Nat.le_trans hS.1 h)
theorem qc_Vi {S : Type} {post : Int32 → S → Prop} {ws' : S → va_W} (S0 : CallFix p m c cc nL s args Ts own)
    (hM : Met l y wy rm (mPc D cl tys ws H.size (.ref b :: As)) (va_Qi post (mB D cl tys (va_A ws H.size) ws') (va_A ws H.size)) 0 0 (va_A ws H.size))
    (cw : CallW R s args own C index y bytes maxL ret wy rm 0 0 nA) (hK : va_K D cl tys s) (hP : va_P D cl ws H) (hD : va_D A ws) (hS : va_S A H0 H locs) (hA : ∀ q, H0.size ≤ q → A q)
    (hc : cl[ci]? = some qc) (he : ws[k0]? = some (b, .inr (ci, fs))) (hC : qc.1 = C) (hn : As.length = nA) (hsize : ls.size = nL) (hst : st0 = As.reverse ++ .ref b :: rest) (hW : (rest.map fun v => v.category).sum ≤ 8) (hdg : decode cc pc = .ok (.invokevirtual index, 3)) (hf : cells ≤ R.cells ∧ slots ≤ R.slots)
    (kk : ∀ (r : Int32) (u : S) (H1 : Heap) (locs1 : List Loc), post r u → va_P D cl (ws' u) H1 → va_D A (ws' u) → va_S A H0 H1 locs1 → W p l e R s m args below meth c H1 locs1 cells slots Q (F0 m (pc + 3) ls (.int r :: rest))) : W p l e R s m args below meth c H locs cells slots Q (F0 m pc ls st0) := by
  have hFc := mfree hD hS hA
  subst hC
  refine va_calli (va_runV (As := As) (rest := rest) (b := b) S0 hM cw ⟨mPc_blind, va_recv hK hP hc he, fun U hU hW => ⟨rfl, by rw [hU], by rw [hU]; exact hP, va_K.moved hW.alike hK, hD.weaken (fun _ _ _ _ => trivial)⟩⟩ rfl hn hsize hst (lv_room hW) hdg hf) hS (fun q _ h => hFc q h) hFc (fun r u t H1 locs1 ht hvm hw hB hz1 hk1 hS1 => ?_)
  obtain ⟨hP1, -, hD1⟩ := hB
  rw [ht] at hP1
  exact kk r u H1 locs1 hw hP1 (hD1.weaken (fun _ _ _ h => hFc _ h)) hS1
theorem qc_Vl {S : Type} {post : Int64 → S → Prop} {ws' : S → va_W} (S0 : CallFix p m c cc nL s args Ts own)
    (hM : Met l y wy rm (mPc D cl tys ws H.size (.ref b :: As)) (va_Ql post (mB D cl tys (va_A ws H.size) ws') (va_A ws H.size)) 0 0 (va_A ws H.size))
    (cw : CallW R s args own C index y bytes maxL ret wy rm 0 0 nA) (hK : va_K D cl tys s) (hP : va_P D cl ws H) (hD : va_D A ws) (hS : va_S A H0 H locs) (hA : ∀ q, H0.size ≤ q → A q)
    (hc : cl[ci]? = some qc) (he : ws[k0]? = some (b, .inr (ci, fs))) (hC : qc.1 = C) (hn : As.length = nA) (hsize : ls.size = nL) (hst : st0 = As.reverse ++ .ref b :: rest) (hW : (rest.map fun v => v.category).sum ≤ 8) (hdg : decode cc pc = .ok (.invokevirtual index, 3)) (hf : cells ≤ R.cells ∧ slots ≤ R.slots)
    (kk : ∀ (r : Int64) (u : S) (H1 : Heap) (locs1 : List Loc), post r u → va_P D cl (ws' u) H1 → va_D A (ws' u) → va_S A H0 H1 locs1 → W p l e R s m args below meth c H1 locs1 cells slots Q (F0 m (pc + 3) ls (.long r :: rest))) : W p l e R s m args below meth c H locs cells slots Q (F0 m pc ls st0) := by
  have hFc := mfree hD hS hA
  subst hC
  refine va_calll (va_runV (As := As) (rest := rest) (b := b) S0 hM cw ⟨mPc_blind, va_recv hK hP hc he, fun U hU hW => ⟨rfl, by rw [hU], by rw [hU]; exact hP, va_K.moved hW.alike hK, hD.weaken (fun _ _ _ _ => trivial)⟩⟩ rfl hn hsize hst (lv_room hW) hdg hf) hS (fun q _ h => hFc q h) hFc (fun r u t H1 locs1 ht hvm hw hB hz1 hk1 hS1 => ?_)
  obtain ⟨hP1, -, hD1⟩ := hB
  rw [ht] at hP1
  exact kk r u H1 locs1 hw hP1 (hD1.weaken (fun _ _ _ h => hFc _ h)) hS1
theorem qc_Vv {S : Type} {post : S → Prop} {ws' : S → va_W} (S0 : CallFix p m c cc nL s args Ts own)
    (hM : Met l y wy rm (mPc D cl tys ws H.size (.ref b :: As)) (va_Qv post (mB D cl tys (va_A ws H.size) ws') (va_A ws H.size)) 0 0 (va_A ws H.size))
    (cw : CallW R s args own C index y bytes maxL ret wy rm 0 0 nA) (hK : va_K D cl tys s) (hP : va_P D cl ws H) (hD : va_D A ws) (hS : va_S A H0 H locs) (hA : ∀ q, H0.size ≤ q → A q)
    (hc : cl[ci]? = some qc) (he : ws[k0]? = some (b, .inr (ci, fs))) (hC : qc.1 = C) (hn : As.length = nA) (hsize : ls.size = nL) (hst : st0 = As.reverse ++ .ref b :: rest) (hW : (rest.map fun v => v.category).sum ≤ 8) (hdg : decode cc pc = .ok (.invokevirtual index, 3)) (hf : cells ≤ R.cells ∧ slots ≤ R.slots)
    (kk : ∀ (u : S) (H1 : Heap) (locs1 : List Loc), post u → va_P D cl (ws' u) H1 → va_D A (ws' u) → va_S A H0 H1 locs1 → W p l e R s m args below meth c H1 locs1 cells slots Q (F0 m (pc + 3) ls rest)) : W p l e R s m args below meth c H locs cells slots Q (F0 m pc ls st0) := by
  have hFc := mfree hD hS hA
  subst hC
  refine va_callv (va_runV (As := As) (rest := rest) (b := b) S0 hM cw ⟨mPc_blind, va_recv hK hP hc he, fun U hU hW => ⟨rfl, by rw [hU], by rw [hU]; exact hP, va_K.moved hW.alike hK, hD.weaken (fun _ _ _ _ => trivial)⟩⟩ rfl hn hsize hst (lv_room hW) hdg hf) hS (fun q _ h => hFc q h) hFc (fun u t H1 locs1 ht hvm hw hB hz1 hk1 hS1 => ?_)
  obtain ⟨hP1, -, hD1⟩ := hB
  rw [ht] at hP1
  exact kk u H1 locs1 hw hP1 (hD1.weaken (fun _ _ _ h => hFc _ h)) hS1
theorem qc_Si {post : Int32 → Prop} (S0 : CallFix p m c cc nL s args Ts own)
    (hM : Met l y wy rm (va_Pc As (fun _ => True)) (vp_Si post) 0 0 (fun _ => False))
    (cw : CallB R s args own index y bytes maxL ret wy rm 0 0 nA ∧ (Cond.static y).before args s = true)
    (hn : As.length = nA) (hsize : ls.size = nL) (hst : st0 = As.reverse ++ rest) (hW : (rest.map fun v => v.category).sum ≤ 8) (hdg : decode cc pc = .ok (.invokestatic index, 3)) (hf : cells ≤ R.cells ∧ slots ≤ R.slots)
    (kk : ∀ r : Int32, post r → W p l e R s m args below meth c H locs cells slots Q (F0 m (pc + 3) ls (.int r :: rest))) : W p l e R s m args below meth c H locs cells slots Q (F0 m pc ls st0) :=
  vp_callSi (W.runS (As := As) (rest := rest) S0 hM cw ⟨pure_blind, fun U hU hW => ⟨rfl, trivial⟩⟩ rfl hn hsize hst (lv_room hW) hdg hf) kk
end QCALLS
/-! what is told on: a value of a call, the numbers that a loop leaves -/
def let1 {α1 γ : Type} (p : α1) (k : α1 → γ) : γ := k p
theorem let1_mk {α1 γ : Type} (a1 : α1) (k : α1 → γ) : let1 a1 k = k a1 := rfl
def sel1 {α1 ρ γ : Type} (s : (α1) ⊕ ρ) (k : α1 → γ) (g : ρ → γ) : γ := match s with
  | .inl p => k p
  | .inr r => g r
theorem sel1_inl {α1 ρ γ : Type} (a1 : α1) (k : α1 → γ) (g : ρ → γ) : sel1 (.inl a1) k g = k a1 := rfl
theorem sel1_inr {α1 ρ γ : Type} (r : ρ) (k : α1 → γ) (g : ρ → γ) : sel1 (.inr r) k g = g r := rfl
def let2 {α1 α2 γ : Type} (p : α1 × α2) (k : α1 → α2 → γ) : γ := k (p.1) (p.2)
theorem let2_mk {α1 α2 γ : Type} (a1 : α1) (a2 : α2) (k : α1 → α2 → γ) : let2 (a1, a2) k = k a1 a2 := rfl
def sel2 {α1 α2 ρ γ : Type} (s : (α1 × α2) ⊕ ρ) (k : α1 → α2 → γ) (g : ρ → γ) : γ := match s with
  | .inl p => k (p.1) (p.2)
  | .inr r => g r
theorem sel2_inl {α1 α2 ρ γ : Type} (a1 : α1) (a2 : α2) (k : α1 → α2 → γ) (g : ρ → γ) : sel2 (.inl (a1, a2)) k g = k a1 a2 := rfl
theorem sel2_inr {α1 α2 ρ γ : Type} (r : ρ) (k : α1 → α2 → γ) (g : ρ → γ) : sel2 (.inr r) k g = g r := rfl
def let3 {α1 α2 α3 γ : Type} (p : α1 × α2 × α3) (k : α1 → α2 → α3 → γ) : γ := k (p.1) (p.2.1) (p.2.2)
theorem let3_mk {α1 α2 α3 γ : Type} (a1 : α1) (a2 : α2) (a3 : α3) (k : α1 → α2 → α3 → γ) : let3 (a1, a2, a3) k = k a1 a2 a3 := rfl
def sel3 {α1 α2 α3 ρ γ : Type} (s : (α1 × α2 × α3) ⊕ ρ) (k : α1 → α2 → α3 → γ) (g : ρ → γ) : γ := match s with
  | .inl p => k (p.1) (p.2.1) (p.2.2)
  | .inr r => g r
theorem sel3_inl {α1 α2 α3 ρ γ : Type} (a1 : α1) (a2 : α2) (a3 : α3) (k : α1 → α2 → α3 → γ) (g : ρ → γ) : sel3 (.inl (a1, a2, a3)) k g = k a1 a2 a3 := rfl
theorem sel3_inr {α1 α2 α3 ρ γ : Type} (r : ρ) (k : α1 → α2 → α3 → γ) (g : ρ → γ) : sel3 (.inr r) k g = g r := rfl
def let4 {α1 α2 α3 α4 γ : Type} (p : α1 × α2 × α3 × α4) (k : α1 → α2 → α3 → α4 → γ) : γ := k (p.1) (p.2.1) (p.2.2.1) (p.2.2.2)
theorem let4_mk {α1 α2 α3 α4 γ : Type} (a1 : α1) (a2 : α2) (a3 : α3) (a4 : α4) (k : α1 → α2 → α3 → α4 → γ) : let4 (a1, a2, a3, a4) k = k a1 a2 a3 a4 := rfl
def sel4 {α1 α2 α3 α4 ρ γ : Type} (s : (α1 × α2 × α3 × α4) ⊕ ρ) (k : α1 → α2 → α3 → α4 → γ) (g : ρ → γ) : γ := match s with
  | .inl p => k (p.1) (p.2.1) (p.2.2.1) (p.2.2.2)
  | .inr r => g r
theorem sel4_inl {α1 α2 α3 α4 ρ γ : Type} (a1 : α1) (a2 : α2) (a3 : α3) (a4 : α4) (k : α1 → α2 → α3 → α4 → γ) (g : ρ → γ) : sel4 (.inl (a1, a2, a3, a4)) k g = k a1 a2 a3 a4 := rfl
theorem sel4_inr {α1 α2 α3 α4 ρ γ : Type} (r : ρ) (k : α1 → α2 → α3 → α4 → γ) (g : ρ → γ) : sel4 (.inr r) k g = g r := rfl
def let5 {α1 α2 α3 α4 α5 γ : Type} (p : α1 × α2 × α3 × α4 × α5) (k : α1 → α2 → α3 → α4 → α5 → γ) : γ := k (p.1) (p.2.1) (p.2.2.1) (p.2.2.2.1) (p.2.2.2.2)
theorem let5_mk {α1 α2 α3 α4 α5 γ : Type} (a1 : α1) (a2 : α2) (a3 : α3) (a4 : α4) (a5 : α5) (k : α1 → α2 → α3 → α4 → α5 → γ) : let5 (a1, a2, a3, a4, a5) k = k a1 a2 a3 a4 a5 := rfl
def sel5 {α1 α2 α3 α4 α5 ρ γ : Type} (s : (α1 × α2 × α3 × α4 × α5) ⊕ ρ) (k : α1 → α2 → α3 → α4 → α5 → γ) (g : ρ → γ) : γ := match s with
  | .inl p => k (p.1) (p.2.1) (p.2.2.1) (p.2.2.2.1) (p.2.2.2.2)
  | .inr r => g r
theorem sel5_inl {α1 α2 α3 α4 α5 ρ γ : Type} (a1 : α1) (a2 : α2) (a3 : α3) (a4 : α4) (a5 : α5) (k : α1 → α2 → α3 → α4 → α5 → γ) (g : ρ → γ) : sel5 (.inl (a1, a2, a3, a4, a5)) k g = k a1 a2 a3 a4 a5 := rfl
theorem sel5_inr {α1 α2 α3 α4 α5 ρ γ : Type} (r : ρ) (k : α1 → α2 → α3 → α4 → α5 → γ) (g : ρ → γ) : sel5 (.inr r) k g = g r := rfl
def let6 {α1 α2 α3 α4 α5 α6 γ : Type} (p : α1 × α2 × α3 × α4 × α5 × α6) (k : α1 → α2 → α3 → α4 → α5 → α6 → γ) : γ := k (p.1) (p.2.1) (p.2.2.1) (p.2.2.2.1) (p.2.2.2.2.1) (p.2.2.2.2.2)
theorem let6_mk {α1 α2 α3 α4 α5 α6 γ : Type} (a1 : α1) (a2 : α2) (a3 : α3) (a4 : α4) (a5 : α5) (a6 : α6) (k : α1 → α2 → α3 → α4 → α5 → α6 → γ) : let6 (a1, a2, a3, a4, a5, a6) k = k a1 a2 a3 a4 a5 a6 := rfl
def sel6 {α1 α2 α3 α4 α5 α6 ρ γ : Type} (s : (α1 × α2 × α3 × α4 × α5 × α6) ⊕ ρ) (k : α1 → α2 → α3 → α4 → α5 → α6 → γ) (g : ρ → γ) : γ := match s with
  | .inl p => k (p.1) (p.2.1) (p.2.2.1) (p.2.2.2.1) (p.2.2.2.2.1) (p.2.2.2.2.2)
  | .inr r => g r
theorem sel6_inl {α1 α2 α3 α4 α5 α6 ρ γ : Type} (a1 : α1) (a2 : α2) (a3 : α3) (a4 : α4) (a5 : α5) (a6 : α6) (k : α1 → α2 → α3 → α4 → α5 → α6 → γ) (g : ρ → γ) : sel6 (.inl (a1, a2, a3, a4, a5, a6)) k g = k a1 a2 a3 a4 a5 a6 := rfl
theorem sel6_inr {α1 α2 α3 α4 α5 α6 ρ γ : Type} (r : ρ) (k : α1 → α2 → α3 → α4 → α5 → α6 → γ) (g : ρ → γ) : sel6 (.inr r) k g = g r := rfl
def let7 {α1 α2 α3 α4 α5 α6 α7 γ : Type} (p : α1 × α2 × α3 × α4 × α5 × α6 × α7) (k : α1 → α2 → α3 → α4 → α5 → α6 → α7 → γ) : γ := k (p.1) (p.2.1) (p.2.2.1) (p.2.2.2.1) (p.2.2.2.2.1) (p.2.2.2.2.2.1) (p.2.2.2.2.2.2)
theorem let7_mk {α1 α2 α3 α4 α5 α6 α7 γ : Type} (a1 : α1) (a2 : α2) (a3 : α3) (a4 : α4) (a5 : α5) (a6 : α6) (a7 : α7) (k : α1 → α2 → α3 → α4 → α5 → α6 → α7 → γ) : let7 (a1, a2, a3, a4, a5, a6, a7) k = k a1 a2 a3 a4 a5 a6 a7 := rfl
def sel7 {α1 α2 α3 α4 α5 α6 α7 ρ γ : Type} (s : (α1 × α2 × α3 × α4 × α5 × α6 × α7) ⊕ ρ) (k : α1 → α2 → α3 → α4 → α5 → α6 → α7 → γ) (g : ρ → γ) : γ := match s with
  | .inl p => k (p.1) (p.2.1) (p.2.2.1) (p.2.2.2.1) (p.2.2.2.2.1) (p.2.2.2.2.2.1) (p.2.2.2.2.2.2)
  | .inr r => g r
theorem sel7_inl {α1 α2 α3 α4 α5 α6 α7 ρ γ : Type} (a1 : α1) (a2 : α2) (a3 : α3) (a4 : α4) (a5 : α5) (a6 : α6) (a7 : α7) (k : α1 → α2 → α3 → α4 → α5 → α6 → α7 → γ) (g : ρ → γ) : sel7 (.inl (a1, a2, a3, a4, a5, a6, a7)) k g = k a1 a2 a3 a4 a5 a6 a7 := rfl
theorem sel7_inr {α1 α2 α3 α4 α5 α6 α7 ρ γ : Type} (r : ρ) (k : α1 → α2 → α3 → α4 → α5 → α6 → α7 → γ) (g : ρ → γ) : sel7 (.inr r) k g = g r := rfl
def let8 {α1 α2 α3 α4 α5 α6 α7 α8 γ : Type} (p : α1 × α2 × α3 × α4 × α5 × α6 × α7 × α8) (k : α1 → α2 → α3 → α4 → α5 → α6 → α7 → α8 → γ) : γ := k (p.1) (p.2.1) (p.2.2.1) (p.2.2.2.1) (p.2.2.2.2.1) (p.2.2.2.2.2.1) (p.2.2.2.2.2.2.1) (p.2.2.2.2.2.2.2)
theorem let8_mk {α1 α2 α3 α4 α5 α6 α7 α8 γ : Type} (a1 : α1) (a2 : α2) (a3 : α3) (a4 : α4) (a5 : α5) (a6 : α6) (a7 : α7) (a8 : α8) (k : α1 → α2 → α3 → α4 → α5 → α6 → α7 → α8 → γ) : let8 (a1, a2, a3, a4, a5, a6, a7, a8) k = k a1 a2 a3 a4 a5 a6 a7 a8 := rfl
def sel8 {α1 α2 α3 α4 α5 α6 α7 α8 ρ γ : Type} (s : (α1 × α2 × α3 × α4 × α5 × α6 × α7 × α8) ⊕ ρ) (k : α1 → α2 → α3 → α4 → α5 → α6 → α7 → α8 → γ) (g : ρ → γ) : γ := match s with
  | .inl p => k (p.1) (p.2.1) (p.2.2.1) (p.2.2.2.1) (p.2.2.2.2.1) (p.2.2.2.2.2.1) (p.2.2.2.2.2.2.1) (p.2.2.2.2.2.2.2)
  | .inr r => g r
theorem sel8_inl {α1 α2 α3 α4 α5 α6 α7 α8 ρ γ : Type} (a1 : α1) (a2 : α2) (a3 : α3) (a4 : α4) (a5 : α5) (a6 : α6) (a7 : α7) (a8 : α8) (k : α1 → α2 → α3 → α4 → α5 → α6 → α7 → α8 → γ) (g : ρ → γ) : sel8 (.inl (a1, a2, a3, a4, a5, a6, a7, a8)) k g = k a1 a2 a3 a4 a5 a6 a7 a8 := rfl
theorem sel8_inr {α1 α2 α3 α4 α5 α6 α7 α8 ρ γ : Type} (r : ρ) (k : α1 → α2 → α3 → α4 → α5 → α6 → α7 → α8 → γ) (g : ρ → γ) : sel8 (.inr r) k g = g r := rfl
theorem zb_nar (z : Bool) : narrow .boolean (.int (if z = true then 1 else 0)) = .int (if z = true then 1 else 0) := by cases z <;> rfl
theorem qn_ne {x : Int32} {v : Nat} (h : ¬ x = nI v) (hv : v < 2 ^ 31) : x.toInt ≠ (v : Int) := fun e => h (Int32.toInt_inj.mp (by rw [e, nI_toInt hv]))
/-! the reference's world: the object, its rows -/
abbrev mT (cI cZ : ClassId) : List (ClassId × FieldType) := [(cI, .int), (cZ, .boolean)]
abbrev mW (q : Nat → Nat) (cI cZ : ClassId) (w kp tx : Nat → Int32) (td : Int32) (ab be : Int64) (su : Nat → Int32) (po st nu : Int32) (li fi ga : Nat → Int32) (hh : Int64) : va_W :=
  [(q 0, .inr (6, [.ref (q 1), .ref (q 2), .ref (q 3), .int td, .long ab, .long be, .ref (q 4), .int po, .int st, .int nu, .ref (q 5), .ref (q 6), .ref (q 7), .long hh])), (q 1, .inl (cI, 624, .inl w)), (q 2, .inl (cZ, 2, .inl kp)), (q 3, .inl (cI, 150, .inl tx)), (q 4, .inl (cI, 3, .inl su)), (q 5, .inl (cI, 6, .inl li)), (q 6, .inl (cI, 6, .inl fi)), (q 7, .inl (cI, 36, .inl ga))]
