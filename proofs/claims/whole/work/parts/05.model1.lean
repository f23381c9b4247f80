def inB (x : Int32) (n : Nat) : Prop := 0 ≤ x ∧ tN x ≤ n
def okN (x : Int32) : Prop := x = -1 ∨ inB x 5
theorem inB_nI {n b : Nat} (h : n ≤ b) (hb : b < 2 ^ 31) : inB (nI n) b := ⟨nI_pos' (Nat.lt_of_le_of_lt h hb), by rw [tN_nI (Nat.lt_of_le_of_lt h hb)]; exact h⟩
theorem inB_le {x : Int32} {a b : Nat} (h : inB x a) (hab : a ≤ b) : inB x b := ⟨h.1, Nat.le_trans h.2 hab⟩
def F_X6_in (v : Int64) (lo : Int64) (hi : Int64) : Bool := if (lg_cmp v lo) < 0 then false else (if 0 < (lg_cmp v hi) then false else true)
set_option maxHeartbeats 4000000 in
set_option maxRecDepth 100000 in
theorem c_X6_in (l : Launch) (v : Int64) (lo : Int64) (hi : Int64) : Met l yX6_in wsX6_in { frames := 0, cells := 0, slots := 0, locals := 0 } (va_Pc [.long v, .long lo, .long hi] (fun _ => True)) (vp_Si (fun r => r = if F_X6_in v lo hi = true then 1 else 0)) 0 0 (fun _ => False) := by
  refine Met.ofW (cc := cX6_in) (maxL := 6) (ret := (some .boolean)) (by decide) rfl ?_
  intro p e s m args below meth c s₁ B hml hv
  obtain ⟨rfl, -⟩ := hv
  have hx := B.exec
  have hb := B.bytes
  have hr := B.returns
  have hts := atoms_spec (ws := wsX6_in) B.pre
  have hown : s.vm.findClass RX6 = some m.cls := findClass_of_methodNamed B.named
  have hlocks := B.notSynchronized
  have hl := lv_entry ([.long v, .long lo, .long hi]) (n := 6) (Nat.le_of_ble_eq_true rfl)
  rw [lg_entry_eq]
  generalize (lg_sl ([.long v, .long lo, .long hi]) ++ List.replicate (6 - (lg_sl ([.long v, .long lo, .long hi])).length) Slot.unset).toArray = ls at hl ⊢
  have hl : lv_has ls 6 [(0, .long v), (2, .long lo), (4, .long hi)] := hl
  obtain ⟨OUT, hO⟩ : ∃ z, z = F_X6_in v lo hi := ⟨_, rfl⟩
  have hF := hO
  unfold F_X6_in at hF
  refine lv_lload_n hx hb dX6_in_0 rfl (lv_at hl 0 rfl) ?_
  refine lv_lload_n hx hb dX6_in_1 rfl (lv_at hl 1 rfl) ?_
  refine W.lcmp hx hb dX6_in_2 ?_
  refine lv_if_lt (tgt := 17) hx hb dX6_in_3 (by decide) (fun c_3 => ?_) (fun c_3 => ?_)
  · rw [if_pos c_3] at hF
    refine lv_iconst (v := nI 0) hx hb dX6_in_17 (by decide) ?_
    have hq : (nI 0 : Int32) = if F_X6_in v lo hi = true then 1 else 0 := by rw [← hO, hF] <;> rfl
    exact W.zret (v := nI 0) hx hb hr (by rfl) (fun t ht hW => ⟨_, rfl, hq, ht⟩) (fun _ h => by cases h) dX6_in_18
  · rw [if_neg c_3] at hF
    refine lv_lload_n hx hb dX6_in_6 rfl (lv_at hl 0 rfl) ?_
    refine lv_lload hx hb dX6_in_7 (lv_at hl 2 rfl) ?_
    refine W.lcmp hx hb dX6_in_9 ?_
    refine lv_if_gt (tgt := 17) hx hb dX6_in_10 (by decide) (fun c_10 => ?_) (fun c_10 => ?_)
    · rw [if_pos c_10] at hF
      refine lv_iconst (v := nI 0) hx hb dX6_in_17 (by decide) ?_
      have hq : (nI 0 : Int32) = if F_X6_in v lo hi = true then 1 else 0 := by rw [← hO, hF] <;> rfl
      exact W.zret (v := nI 0) hx hb hr (by rfl) (fun t ht hW => ⟨_, rfl, hq, ht⟩) (fun _ h => by cases h) dX6_in_18
    · rw [if_neg c_10] at hF
      refine lv_iconst (v := nI 1) hx hb dX6_in_13 (by decide) ?_
      refine lv_goto (tgt := 18) hx hb dX6_in_14 (by decide) ?_
      have hq : (nI 1 : Int32) = if F_X6_in v lo hi = true then 1 else 0 := by rw [← hO, hF] <;> rfl
      exact W.zret (v := nI 1) hx hb hr (by rfl) (fun t ht hW => ⟨_, rfl, hq, ht⟩) (fun _ h => by cases h) dX6_in_18
def F_X6_has (s0 : Int32) (k : Int32) : Bool := if ((s0 >>> (k &&& 31)) &&& (nI 1)) = (nI 1) then true else false
set_option maxHeartbeats 4000000 in
set_option maxRecDepth 100000 in
theorem c_X6_has (l : Launch) (s0 : Int32) (k : Int32) : Met l yX6_has wsX6_has { frames := 0, cells := 0, slots := 0, locals := 0 } (va_Pc [.int s0, .int k] (fun _ => True)) (vp_Si (fun r => r = if F_X6_has s0 k = true then 1 else 0)) 0 0 (fun _ => False) := by
  refine Met.ofW (cc := cX6_has) (maxL := 2) (ret := (some .boolean)) (by decide) rfl ?_
  intro p e s m args below meth c s₁ B hml hv
  obtain ⟨rfl, -⟩ := hv
  have hx := B.exec
  have hb := B.bytes
  have hr := B.returns
  have hts := atoms_spec (ws := wsX6_has) B.pre
  have hown : s.vm.findClass RX6 = some m.cls := findClass_of_methodNamed B.named
  have hlocks := B.notSynchronized
  have hl := lv_entry ([.int s0, .int k]) (n := 2) (Nat.le_of_ble_eq_true rfl)
  rw [lg_entry_eq]
  generalize (lg_sl ([.int s0, .int k]) ++ List.replicate (2 - (lg_sl ([.int s0, .int k])).length) Slot.unset).toArray = ls at hl ⊢
  have hl : lv_has ls 2 [(0, .int s0), (1, .int k)] := hl
  obtain ⟨OUT, hO⟩ : ∃ z, z = F_X6_has s0 k := ⟨_, rfl⟩
  have hF := hO
  unfold F_X6_has at hF
  refine lv_iload_n hx hb dX6_has_0 rfl (lv_at hl 0 rfl) ?_
  refine lv_iload_n hx hb dX6_has_1 rfl (lv_at hl 1 rfl) ?_
  refine lv_ishr hx hb dX6_has_2 ?_
  refine lv_iconst (v := nI 1) hx hb dX6_has_3 (by decide) ?_
  refine lv_iand hx hb dX6_has_4 ?_
  refine lv_iconst (v := nI 1) hx hb dX6_has_5 (by decide) ?_
  refine lv_icmp_ne (tgt := 13) hx hb dX6_has_6 (by decide) (fun c_6 => ?_) (fun c_6 => ?_)
  · rw [if_neg c_6] at hF
    refine lv_iconst (v := nI 0) hx hb dX6_has_13 (by decide) ?_
    have hq : (nI 0 : Int32) = if F_X6_has s0 k = true then 1 else 0 := by rw [← hO, hF] <;> rfl
    exact W.zret (v := nI 0) hx hb hr (by rfl) (fun t ht hW => ⟨_, rfl, hq, ht⟩) (fun _ h => by cases h) dX6_has_14
  · rw [if_pos c_6] at hF
    refine lv_iconst (v := nI 1) hx hb dX6_has_9 (by decide) ?_
    refine lv_goto (tgt := 14) hx hb dX6_has_10 (by decide) ?_
    have hq : (nI 1 : Int32) = if F_X6_has s0 k = true then 1 else 0 := by rw [← hO, hF] <;> rfl
    exact W.zret (v := nI 1) hx hb hr (by rfl) (fun t ht hW => ⟨_, rfl, hq, ht⟩) (fun _ h => by cases h) dX6_has_14
def F_X6_fast (h : Int32) : Int32 := if h = 0 then nI 0 else h - (nI 1)
set_option maxHeartbeats 4000000 in
set_option maxRecDepth 100000 in
theorem c_X6_fast (l : Launch) (h : Int32) : Met l yX6_fast wsX6_fast { frames := 0, cells := 0, slots := 0, locals := 0 } (va_Pc [.int h] (fun _ => True)) (vp_Si (fun r => F_X6_fast h = r)) 0 0 (fun _ => False) := by
  refine Met.ofW (cc := cX6_fast) (maxL := 1) (ret := (some .int)) (by decide) rfl ?_
  intro p e s m args below meth c s₁ B hml hv
  obtain ⟨rfl, -⟩ := hv
  have hx := B.exec
  have hb := B.bytes
  have hr := B.returns
  have hts := atoms_spec (ws := wsX6_fast) B.pre
  have hown : s.vm.findClass RX6 = some m.cls := findClass_of_methodNamed B.named
  have hlocks := B.notSynchronized
  have hl := lv_entry ([.int h]) (n := 1) (Nat.le_of_ble_eq_true rfl)
  rw [lg_entry_eq]
  generalize (lg_sl ([.int h]) ++ List.replicate (1 - (lg_sl ([.int h])).length) Slot.unset).toArray = ls at hl ⊢
  have hl : lv_has ls 1 [(0, .int h)] := hl
  obtain ⟨OUT, hO⟩ : ∃ z, z = F_X6_fast h := ⟨_, rfl⟩
  have hF := hO
  unfold F_X6_fast at hF
  refine lv_iload_n hx hb dX6_fast_0 rfl (lv_at hl 0 rfl) ?_
  refine lv_if_ne (tgt := 8) hx hb dX6_fast_1 (by decide) (fun c_1 => ?_) (fun c_1 => ?_)
  · rw [if_neg c_1] at hF
    refine lv_iload_n hx hb dX6_fast_8 rfl (lv_at hl 0 rfl) ?_
    refine lv_iconst (v := nI 1) hx hb dX6_fast_9 (by decide) ?_
    refine lv_isub hx hb dX6_fast_10 ?_
    exact W.iret (v := h - (nI 1)) hx hb hr (fun t ht hW => ⟨_, rfl, hO.symm.trans hF, ht⟩) (fun _ h => by cases h) dX6_fast_11
  · rw [if_pos c_1] at hF
    refine lv_iconst (v := nI 0) hx hb dX6_fast_4 (by decide) ?_
    refine lv_goto (tgt := 11) hx hb dX6_fast_5 (by decide) ?_
    exact W.iret (v := nI 0) hx hb hr (fun t ht hW => ⟨_, rfl, hO.symm.trans hF, ht⟩) (fun _ h => by cases h) dX6_fast_11
def F_X6_slow (h : Int32) (t : Int32) : Int32 := h + (t - t / (nI 2) * (nI 2))
set_option maxHeartbeats 4000000 in
set_option maxRecDepth 100000 in
theorem c_X6_slow (l : Launch) (h : Int32) (t : Int32) : Met l yX6_slow wsX6_slow { frames := 0, cells := 0, slots := 0, locals := 0 } (va_Pc [.int h, .int t] (fun _ => True)) (vp_Si (fun r => F_X6_slow h t = r)) 0 0 (fun _ => False) := by
  refine Met.ofW (cc := cX6_slow) (maxL := 2) (ret := (some .int)) (by decide) rfl ?_
  intro p e s m args below meth c s₁ B hml hv
  obtain ⟨rfl, -⟩ := hv
  have hx := B.exec
  have hb := B.bytes
  have hr := B.returns
  have hts := atoms_spec (ws := wsX6_slow) B.pre
  have hown : s.vm.findClass RX6 = some m.cls := findClass_of_methodNamed B.named
  have hlocks := B.notSynchronized
  have hl := lv_entry ([.int h, .int t]) (n := 2) (Nat.le_of_ble_eq_true rfl)
  rw [lg_entry_eq]
  generalize (lg_sl ([.int h, .int t]) ++ List.replicate (2 - (lg_sl ([.int h, .int t])).length) Slot.unset).toArray = ls at hl ⊢
  have hl : lv_has ls 2 [(0, .int h), (1, .int t)] := hl
  obtain ⟨OUT, hO⟩ : ∃ z, z = F_X6_slow h t := ⟨_, rfl⟩
  have hF := hO
  unfold F_X6_slow at hF
  refine lv_iload_n hx hb dX6_slow_0 rfl (lv_at hl 0 rfl) ?_
  refine lv_iload_n hx hb dX6_slow_1 rfl (lv_at hl 1 rfl) ?_
  refine lv_iconst (v := nI 2) hx hb dX6_slow_2 (by decide) ?_
  refine lv_irem hx hb dX6_slow_3 (by decide) ?_
  refine lv_iadd hx hb dX6_slow_4 ?_
  exact W.iret (v := h + (t - t / (nI 2) * (nI 2))) hx hb hr (fun t ht hW => ⟨_, rfl, hO.symm.trans hF, ht⟩) (fun _ h => by cases h) dX6_slow_5
def F_X6_comesTo (kd : Int32) (h : Int32) (t : Int32) : Int32 := (if kd = nI 1 then F_X6_fast h else (if kd = nI 2 then F_X6_slow h t else (if kd = nI 3 then (if (t - t / (nI 4) * (nI 4)) = 0 then nI 0 else h) else (if kd = nI 4 then (if h < (nI 7) then F_X6_fast h else (F_X6_fast h) - (nI 2)) else (if kd = nI 5 then (if (t / (nI 20)) ≤ (nI 3) then (F_X6_slow h t) + (t / (nI 20)) else (F_X6_slow h t) + (nI 3)) else h)))))
set_option maxHeartbeats 4000000 in
set_option maxRecDepth 100000 in
theorem c_X6_comesTo (l : Launch) (kd : Int32) (h : Int32) (t : Int32) : Met l yX6_comesTo wsX6_comesTo { frames := 1, cells := 0, slots := 0, locals := 21 } (va_Pc [.int kd, .int h, .int t] (fun _ => True)) (vp_Si (fun r => F_X6_comesTo kd h t = r)) 0 0 (fun _ => False) := by
  refine Met.ofW (cc := cX6_comesTo) (maxL := 3) (ret := (some .int)) (by decide) rfl ?_
  intro p e s m args below meth c s₁ B hml hv
  obtain ⟨rfl, -⟩ := hv
  have hx := B.exec
  have hb := B.bytes
  have hr := B.returns
  have hts := atoms_spec (ws := wsX6_comesTo) B.pre
  have hown : s.vm.findClass RX6 = some m.cls := findClass_of_methodNamed B.named
  have hlocks := B.notSynchronized
  have hl := lv_entry ([.int kd, .int h, .int t]) (n := 3) (Nat.le_of_ble_eq_true rfl)
  rw [lg_entry_eq]
  generalize (lg_sl ([.int kd, .int h, .int t]) ++ List.replicate (3 - (lg_sl ([.int kd, .int h, .int t])).length) Slot.unset).toArray = ls at hl ⊢
  have hl : lv_has ls 3 [(0, .int kd), (1, .int h), (2, .int t)] := hl
  obtain ⟨OUT, hO⟩ : ∃ z, z = F_X6_comesTo kd h t := ⟨_, rfl⟩
  have hF := hO
  unfold F_X6_comesTo at hF
  refine lv_iload_n hx hb dX6_comesTo_0 rfl (lv_at hl 0 rfl) ?_
  by_cases c_1_1 : kd = nI 1
  · rw [if_pos c_1_1] at hF
    refine lv_tableIn (off := 35) (tgt := 36) hx hb dX6_comesTo_1 (by rw [c_1_1]; decide) (by rw [c_1_1]; decide) (by rw [c_1_1]; rfl) (by decide) ?_
    refine lv_iload_n hx hb dX6_comesTo_36 rfl (lv_at hl 1 rfl) ?_
    refine qc_Si (As := [.int h]) (rest := []) ⟨hx, hb, hml, hown, hts⟩ (c_X6_fast l h) (va_cwS 1 hts gX6_comesTo_X6_fast rfl rfl rfl (by decide +kernel) ⟨Nat.le_of_ble_eq_true rfl, Nat.le_of_ble_eq_true rfl⟩) rfl hl.1 rfl (Nat.le_of_ble_eq_true rfl) dX6_comesTo_37 ⟨Nat.zero_le _, Nat.zero_le _⟩ (fun r_37 hw_37 => ?_)
    subst hw_37
    exact W.iret (v := F_X6_fast h) hx hb hr (fun t ht hW => ⟨_, rfl, hO.symm.trans hF, ht⟩) (fun _ h => by cases h) dX6_comesTo_40
  · rw [if_neg c_1_1] at hF
    by_cases c_1_2 : kd = nI 2
    · rw [if_pos c_1_2] at hF
      refine lv_tableIn (off := 40) (tgt := 41) hx hb dX6_comesTo_1 (by rw [c_1_2]; decide) (by rw [c_1_2]; decide) (by rw [c_1_2]; rfl) (by decide) ?_
      refine lv_iload_n hx hb dX6_comesTo_41 rfl (lv_at hl 1 rfl) ?_
      refine lv_iload_n hx hb dX6_comesTo_42 rfl (lv_at hl 2 rfl) ?_
      refine qc_Si (As := [.int h, .int t]) (rest := []) ⟨hx, hb, hml, hown, hts⟩ (c_X6_slow l h t) (va_cwS 2 hts gX6_comesTo_X6_slow rfl rfl rfl (by decide +kernel) ⟨Nat.le_of_ble_eq_true rfl, Nat.le_of_ble_eq_true rfl⟩) rfl hl.1 rfl (Nat.le_of_ble_eq_true rfl) dX6_comesTo_43 ⟨Nat.zero_le _, Nat.zero_le _⟩ (fun r_43 hw_43 => ?_)
      subst hw_43
      exact W.iret (v := F_X6_slow h t) hx hb hr (fun t ht hW => ⟨_, rfl, hO.symm.trans hF, ht⟩) (fun _ h => by cases h) dX6_comesTo_46
    · rw [if_neg c_1_2] at hF
      by_cases c_1_3 : kd = nI 3
      · rw [if_pos c_1_3] at hF
        refine lv_tableIn (off := 46) (tgt := 47) hx hb dX6_comesTo_1 (by rw [c_1_3]; decide) (by rw [c_1_3]; decide) (by rw [c_1_3]; rfl) (by decide) ?_
        refine lv_iload_n hx hb dX6_comesTo_47 rfl (lv_at hl 2 rfl) ?_
        refine lv_iconst (v := nI 4) hx hb dX6_comesTo_48 (by decide) ?_
        refine lv_irem hx hb dX6_comesTo_49 (by decide) ?_
        refine lv_if_ne (tgt := 57) hx hb dX6_comesTo_50 (by decide) (fun c_50 => ?_) (fun c_50 => ?_)
        · rw [if_neg c_50] at hF
          refine lv_iload_n hx hb dX6_comesTo_57 rfl (lv_at hl 1 rfl) ?_
          exact W.iret (v := h) hx hb hr (fun t ht hW => ⟨_, rfl, hO.symm.trans hF, ht⟩) (fun _ h => by cases h) dX6_comesTo_58
        · rw [if_pos c_50] at hF
          refine lv_iconst (v := nI 0) hx hb dX6_comesTo_53 (by decide) ?_
          refine lv_goto (tgt := 58) hx hb dX6_comesTo_54 (by decide) ?_
          exact W.iret (v := nI 0) hx hb hr (fun t ht hW => ⟨_, rfl, hO.symm.trans hF, ht⟩) (fun _ h => by cases h) dX6_comesTo_58
      · rw [if_neg c_1_3] at hF
        by_cases c_1_4 : kd = nI 4
        · rw [if_pos c_1_4] at hF
          refine lv_tableIn (off := 58) (tgt := 59) hx hb dX6_comesTo_1 (by rw [c_1_4]; decide) (by rw [c_1_4]; decide) (by rw [c_1_4]; rfl) (by decide) ?_
          refine lv_iload_n hx hb dX6_comesTo_59 rfl (lv_at hl 1 rfl) ?_
          refine lv_bipush (v := nI 7) hx hb dX6_comesTo_60 (by decide) ?_
          refine lv_icmp_lt (tgt := 74) hx hb dX6_comesTo_62 (by decide) (fun c_62 => ?_) (fun c_62 => ?_)
          · rw [if_pos c_62] at hF
            refine lv_iload_n hx hb dX6_comesTo_74 rfl (lv_at hl 1 rfl) ?_
            refine qc_Si (As := [.int h]) (rest := []) ⟨hx, hb, hml, hown, hts⟩ (c_X6_fast l h) (va_cwS 1 hts gX6_comesTo_X6_fast rfl rfl rfl (by decide +kernel) ⟨Nat.le_of_ble_eq_true rfl, Nat.le_of_ble_eq_true rfl⟩) rfl hl.1 rfl (Nat.le_of_ble_eq_true rfl) dX6_comesTo_75 ⟨Nat.zero_le _, Nat.zero_le _⟩ (fun r_75 hw_75 => ?_)
            subst hw_75
            exact W.iret (v := F_X6_fast h) hx hb hr (fun t ht hW => ⟨_, rfl, hO.symm.trans hF, ht⟩) (fun _ h => by cases h) dX6_comesTo_78
          · rw [if_neg c_62] at hF
            refine lv_iload_n hx hb dX6_comesTo_65 rfl (lv_at hl 1 rfl) ?_
            refine qc_Si (As := [.int h]) (rest := []) ⟨hx, hb, hml, hown, hts⟩ (c_X6_fast l h) (va_cwS 1 hts gX6_comesTo_X6_fast rfl rfl rfl (by decide +kernel) ⟨Nat.le_of_ble_eq_true rfl, Nat.le_of_ble_eq_true rfl⟩) rfl hl.1 rfl (Nat.le_of_ble_eq_true rfl) dX6_comesTo_66 ⟨Nat.zero_le _, Nat.zero_le _⟩ (fun r_66 hw_66 => ?_)
            subst hw_66
            refine lv_iconst (v := nI 2) hx hb dX6_comesTo_69 (by decide) ?_
            refine lv_isub hx hb dX6_comesTo_70 ?_
            refine lv_goto (tgt := 78) hx hb dX6_comesTo_71 (by decide) ?_
            exact W.iret (v := (F_X6_fast h) - (nI 2)) hx hb hr (fun t ht hW => ⟨_, rfl, hO.symm.trans hF, ht⟩) (fun _ h => by cases h) dX6_comesTo_78
        · rw [if_neg c_1_4] at hF
          by_cases c_1_5 : kd = nI 5
          · rw [if_pos c_1_5] at hF
            refine lv_tableIn (off := 78) (tgt := 79) hx hb dX6_comesTo_1 (by rw [c_1_5]; decide) (by rw [c_1_5]; decide) (by rw [c_1_5]; rfl) (by decide) ?_
            refine lv_iload_n hx hb dX6_comesTo_79 rfl (lv_at hl 1 rfl) ?_
            refine lv_iload_n hx hb dX6_comesTo_80 rfl (lv_at hl 2 rfl) ?_
            refine qc_Si (As := [.int h, .int t]) (rest := []) ⟨hx, hb, hml, hown, hts⟩ (c_X6_slow l h t) (va_cwS 2 hts gX6_comesTo_X6_slow rfl rfl rfl (by decide +kernel) ⟨Nat.le_of_ble_eq_true rfl, Nat.le_of_ble_eq_true rfl⟩) rfl hl.1 rfl (Nat.le_of_ble_eq_true rfl) dX6_comesTo_81 ⟨Nat.zero_le _, Nat.zero_le _⟩ (fun r_81 hw_81 => ?_)
            subst hw_81
            refine lv_iload_n hx hb dX6_comesTo_84 rfl (lv_at hl 2 rfl) ?_
            refine lv_bipush (v := nI 20) hx hb dX6_comesTo_85 (by decide) ?_
            refine lv_idiv hx hb dX6_comesTo_87 (by decide) ?_
            refine lv_iconst (v := nI 3) hx hb dX6_comesTo_88 (by decide) ?_
            refine lv_icmp_le (tgt := 96) hx hb dX6_comesTo_89 (by decide) (fun c_89 => ?_) (fun c_89 => ?_)
            · rw [if_pos c_89] at hF
              refine lv_iload_n hx hb dX6_comesTo_96 rfl (lv_at hl 2 rfl) ?_
              refine lv_bipush (v := nI 20) hx hb dX6_comesTo_97 (by decide) ?_
              refine lv_idiv hx hb dX6_comesTo_99 (by decide) ?_
              refine lv_iadd hx hb dX6_comesTo_100 ?_
              exact W.iret (v := (F_X6_slow h t) + (t / (nI 20))) hx hb hr (fun t ht hW => ⟨_, rfl, hO.symm.trans hF, ht⟩) (fun _ h => by cases h) dX6_comesTo_101
            · rw [if_neg c_89] at hF
              refine lv_iconst (v := nI 3) hx hb dX6_comesTo_92 (by decide) ?_
              refine lv_goto (tgt := 100) hx hb dX6_comesTo_93 (by decide) ?_
              refine lv_iadd hx hb dX6_comesTo_100 ?_
              exact W.iret (v := (F_X6_slow h t) + (nI 3)) hx hb hr (fun t ht hW => ⟨_, rfl, hO.symm.trans hF, ht⟩) (fun _ h => by cases h) dX6_comesTo_101
          · rw [if_neg c_1_5] at hF
            have e_1_1 := qn_ne c_1_1 (by decide)
            have e_1_2 := qn_ne c_1_2 (by decide)
            have e_1_3 := qn_ne c_1_3 (by decide)
            have e_1_4 := qn_ne c_1_4 (by decide)
            have e_1_5 := qn_ne c_1_5 (by decide)
            refine lv_tableOut (tgt := 102) hx hb dX6_comesTo_1 (by omega) (by decide) ?_
            refine lv_iload_n hx hb dX6_comesTo_102 rfl (lv_at hl 1 rfl) ?_
            exact W.iret (v := h) hx hb hr (fun t ht hW => ⟨_, rfl, hO.symm.trans hF, ht⟩) (fun _ h => by cases h) dX6_comesTo_103
def F_X6_plain (lg : Int32) (g : Int32) : Int32 := if ((g + lg) / (nI 3)) ≤ (nI 4) then (g + lg) / (nI 3) else nI 4
set_option maxHeartbeats 4000000 in
set_option maxRecDepth 100000 in
theorem c_X6_plain (l : Launch) (lg : Int32) (g : Int32) : Met l yX6_plain wsX6_plain { frames := 0, cells := 0, slots := 0, locals := 0 } (va_Pc [.int lg, .int g] (fun _ => True)) (vp_Si (fun r => F_X6_plain lg g = r)) 0 0 (fun _ => False) := by
  refine Met.ofW (cc := cX6_plain) (maxL := 2) (ret := (some .int)) (by decide) rfl ?_
  intro p e s m args below meth c s₁ B hml hv
  obtain ⟨rfl, -⟩ := hv
  have hx := B.exec
  have hb := B.bytes
  have hr := B.returns
  have hts := atoms_spec (ws := wsX6_plain) B.pre
  have hown : s.vm.findClass RX6 = some m.cls := findClass_of_methodNamed B.named
  have hlocks := B.notSynchronized
  have hl := lv_entry ([.int lg, .int g]) (n := 2) (Nat.le_of_ble_eq_true rfl)
  rw [lg_entry_eq]
  generalize (lg_sl ([.int lg, .int g]) ++ List.replicate (2 - (lg_sl ([.int lg, .int g])).length) Slot.unset).toArray = ls at hl ⊢
  have hl : lv_has ls 2 [(0, .int lg), (1, .int g)] := hl
  obtain ⟨OUT, hO⟩ : ∃ z, z = F_X6_plain lg g := ⟨_, rfl⟩
  have hF := hO
  unfold F_X6_plain at hF
  refine lv_iload_n hx hb dX6_plain_0 rfl (lv_at hl 1 rfl) ?_
  refine lv_iload_n hx hb dX6_plain_1 rfl (lv_at hl 0 rfl) ?_
  refine lv_iadd hx hb dX6_plain_2 ?_
  refine lv_iconst (v := nI 3) hx hb dX6_plain_3 (by decide) ?_
  refine lv_idiv hx hb dX6_plain_4 (by decide) ?_
  refine lv_iconst (v := nI 4) hx hb dX6_plain_5 (by decide) ?_
  refine lv_icmp_le (tgt := 13) hx hb dX6_plain_6 (by decide) (fun c_6 => ?_) (fun c_6 => ?_)
  · rw [if_pos c_6] at hF
    refine lv_iload_n hx hb dX6_plain_13 rfl (lv_at hl 1 rfl) ?_
    refine lv_iload_n hx hb dX6_plain_14 rfl (lv_at hl 0 rfl) ?_
    refine lv_iadd hx hb dX6_plain_15 ?_
    refine lv_iconst (v := nI 3) hx hb dX6_plain_16 (by decide) ?_
    refine lv_idiv hx hb dX6_plain_17 (by decide) ?_
    exact W.iret (v := (g + lg) / (nI 3)) hx hb hr (fun t ht hW => ⟨_, rfl, hO.symm.trans hF, ht⟩) (fun _ h => by cases h) dX6_plain_18
  · rw [if_neg c_6] at hF
    refine lv_iconst (v := nI 4) hx hb dX6_plain_9 (by decide) ?_
    refine lv_goto (tgt := 18) hx hb dX6_plain_10 (by decide) ?_
    exact W.iret (v := nI 4) hx hb hr (fun t ht hW => ⟨_, rfl, hO.symm.trans hF, ht⟩) (fun _ h => by cases h) dX6_plain_18
def F_X6_timid (lg : Int32) (g : Int32) : Int32 := if (F_X6_plain lg g) ≤ (nI 1) then F_X6_plain lg g else nI 1
set_option maxHeartbeats 4000000 in
set_option maxRecDepth 100000 in
theorem c_X6_timid (l : Launch) (lg : Int32) (g : Int32) : Met l yX6_timid wsX6_timid { frames := 1, cells := 0, slots := 0, locals := 21 } (va_Pc [.int lg, .int g] (fun _ => True)) (vp_Si (fun r => F_X6_timid lg g = r)) 0 0 (fun _ => False) := by
  refine Met.ofW (cc := cX6_timid) (maxL := 2) (ret := (some .int)) (by decide) rfl ?_
  intro p e s m args below meth c s₁ B hml hv
  obtain ⟨rfl, -⟩ := hv
  have hx := B.exec
  have hb := B.bytes
  have hr := B.returns
  have hts := atoms_spec (ws := wsX6_timid) B.pre
  have hown : s.vm.findClass RX6 = some m.cls := findClass_of_methodNamed B.named
  have hlocks := B.notSynchronized
  have hl := lv_entry ([.int lg, .int g]) (n := 2) (Nat.le_of_ble_eq_true rfl)
  rw [lg_entry_eq]
  generalize (lg_sl ([.int lg, .int g]) ++ List.replicate (2 - (lg_sl ([.int lg, .int g])).length) Slot.unset).toArray = ls at hl ⊢
  have hl : lv_has ls 2 [(0, .int lg), (1, .int g)] := hl
  obtain ⟨OUT, hO⟩ : ∃ z, z = F_X6_timid lg g := ⟨_, rfl⟩
  have hF := hO
  unfold F_X6_timid at hF
  refine lv_iload_n hx hb dX6_timid_0 rfl (lv_at hl 0 rfl) ?_
  refine lv_iload_n hx hb dX6_timid_1 rfl (lv_at hl 1 rfl) ?_
  refine qc_Si (As := [.int lg, .int g]) (rest := []) ⟨hx, hb, hml, hown, hts⟩ (c_X6_plain l lg g) (va_cwS 2 hts gX6_timid_X6_plain rfl rfl rfl (by decide +kernel) ⟨Nat.le_of_ble_eq_true rfl, Nat.le_of_ble_eq_true rfl⟩) rfl hl.1 rfl (Nat.le_of_ble_eq_true rfl) dX6_timid_2 ⟨Nat.zero_le _, Nat.zero_le _⟩ (fun r_2 hw_2 => ?_)
  subst hw_2
  refine lv_iconst (v := nI 1) hx hb dX6_timid_5 (by decide) ?_
  refine lv_icmp_le (tgt := 13) hx hb dX6_timid_6 (by decide) (fun c_6 => ?_) (fun c_6 => ?_)
  · rw [if_pos c_6] at hF
    refine lv_iload_n hx hb dX6_timid_13 rfl (lv_at hl 0 rfl) ?_
    refine lv_iload_n hx hb dX6_timid_14 rfl (lv_at hl 1 rfl) ?_
    refine qc_Si (As := [.int lg, .int g]) (rest := []) ⟨hx, hb, hml, hown, hts⟩ (c_X6_plain l lg g) (va_cwS 2 hts gX6_timid_X6_plain rfl rfl rfl (by decide +kernel) ⟨Nat.le_of_ble_eq_true rfl, Nat.le_of_ble_eq_true rfl⟩) rfl hl.1 rfl (Nat.le_of_ble_eq_true rfl) dX6_timid_15 ⟨Nat.zero_le _, Nat.zero_le _⟩ (fun r_15 hw_15 => ?_)
    subst hw_15
    exact W.iret (v := F_X6_plain lg g) hx hb hr (fun t ht hW => ⟨_, rfl, hO.symm.trans hF, ht⟩) (fun _ h => by cases h) dX6_timid_18
  · rw [if_neg c_6] at hF
    refine lv_iconst (v := nI 1) hx hb dX6_timid_9 (by decide) ?_
    refine lv_goto (tgt := 18) hx hb dX6_timid_10 (by decide) ?_
    exact W.iret (v := nI 1) hx hb hr (fun t ht hW => ⟨_, rfl, hO.symm.trans hF, ht⟩) (fun _ h => by cases h) dX6_timid_18
def F_X6_runsBy (kd : Int32) (lg : Int32) (g : Int32) : Int32 := (if kd = nI 1 then (if g < (nI 6) then (F_X6_plain lg g) + (nI 0) else (F_X6_plain lg g) + (nI 1)) else (if kd = nI 2 then F_X6_timid lg g else (if kd = nI 3 then (F_X6_plain lg g) + (nI 1) else (if kd = nI 4 then (F_X6_plain lg g) + (nI 2) else (if kd = nI 5 then (if (g - g / (nI 2) * (nI 2)) = (nI 1) then nI 0 else F_X6_timid lg g) else F_X6_plain lg g)))))
set_option maxHeartbeats 4000000 in
set_option maxRecDepth 100000 in
theorem c_X6_runsBy (l : Launch) (kd : Int32) (lg : Int32) (g : Int32) : Met l yX6_runsBy wsX6_runsBy { frames := 2, cells := 0, slots := 0, locals := 42 } (va_Pc [.int kd, .int lg, .int g] (fun _ => True)) (vp_Si (fun r => F_X6_runsBy kd lg g = r)) 0 0 (fun _ => False) := by
  refine Met.ofW (cc := cX6_runsBy) (maxL := 3) (ret := (some .int)) (by decide) rfl ?_
  intro p e s m args below meth c s₁ B hml hv
  obtain ⟨rfl, -⟩ := hv
  have hx := B.exec
  have hb := B.bytes
  have hr := B.returns
  have hts := atoms_spec (ws := wsX6_runsBy) B.pre
  have hown : s.vm.findClass RX6 = some m.cls := findClass_of_methodNamed B.named
  have hlocks := B.notSynchronized
  have hl := lv_entry ([.int kd, .int lg, .int g]) (n := 3) (Nat.le_of_ble_eq_true rfl)
  rw [lg_entry_eq]
  generalize (lg_sl ([.int kd, .int lg, .int g]) ++ List.replicate (3 - (lg_sl ([.int kd, .int lg, .int g])).length) Slot.unset).toArray = ls at hl ⊢
  have hl : lv_has ls 3 [(0, .int kd), (1, .int lg), (2, .int g)] := hl
  obtain ⟨OUT, hO⟩ : ∃ z, z = F_X6_runsBy kd lg g := ⟨_, rfl⟩
  have hF := hO
  unfold F_X6_runsBy at hF
  refine lv_iload_n hx hb dX6_runsBy_0 rfl (lv_at hl 0 rfl) ?_
  by_cases c_1_1 : kd = nI 1
  · rw [if_pos c_1_1] at hF
    refine lv_tableIn (off := 35) (tgt := 36) hx hb dX6_runsBy_1 (by rw [c_1_1]; decide) (by rw [c_1_1]; decide) (by rw [c_1_1]; rfl) (by decide) ?_
    refine lv_iload_n hx hb dX6_runsBy_36 rfl (lv_at hl 1 rfl) ?_
    refine lv_iload_n hx hb dX6_runsBy_37 rfl (lv_at hl 2 rfl) ?_
    refine qc_Si (As := [.int lg, .int g]) (rest := []) ⟨hx, hb, hml, hown, hts⟩ (c_X6_plain l lg g) (va_cwS 2 hts gX6_runsBy_X6_plain rfl rfl rfl (by decide +kernel) ⟨Nat.le_of_ble_eq_true rfl, Nat.le_of_ble_eq_true rfl⟩) rfl hl.1 rfl (Nat.le_of_ble_eq_true rfl) dX6_runsBy_38 ⟨Nat.zero_le _, Nat.zero_le _⟩ (fun r_38 hw_38 => ?_)
    subst hw_38
    refine lv_iload_n hx hb dX6_runsBy_41 rfl (lv_at hl 2 rfl) ?_
    refine lv_bipush (v := nI 6) hx hb dX6_runsBy_42 (by decide) ?_
    refine lv_icmp_lt (tgt := 51) hx hb dX6_runsBy_44 (by decide) (fun c_44 => ?_) (fun c_44 => ?_)
    · rw [if_pos c_44] at hF
      refine lv_iconst (v := nI 0) hx hb dX6_runsBy_51 (by decide) ?_
      refine lv_iadd hx hb dX6_runsBy_52 ?_
      exact W.iret (v := (F_X6_plain lg g) + (nI 0)) hx hb hr (fun t ht hW => ⟨_, rfl, hO.symm.trans hF, ht⟩) (fun _ h => by cases h) dX6_runsBy_53
    · rw [if_neg c_44] at hF
      refine lv_iconst (v := nI 1) hx hb dX6_runsBy_47 (by decide) ?_
      refine lv_goto (tgt := 52) hx hb dX6_runsBy_48 (by decide) ?_
      refine lv_iadd hx hb dX6_runsBy_52 ?_
      exact W.iret (v := (F_X6_plain lg g) + (nI 1)) hx hb hr (fun t ht hW => ⟨_, rfl, hO.symm.trans hF, ht⟩) (fun _ h => by cases h) dX6_runsBy_53
  · rw [if_neg c_1_1] at hF
    by_cases c_1_2 : kd = nI 2
    · rw [if_pos c_1_2] at hF
      refine lv_tableIn (off := 53) (tgt := 54) hx hb dX6_runsBy_1 (by rw [c_1_2]; decide) (by rw [c_1_2]; decide) (by rw [c_1_2]; rfl) (by decide) ?_
      refine lv_iload_n hx hb dX6_runsBy_54 rfl (lv_at hl 1 rfl) ?_
      refine lv_iload_n hx hb dX6_runsBy_55 rfl (lv_at hl 2 rfl) ?_
      refine qc_Si (As := [.int lg, .int g]) (rest := []) ⟨hx, hb, hml, hown, hts⟩ (c_X6_timid l lg g) (va_cwS 2 hts gX6_runsBy_X6_timid rfl rfl rfl (by decide +kernel) ⟨Nat.le_of_ble_eq_true rfl, Nat.le_of_ble_eq_true rfl⟩) rfl hl.1 rfl (Nat.le_of_ble_eq_true rfl) dX6_runsBy_56 ⟨Nat.zero_le _, Nat.zero_le _⟩ (fun r_56 hw_56 => ?_)
      subst hw_56
      exact W.iret (v := F_X6_timid lg g) hx hb hr (fun t ht hW => ⟨_, rfl, hO.symm.trans hF, ht⟩) (fun _ h => by cases h) dX6_runsBy_59
    · rw [if_neg c_1_2] at hF
      by_cases c_1_3 : kd = nI 3
      · rw [if_pos c_1_3] at hF
        refine lv_tableIn (off := 59) (tgt := 60) hx hb dX6_runsBy_1 (by rw [c_1_3]; decide) (by rw [c_1_3]; decide) (by rw [c_1_3]; rfl) (by decide) ?_
        refine lv_iload_n hx hb dX6_runsBy_60 rfl (lv_at hl 1 rfl) ?_
        refine lv_iload_n hx hb dX6_runsBy_61 rfl (lv_at hl 2 rfl) ?_
        refine qc_Si (As := [.int lg, .int g]) (rest := []) ⟨hx, hb, hml, hown, hts⟩ (c_X6_plain l lg g) (va_cwS 2 hts gX6_runsBy_X6_plain rfl rfl rfl (by decide +kernel) ⟨Nat.le_of_ble_eq_true rfl, Nat.le_of_ble_eq_true rfl⟩) rfl hl.1 rfl (Nat.le_of_ble_eq_true rfl) dX6_runsBy_62 ⟨Nat.zero_le _, Nat.zero_le _⟩ (fun r_62 hw_62 => ?_)
        subst hw_62
        refine lv_iconst (v := nI 1) hx hb dX6_runsBy_65 (by decide) ?_
        refine lv_iadd hx hb dX6_runsBy_66 ?_
        exact W.iret (v := (F_X6_plain lg g) + (nI 1)) hx hb hr (fun t ht hW => ⟨_, rfl, hO.symm.trans hF, ht⟩) (fun _ h => by cases h) dX6_runsBy_67
      · rw [if_neg c_1_3] at hF
        by_cases c_1_4 : kd = nI 4
        · rw [if_pos c_1_4] at hF
          refine lv_tableIn (off := 67) (tgt := 68) hx hb dX6_runsBy_1 (by rw [c_1_4]; decide) (by rw [c_1_4]; decide) (by rw [c_1_4]; rfl) (by decide) ?_
          refine lv_iload_n hx hb dX6_runsBy_68 rfl (lv_at hl 1 rfl) ?_
          refine lv_iload_n hx hb dX6_runsBy_69 rfl (lv_at hl 2 rfl) ?_
          refine qc_Si (As := [.int lg, .int g]) (rest := []) ⟨hx, hb, hml, hown, hts⟩ (c_X6_plain l lg g) (va_cwS 2 hts gX6_runsBy_X6_plain rfl rfl rfl (by decide +kernel) ⟨Nat.le_of_ble_eq_true rfl, Nat.le_of_ble_eq_true rfl⟩) rfl hl.1 rfl (Nat.le_of_ble_eq_true rfl) dX6_runsBy_70 ⟨Nat.zero_le _, Nat.zero_le _⟩ (fun r_70 hw_70 => ?_)
          subst hw_70
          refine lv_iconst (v := nI 2) hx hb dX6_runsBy_73 (by decide) ?_
          refine lv_iadd hx hb dX6_runsBy_74 ?_
          exact W.iret (v := (F_X6_plain lg g) + (nI 2)) hx hb hr (fun t ht hW => ⟨_, rfl, hO.symm.trans hF, ht⟩) (fun _ h => by cases h) dX6_runsBy_75
        · rw [if_neg c_1_4] at hF
          by_cases c_1_5 : kd = nI 5
          · rw [if_pos c_1_5] at hF
            refine lv_tableIn (off := 75) (tgt := 76) hx hb dX6_runsBy_1 (by rw [c_1_5]; decide) (by rw [c_1_5]; decide) (by rw [c_1_5]; rfl) (by decide) ?_
            refine lv_iload_n hx hb dX6_runsBy_76 rfl (lv_at hl 2 rfl) ?_
            refine lv_iconst (v := nI 2) hx hb dX6_runsBy_77 (by decide) ?_
            refine lv_irem hx hb dX6_runsBy_78 (by decide) ?_
            refine lv_iconst (v := nI 1) hx hb dX6_runsBy_79 (by decide) ?_
            refine lv_icmp_ne (tgt := 87) hx hb dX6_runsBy_80 (by decide) (fun c_80 => ?_) (fun c_80 => ?_)
            · rw [if_neg c_80] at hF
              refine lv_iload_n hx hb dX6_runsBy_87 rfl (lv_at hl 1 rfl) ?_
              refine lv_iload_n hx hb dX6_runsBy_88 rfl (lv_at hl 2 rfl) ?_
              refine qc_Si (As := [.int lg, .int g]) (rest := []) ⟨hx, hb, hml, hown, hts⟩ (c_X6_timid l lg g) (va_cwS 2 hts gX6_runsBy_X6_timid rfl rfl rfl (by decide +kernel) ⟨Nat.le_of_ble_eq_true rfl, Nat.le_of_ble_eq_true rfl⟩) rfl hl.1 rfl (Nat.le_of_ble_eq_true rfl) dX6_runsBy_89 ⟨Nat.zero_le _, Nat.zero_le _⟩ (fun r_89 hw_89 => ?_)
              subst hw_89
              exact W.iret (v := F_X6_timid lg g) hx hb hr (fun t ht hW => ⟨_, rfl, hO.symm.trans hF, ht⟩) (fun _ h => by cases h) dX6_runsBy_92
            · rw [if_pos c_80] at hF
              refine lv_iconst (v := nI 0) hx hb dX6_runsBy_83 (by decide) ?_
              refine lv_goto (tgt := 92) hx hb dX6_runsBy_84 (by decide) ?_
              exact W.iret (v := nI 0) hx hb hr (fun t ht hW => ⟨_, rfl, hO.symm.trans hF, ht⟩) (fun _ h => by cases h) dX6_runsBy_92
          · rw [if_neg c_1_5] at hF
            have e_1_1 := qn_ne c_1_1 (by decide)
            have e_1_2 := qn_ne c_1_2 (by decide)
            have e_1_3 := qn_ne c_1_3 (by decide)
            have e_1_4 := qn_ne c_1_4 (by decide)
            have e_1_5 := qn_ne c_1_5 (by decide)
            refine lv_tableOut (tgt := 93) hx hb dX6_runsBy_1 (by omega) (by decide) ?_
            refine lv_iload_n hx hb dX6_runsBy_93 rfl (lv_at hl 1 rfl) ?_
            refine lv_iload_n hx hb dX6_runsBy_94 rfl (lv_at hl 2 rfl) ?_
            refine qc_Si (As := [.int lg, .int g]) (rest := []) ⟨hx, hb, hml, hown, hts⟩ (c_X6_plain l lg g) (va_cwS 2 hts gX6_runsBy_X6_plain rfl rfl rfl (by decide +kernel) ⟨Nat.le_of_ble_eq_true rfl, Nat.le_of_ble_eq_true rfl⟩) rfl hl.1 rfl (Nat.le_of_ble_eq_true rfl) dX6_runsBy_95 ⟨Nat.zero_le _, Nat.zero_le _⟩ (fun r_95 hw_95 => ?_)
            subst hw_95
            exact W.iret (v := F_X6_plain lg g) hx hb hr (fun t ht hW => ⟨_, rfl, hO.symm.trans hF, ht⟩) (fun _ h => by cases h) dX6_runsBy_98
def F_X6_bad (su : Nat → Int32) (a : Int32) : Int32 × (Nat → Int32) := (a, (upd su 0 ((su 0) + (nI 1))))
set_option maxHeartbeats 4000000 in
set_option maxRecDepth 100000 in
theorem c_X6_bad (l : Launch) (dC : Nat → ClassId) (dI : Nat → Nat → Nat) (q : Nat → Nat) (cI cZ : ClassId) (sz : Nat) (w : Nat → Int32) (kp : Nat → Int32) (tx : Nat → Int32) (td : Int32) (ab : Int64) (be : Int64) (su : Nat → Int32) (po : Int32) (st : Int32) (nu : Int32) (li : Nat → Int32) (fi : Nat → Int32) (ga : Nat → Int32) (hh : Int64) (a : Int32) : Met l yX6_bad wsX6_bad { frames := 0, cells := 0, slots := 0, locals := 0 } (mPc (dC, dI) vwCl (mT cI cZ) (mW q cI cZ w kp tx td ab be su po st nu li fi ga hh) sz [.ref (q 0), .int a]) (va_Qi (fun (r : Int32) (u : (Nat → Int32)) => F_X6_bad su a = (r, u)) (mB (dC, dI) vwCl (mT cI cZ) (va_A (mW q cI cZ w kp tx td ab be su po st nu li fi ga hh) sz) (fun u => mW q cI cZ w kp tx td ab be u po st nu li fi ga hh)) (va_A (mW q cI cZ w kp tx td ab be su po st nu li fi ga hh) sz)) 0 0 (va_A (mW q cI cZ w kp tx td ab be su po st nu li fi ga hh) sz) := by
  refine Met.ofW (cc := cX6_bad) (maxL := 2) (ret := (some .int)) (by decide) rfl ?_
  intro p e s m args below meth c s₁ B hml hv
  obtain ⟨rfl, hsz, hP, hK, hD0⟩ := hv
  have hx := B.exec
  have hb := B.bytes
  have hr := B.returns
  have hts := atoms_spec (ws := wsX6_bad) B.pre
  have hown : s.vm.findClass RX6 = some m.cls := findClass_of_methodNamed B.named
  have hlocks := B.notSynchronized
  subst hsz
  have hD := hD0.self (sz := s.heap.size)
  generalize hAe : va_A (mW q cI cZ w kp tx td ab be su po st nu li fi ga hh) s.heap.size = A at hD ⊢
  have hA : ∀ q : Nat, s.heap.size ≤ q → A q := fun q h => by rw [← hAe]; exact Or.inr h
  have hS : va_S A s.heap s.heap [] := va_S.rf
  have hin : ∀ w ∈ wsX60, w ∈ wsX6_bad := by decide +kernel
  have lk27 := hts (.fieldLink RX6 27 "PostRoundersModel" "statuses" "[I") (by decide +kernel)
  have hl := lv_entry ([.ref (q 0), .int a]) (n := 2) (Nat.le_of_ble_eq_true rfl)
  rw [lg_entry_eq]
  generalize (lg_sl ([.ref (q 0), .int a]) ++ List.replicate (2 - (lg_sl ([.ref (q 0), .int a])).length) Slot.unset).toArray = ls at hl ⊢
  have hl : lv_has ls 2 [(0, .ref (q 0)), (1, .int a)] := hl
  obtain ⟨OUT, hO⟩ : ∃ z, z = F_X6_bad su a := ⟨_, rfl⟩
  have hF := hO
  unfold F_X6_bad at hF
  refine lv_aload_n hx hb dX6_bad_0 rfl (lv_at hl 0 rfl) ?_
  refine va_get (D := (dC, dI)) (ci := 6) (v := .ref (q 4)) (C := RX6) (T := TX6) (N := 14) hx hb hts hin hown hK hP 0 rfl rfl 6 (by decide) lk27 (fun _ h9 => h9) rfl dX6_bad_1 ?_
  refine lv_iconst (v := nI 0) hx hb dX6_bad_4 (by decide) ?_
  refine lv_dup2_11 hx hb dX6_bad_5 rfl rfl ?_
  refine qv_ald (v := su 0) hx hb hK hP 4 0 rfl rfl (by omega) (by decide) (rfl) dX6_bad_6 ?_
  refine lv_iconst (v := nI 1) hx hb dX6_bad_7 (by decide) ?_
  refine lv_iadd hx hb dX6_bad_8 ?_
  refine qv_ast (ws' := mW q cI cZ w kp tx td ab be (upd su 0 ((su 0) + (nI 1))) po st nu li fi ga hh) hx hb hK hP hD hS 4 0 rfl rfl (by omega) (by decide) dX6_bad_9 rfl (fun H locs hP hD hS => ?_)
  refine lv_iload_n hx hb dX6_bad_10 rfl (lv_at hl 1 rfl) ?_
  have hP9 : va_P (dC, dI) vwCl (mW q cI cZ w kp tx td ab be (upd su 0 ((su 0) + (nI 1))) po st nu li fi ga hh) H := hP
  exact W.iret (v := a) hx hb hr (fun t ht hW => ⟨⟨_, (upd su 0 ((su 0) + (nI 1))), rfl, hO.symm.trans hF, by rw [ht]; exact hP9, va_K.moved hW.alike hK, hD⟩, hS.F ht⟩) hS.2.2 dX6_bad_11
def F_X6_no (su : Nat → Int32) : Int32 × (Nat → Int32) := ((-3), (upd su 1 ((su 1) + (nI 1))))
set_option maxHeartbeats 4000000 in
set_option maxRecDepth 100000 in
theorem c_X6_no (l : Launch) (dC : Nat → ClassId) (dI : Nat → Nat → Nat) (q : Nat → Nat) (cI cZ : ClassId) (sz : Nat) (w : Nat → Int32) (kp : Nat → Int32) (tx : Nat → Int32) (td : Int32) (ab : Int64) (be : Int64) (su : Nat → Int32) (po : Int32) (st : Int32) (nu : Int32) (li : Nat → Int32) (fi : Nat → Int32) (ga : Nat → Int32) (hh : Int64) : Met l yX6_no wsX6_no { frames := 0, cells := 0, slots := 0, locals := 0 } (mPc (dC, dI) vwCl (mT cI cZ) (mW q cI cZ w kp tx td ab be su po st nu li fi ga hh) sz [.ref (q 0)]) (va_Qi (fun (r : Int32) (u : (Nat → Int32)) => F_X6_no su = (r, u)) (mB (dC, dI) vwCl (mT cI cZ) (va_A (mW q cI cZ w kp tx td ab be su po st nu li fi ga hh) sz) (fun u => mW q cI cZ w kp tx td ab be u po st nu li fi ga hh)) (va_A (mW q cI cZ w kp tx td ab be su po st nu li fi ga hh) sz)) 0 0 (va_A (mW q cI cZ w kp tx td ab be su po st nu li fi ga hh) sz) := by
  refine Met.ofW (cc := cX6_no) (maxL := 1) (ret := (some .int)) (by decide) rfl ?_
  intro p e s m args below meth c s₁ B hml hv
  obtain ⟨rfl, hsz, hP, hK, hD0⟩ := hv
  have hx := B.exec
  have hb := B.bytes
  have hr := B.returns
  have hts := atoms_spec (ws := wsX6_no) B.pre
  have hown : s.vm.findClass RX6 = some m.cls := findClass_of_methodNamed B.named
  have hlocks := B.notSynchronized
  subst hsz
  have hD := hD0.self (sz := s.heap.size)
  generalize hAe : va_A (mW q cI cZ w kp tx td ab be su po st nu li fi ga hh) s.heap.size = A at hD ⊢
  have hA : ∀ q : Nat, s.heap.size ≤ q → A q := fun q h => by rw [← hAe]; exact Or.inr h
  have hS : va_S A s.heap s.heap [] := va_S.rf
  have hin : ∀ w ∈ wsX60, w ∈ wsX6_no := by decide +kernel
  have lk27 := hts (.fieldLink RX6 27 "PostRoundersModel" "statuses" "[I") (by decide +kernel)
  have hl := lv_entry ([.ref (q 0)]) (n := 1) (Nat.le_of_ble_eq_true rfl)
  rw [lg_entry_eq]
  generalize (lg_sl ([.ref (q 0)]) ++ List.replicate (1 - (lg_sl ([.ref (q 0)])).length) Slot.unset).toArray = ls at hl ⊢
  have hl : lv_has ls 1 [(0, .ref (q 0))] := hl
  obtain ⟨OUT, hO⟩ : ∃ z, z = F_X6_no su := ⟨_, rfl⟩
  have hF := hO
  unfold F_X6_no at hF
  refine lv_aload_n hx hb dX6_no_0 rfl (lv_at hl 0 rfl) ?_
  refine va_get (D := (dC, dI)) (ci := 6) (v := .ref (q 4)) (C := RX6) (T := TX6) (N := 14) hx hb hts hin hown hK hP 0 rfl rfl 6 (by decide) lk27 (fun _ h9 => h9) rfl dX6_no_1 ?_
  refine lv_iconst (v := nI 1) hx hb dX6_no_4 (by decide) ?_
  refine lv_dup2_11 hx hb dX6_no_5 rfl rfl ?_
  refine qv_ald (v := su 1) hx hb hK hP 4 0 rfl rfl (by omega) (by decide) (rfl) dX6_no_6 ?_
  refine lv_iconst (v := nI 1) hx hb dX6_no_7 (by decide) ?_
  refine lv_iadd hx hb dX6_no_8 ?_
  refine qv_ast (ws' := mW q cI cZ w kp tx td ab be (upd su 1 ((su 1) + (nI 1))) po st nu li fi ga hh) hx hb hK hP hD hS 4 0 rfl rfl (by omega) (by decide) dX6_no_9 rfl (fun H locs hP hD hS => ?_)
  refine lv_bipush (v := (-3)) hx hb dX6_no_10 (by decide) ?_
  have hP9 : va_P (dC, dI) vwCl (mW q cI cZ w kp tx td ab be (upd su 1 ((su 1) + (nI 1))) po st nu li fi ga hh) H := hP
  exact W.iret (v := (-3)) hx hb hr (fun t ht hW => ⟨⟨_, (upd su 1 ((su 1) + (nI 1))), rfl, hO.symm.trans hF, by rw [ht]; exact hP9, va_K.moved hW.alike hK, hD⟩, hS.F ht⟩) hS.2.2 dX6_no_12
def F_X6_full (su : Nat → Int32) : Int32 × (Nat → Int32) := ((-4), (upd su 2 ((su 2) + (nI 1))))
set_option maxHeartbeats 4000000 in
set_option maxRecDepth 100000 in
theorem c_X6_full (l : Launch) (dC : Nat → ClassId) (dI : Nat → Nat → Nat) (q : Nat → Nat) (cI cZ : ClassId) (sz : Nat) (w : Nat → Int32) (kp : Nat → Int32) (tx : Nat → Int32) (td : Int32) (ab : Int64) (be : Int64) (su : Nat → Int32) (po : Int32) (st : Int32) (nu : Int32) (li : Nat → Int32) (fi : Nat → Int32) (ga : Nat → Int32) (hh : Int64) : Met l yX6_full wsX6_full { frames := 0, cells := 0, slots := 0, locals := 0 } (mPc (dC, dI) vwCl (mT cI cZ) (mW q cI cZ w kp tx td ab be su po st nu li fi ga hh) sz [.ref (q 0)]) (va_Qi (fun (r : Int32) (u : (Nat → Int32)) => F_X6_full su = (r, u)) (mB (dC, dI) vwCl (mT cI cZ) (va_A (mW q cI cZ w kp tx td ab be su po st nu li fi ga hh) sz) (fun u => mW q cI cZ w kp tx td ab be u po st nu li fi ga hh)) (va_A (mW q cI cZ w kp tx td ab be su po st nu li fi ga hh) sz)) 0 0 (va_A (mW q cI cZ w kp tx td ab be su po st nu li fi ga hh) sz) := by
  refine Met.ofW (cc := cX6_full) (maxL := 1) (ret := (some .int)) (by decide) rfl ?_
  intro p e s m args below meth c s₁ B hml hv
  obtain ⟨rfl, hsz, hP, hK, hD0⟩ := hv
  have hx := B.exec
  have hb := B.bytes
  have hr := B.returns
  have hts := atoms_spec (ws := wsX6_full) B.pre
  have hown : s.vm.findClass RX6 = some m.cls := findClass_of_methodNamed B.named
  have hlocks := B.notSynchronized
  subst hsz
  have hD := hD0.self (sz := s.heap.size)
  generalize hAe : va_A (mW q cI cZ w kp tx td ab be su po st nu li fi ga hh) s.heap.size = A at hD ⊢
  have hA : ∀ q : Nat, s.heap.size ≤ q → A q := fun q h => by rw [← hAe]; exact Or.inr h
  have hS : va_S A s.heap s.heap [] := va_S.rf
  have hin : ∀ w ∈ wsX60, w ∈ wsX6_full := by decide +kernel
  have lk27 := hts (.fieldLink RX6 27 "PostRoundersModel" "statuses" "[I") (by decide +kernel)
  have hl := lv_entry ([.ref (q 0)]) (n := 1) (Nat.le_of_ble_eq_true rfl)
  rw [lg_entry_eq]
  generalize (lg_sl ([.ref (q 0)]) ++ List.replicate (1 - (lg_sl ([.ref (q 0)])).length) Slot.unset).toArray = ls at hl ⊢
  have hl : lv_has ls 1 [(0, .ref (q 0))] := hl
  obtain ⟨OUT, hO⟩ : ∃ z, z = F_X6_full su := ⟨_, rfl⟩
  have hF := hO
  unfold F_X6_full at hF
  refine lv_aload_n hx hb dX6_full_0 rfl (lv_at hl 0 rfl) ?_
  refine va_get (D := (dC, dI)) (ci := 6) (v := .ref (q 4)) (C := RX6) (T := TX6) (N := 14) hx hb hts hin hown hK hP 0 rfl rfl 6 (by decide) lk27 (fun _ h9 => h9) rfl dX6_full_1 ?_
  refine lv_iconst (v := nI 2) hx hb dX6_full_4 (by decide) ?_
  refine lv_dup2_11 hx hb dX6_full_5 rfl rfl ?_
  refine qv_ald (v := su 2) hx hb hK hP 4 0 rfl rfl (by omega) (by decide) (rfl) dX6_full_6 ?_
  refine lv_iconst (v := nI 1) hx hb dX6_full_7 (by decide) ?_
  refine lv_iadd hx hb dX6_full_8 ?_
  refine qv_ast (ws' := mW q cI cZ w kp tx td ab be (upd su 2 ((su 2) + (nI 1))) po st nu li fi ga hh) hx hb hK hP hD hS 4 0 rfl rfl (by omega) (by decide) dX6_full_9 rfl (fun H locs hP hD hS => ?_)
  refine lv_bipush (v := (-4)) hx hb dX6_full_10 (by decide) ?_
  have hP9 : va_P (dC, dI) vwCl (mW q cI cZ w kp tx td ab be (upd su 2 ((su 2) + (nI 1))) po st nu li fi ga hh) H := hP
  exact W.iret (v := (-4)) hx hb hr (fun t ht hW => ⟨⟨_, (upd su 2 ((su 2) + (nI 1))), rfl, hO.symm.trans hF, by rw [ht]; exact hP9, va_K.moved hW.alike hK, hD⟩, hS.F ht⟩) hS.2.2 dX6_full_12
def F_X6_copy_L2 : Nat → (Nat) → (Nat) → (Nat) → (Nat → Int32) → (Nat) × (Nat → Int32)
  | 0, _, _, k, w1 => (k, w1)
  | n_2 + 1, fr, to, k, w1 => if 148 ≤ k then (k, w1) else F_X6_copy_L2 n_2 fr to (k + 1) (upd w1 (to + k) (w1 (fr + k)))
def F_X6_copy (w : Nat → Int32) (fr : Nat) (to : Nat) : (Nat → Int32) := let2 (F_X6_copy_L2 149 fr to 0 w) (fun k w1 => w1)
set_option maxHeartbeats 4000000 in
set_option maxRecDepth 100000 in
theorem c_X6_copy (l : Launch) (dC : Nat → ClassId) (dI : Nat → Nat → Nat) (q : Nat → Nat) (cI cZ : ClassId) (sz : Nat) (w : Nat → Int32) (kp : Nat → Int32) (tx : Nat → Int32) (td : Int32) (ab : Int64) (be : Int64) (su : Nat → Int32) (po : Int32) (st : Int32) (nu : Int32) (li : Nat → Int32) (fi : Nat → Int32) (ga : Nat → Int32) (hh : Int64) (fr : Nat) (to : Nat) (h1 : fr + 148 ≤ 624) (h2 : to + 148 ≤ 624) : Met l yX6_copy wsX6_copy { frames := 0, cells := 0, slots := 0, locals := 0 } (mPc (dC, dI) vwCl (mT cI cZ) (mW q cI cZ w kp tx td ab be su po st nu li fi ga hh) sz [.ref (q 0), .int (nI fr), .int (nI to)]) (va_Qv (fun (u : (Nat → Int32)) => F_X6_copy w fr to = u) (mB (dC, dI) vwCl (mT cI cZ) (va_A (mW q cI cZ w kp tx td ab be su po st nu li fi ga hh) sz) (fun u => mW q cI cZ u kp tx td ab be su po st nu li fi ga hh)) (va_A (mW q cI cZ w kp tx td ab be su po st nu li fi ga hh) sz)) 0 0 (va_A (mW q cI cZ w kp tx td ab be su po st nu li fi ga hh) sz) := by
  refine Met.ofW (cc := cX6_copy) (maxL := 4) (ret := none) (by decide) rfl ?_
  intro p e s m args below meth c s₁ B hml hv
  obtain ⟨rfl, hsz, hP, hK, hD0⟩ := hv
  have hx := B.exec
  have hb := B.bytes
  have hr := B.returns
  have hts := atoms_spec (ws := wsX6_copy) B.pre
  have hown : s.vm.findClass RX6 = some m.cls := findClass_of_methodNamed B.named
  have hlocks := B.notSynchronized
  subst hsz
  have hD := hD0.self (sz := s.heap.size)
  generalize hAe : va_A (mW q cI cZ w kp tx td ab be su po st nu li fi ga hh) s.heap.size = A at hD ⊢
  have hA : ∀ q : Nat, s.heap.size ≤ q → A q := fun q h => by rw [← hAe]; exact Or.inr h
  have hS : va_S A s.heap s.heap [] := va_S.rf
  have hin : ∀ w ∈ wsX60, w ∈ wsX6_copy := by decide +kernel
  have lk7 := hts (.fieldLink RX6 7 "PostRoundersModel" "w" "[I") (by decide +kernel)
  have hl := lv_entry ([.ref (q 0), .int (nI fr), .int (nI to)]) (n := 4) (Nat.le_of_ble_eq_true rfl)
  rw [lg_entry_eq]
  generalize (lg_sl ([.ref (q 0), .int (nI fr), .int (nI to)]) ++ List.replicate (4 - (lg_sl ([.ref (q 0), .int (nI fr), .int (nI to)])).length) Slot.unset).toArray = ls at hl ⊢
  have hl : lv_has ls 4 [(0, .ref (q 0)), (1, .int (nI fr)), (2, .int (nI to))] := hl
  obtain ⟨OUT, hO⟩ : ∃ z, z = F_X6_copy w fr to := ⟨_, rfl⟩
  have hF := hO
  unfold F_X6_copy at hF
  refine lv_iconst (v := nI 0) hx hb dX6_copy_0 (by decide) ?_
  refine lv_istore_n (lv' := [(3, .int (nI 0)), (0, .ref (q 0)), (1, .int (nI fr)), (2, .int (nI to))]) hx hb dX6_copy_1 rfl hl (by decide) rfl (fun ls hl => ?_)
  have L_2 : ∀ (n_2 : Nat) (k : Nat) (w1 : Nat → Int32) (H : Heap) (locs : List Loc), k ≤ 148 → 148 - k < n_2 → va_P (dC, dI) vwCl (mW q cI cZ w1 kp tx td ab be su po st nu li fi ga hh) H → va_D A (mW q cI cZ w1 kp tx td ab be su po st nu li fi ga hh) → va_S A s.heap H locs → ∀ (ls : Array Slot), lv_has ls 4 [(3, .int (nI k)), (0, .ref (q 0)), (1, .int (nI fr)), (2, .int (nI to))] → OUT = let2 (F_X6_copy_L2 n_2 fr to k w1) (fun k w1 => w1) → W p l e (headSpec wsX6_copy { frames := 0, cells := 0, slots := 0, locals := 0 }).room s m ([.ref (q 0), .int (nI fr), .int (nI to)] : List Value).toArray below meth c H locs 0 0 (MQ below (va_Qv (fun (u : (Nat → Int32)) => F_X6_copy w fr to = u) (mB (dC, dI) vwCl (mT cI cZ) A (fun u => mW q cI cZ u kp tx td ab be su po st nu li fi ga hh)) A) ([.ref (q 0), .int (nI fr), .int (nI to)] : List Value).toArray s 0 0 A) (F0 m 2 ls []) := by
    intro n_2
    induction n_2 with
    | zero => intro k w1 H locs i0 hmu; exact absurd hmu (Nat.not_lt_zero _)
    | succ n_2 ih_2 =>
      intro k w1 H locs i0 hmu_2 hP hD hS ls hl hF
      rw [F_X6_copy_L2] at hF
      refine lv_iload_n hx hb dX6_copy_2 rfl (lv_at hl 0 rfl) ?_
      refine lv_sipush (v := nI 148) hx hb dX6_copy_3 (by decide) ?_
      refine qv_icmp_ge (tgt := 31) hx hb dX6_copy_6 (by decide) (by omega) (by omega) (fun c_6 => ?_) (fun c_6 => ?_)
      · rw [if_pos c_6] at hF
        rw [let2_mk (k : Nat) (w1 : Nat → Int32)] at hF
        have hP9 : va_P (dC, dI) vwCl (mW q cI cZ w1 kp tx td ab be su po st nu li fi ga hh) H := hP
        exact W.vret hx hb hr (fun t ht hW => ⟨⟨(w1), rfl, hO.symm.trans hF, by rw [ht]; exact hP9, va_K.moved hW.alike hK, hD⟩, hS.F ht⟩) hS.2.2 dX6_copy_31
      · rw [if_neg c_6] at hF
        refine lv_aload_n hx hb dX6_copy_9 rfl (lv_at hl 1 rfl) ?_
        refine va_get (D := (dC, dI)) (ci := 6) (v := .ref (q 1)) (C := RX6) (T := TX6) (N := 14) hx hb hts hin hown hK hP 0 rfl rfl 0 (by decide) lk7 (fun _ h9 => h9) rfl dX6_copy_10 ?_
        refine lv_iload_n hx hb dX6_copy_13 rfl (lv_at hl 3 rfl) ?_
        refine lv_iload_n hx hb dX6_copy_14 rfl (lv_at hl 0 rfl) ?_
        refine qv_iadd hx hb (to + k) dX6_copy_15 (by omega) ?_
        refine lv_aload_n hx hb dX6_copy_16 rfl (lv_at hl 1 rfl) ?_
        refine va_get (D := (dC, dI)) (ci := 6) (v := .ref (q 1)) (C := RX6) (T := TX6) (N := 14) hx hb hts hin hown hK hP 0 rfl rfl 0 (by decide) lk7 (fun _ h9 => h9) rfl dX6_copy_17 ?_
        refine lv_iload_n hx hb dX6_copy_20 rfl (lv_at hl 2 rfl) ?_
        refine lv_iload_n hx hb dX6_copy_21 rfl (lv_at hl 0 rfl) ?_
        refine qv_iadd hx hb (fr + k) dX6_copy_22 (by omega) ?_
        refine qv_ald (v := w1 (fr + k)) hx hb hK hP 1 0 rfl rfl (by omega) (by decide) (rfl) dX6_copy_23 ?_
        refine qv_ast (ws' := mW q cI cZ (upd w1 (to + k) (w1 (fr + k))) kp tx td ab be su po st nu li fi ga hh) hx hb hK hP hD hS 1 0 rfl rfl (by omega) (by decide) dX6_copy_24 rfl (fun H locs hP hD hS => ?_)
        refine lv_iinc (v := nI (k + 1)) (lv' := [(3, .int (nI (k + 1))), (0, .ref (q 0)), (1, .int (nI fr)), (2, .int (nI to))]) hx hb dX6_copy_25 hl (k := 0) rfl (qn_inc (c := 1) rfl (by omega)) (by decide) rfl (fun ls hl => ?_)
        refine lv_goto (tgt := 2) hx hb dX6_copy_28 (by decide) ?_
        exact ih_2 (k + 1) (upd w1 (to + k) (w1 (fr + k))) H locs (by omega) (by omega) hP hD hS ls (lv_sub hl [0, 1, 2, 3] rfl) hF
  exact L_2 149 0 w s.heap [] (by omega) (by omega) hP hD hS ls (lv_sub hl [0, 1, 2, 3] rfl) hF
def F_X6_empties_L2 : Nat → (Nat) → (Nat) → (Nat → Int32) → (Nat) × (Nat → Int32)
  | 0, _, k, w1 => (k, w1)
  | n_2 + 1, R, k, w1 => if 148 ≤ k then (k, w1) else F_X6_empties_L2 n_2 R (k + 1) (upd w1 (R + k) (nI 0))
def F_X6_empties (w : Nat → Int32) (R : Nat) : (Nat → Int32) := let2 (F_X6_empties_L2 149 R 0 w) (fun k w1 => w1)
set_option maxHeartbeats 4000000 in
set_option maxRecDepth 100000 in
theorem c_X6_empties (l : Launch) (dC : Nat → ClassId) (dI : Nat → Nat → Nat) (q : Nat → Nat) (cI cZ : ClassId) (sz : Nat) (w : Nat → Int32) (kp : Nat → Int32) (tx : Nat → Int32) (td : Int32) (ab : Int64) (be : Int64) (su : Nat → Int32) (po : Int32) (st : Int32) (nu : Int32) (li : Nat → Int32) (fi : Nat → Int32) (ga : Nat → Int32) (hh : Int64) (R : Nat) (hR : R + 148 ≤ 624) : Met l yX6_empties wsX6_empties { frames := 0, cells := 0, slots := 0, locals := 0 } (mPc (dC, dI) vwCl (mT cI cZ) (mW q cI cZ w kp tx td ab be su po st nu li fi ga hh) sz [.ref (q 0), .int (nI R)]) (va_Qv (fun (u : (Nat → Int32)) => F_X6_empties w R = u) (mB (dC, dI) vwCl (mT cI cZ) (va_A (mW q cI cZ w kp tx td ab be su po st nu li fi ga hh) sz) (fun u => mW q cI cZ u kp tx td ab be su po st nu li fi ga hh)) (va_A (mW q cI cZ w kp tx td ab be su po st nu li fi ga hh) sz)) 0 0 (va_A (mW q cI cZ w kp tx td ab be su po st nu li fi ga hh) sz) := by
  refine Met.ofW (cc := cX6_empties) (maxL := 3) (ret := none) (by decide) rfl ?_
  intro p e s m args below meth c s₁ B hml hv
  obtain ⟨rfl, hsz, hP, hK, hD0⟩ := hv
  have hx := B.exec
  have hb := B.bytes
  have hr := B.returns
  have hts := atoms_spec (ws := wsX6_empties) B.pre
  have hown : s.vm.findClass RX6 = some m.cls := findClass_of_methodNamed B.named
  have hlocks := B.notSynchronized
  subst hsz
  have hD := hD0.self (sz := s.heap.size)
  generalize hAe : va_A (mW q cI cZ w kp tx td ab be su po st nu li fi ga hh) s.heap.size = A at hD ⊢
  have hA : ∀ q : Nat, s.heap.size ≤ q → A q := fun q h => by rw [← hAe]; exact Or.inr h
  have hS : va_S A s.heap s.heap [] := va_S.rf
  have hin : ∀ w ∈ wsX60, w ∈ wsX6_empties := by decide +kernel
  have lk7 := hts (.fieldLink RX6 7 "PostRoundersModel" "w" "[I") (by decide +kernel)
  have hl := lv_entry ([.ref (q 0), .int (nI R)]) (n := 3) (Nat.le_of_ble_eq_true rfl)
  rw [lg_entry_eq]
  generalize (lg_sl ([.ref (q 0), .int (nI R)]) ++ List.replicate (3 - (lg_sl ([.ref (q 0), .int (nI R)])).length) Slot.unset).toArray = ls at hl ⊢
  have hl : lv_has ls 3 [(0, .ref (q 0)), (1, .int (nI R))] := hl
  obtain ⟨OUT, hO⟩ : ∃ z, z = F_X6_empties w R := ⟨_, rfl⟩
  have hF := hO
  unfold F_X6_empties at hF
  refine lv_iconst (v := nI 0) hx hb dX6_empties_0 (by decide) ?_
  refine lv_istore_n (lv' := [(2, .int (nI 0)), (0, .ref (q 0)), (1, .int (nI R))]) hx hb dX6_empties_1 rfl hl (by decide) rfl (fun ls hl => ?_)
  have L_2 : ∀ (n_2 : Nat) (k : Nat) (w1 : Nat → Int32) (H : Heap) (locs : List Loc), k ≤ 148 → 148 - k < n_2 → va_P (dC, dI) vwCl (mW q cI cZ w1 kp tx td ab be su po st nu li fi ga hh) H → va_D A (mW q cI cZ w1 kp tx td ab be su po st nu li fi ga hh) → va_S A s.heap H locs → ∀ (ls : Array Slot), lv_has ls 3 [(2, .int (nI k)), (0, .ref (q 0)), (1, .int (nI R))] → OUT = let2 (F_X6_empties_L2 n_2 R k w1) (fun k w1 => w1) → W p l e (headSpec wsX6_empties { frames := 0, cells := 0, slots := 0, locals := 0 }).room s m ([.ref (q 0), .int (nI R)] : List Value).toArray below meth c H locs 0 0 (MQ below (va_Qv (fun (u : (Nat → Int32)) => F_X6_empties w R = u) (mB (dC, dI) vwCl (mT cI cZ) A (fun u => mW q cI cZ u kp tx td ab be su po st nu li fi ga hh)) A) ([.ref (q 0), .int (nI R)] : List Value).toArray s 0 0 A) (F0 m 2 ls []) := by
    intro n_2
    induction n_2 with
    | zero => intro k w1 H locs i0 hmu; exact absurd hmu (Nat.not_lt_zero _)
    | succ n_2 ih_2 =>
      intro k w1 H locs i0 hmu_2 hP hD hS ls hl hF
      rw [F_X6_empties_L2] at hF
      refine lv_iload_n hx hb dX6_empties_2 rfl (lv_at hl 0 rfl) ?_
      refine lv_sipush (v := nI 148) hx hb dX6_empties_3 (by decide) ?_
      refine qv_icmp_ge (tgt := 24) hx hb dX6_empties_6 (by decide) (by omega) (by omega) (fun c_6 => ?_) (fun c_6 => ?_)
      · rw [if_pos c_6] at hF
        rw [let2_mk (k : Nat) (w1 : Nat → Int32)] at hF
        have hP9 : va_P (dC, dI) vwCl (mW q cI cZ w1 kp tx td ab be su po st nu li fi ga hh) H := hP
        exact W.vret hx hb hr (fun t ht hW => ⟨⟨(w1), rfl, hO.symm.trans hF, by rw [ht]; exact hP9, va_K.moved hW.alike hK, hD⟩, hS.F ht⟩) hS.2.2 dX6_empties_24
      · rw [if_neg c_6] at hF
        refine lv_aload_n hx hb dX6_empties_9 rfl (lv_at hl 1 rfl) ?_
        refine va_get (D := (dC, dI)) (ci := 6) (v := .ref (q 1)) (C := RX6) (T := TX6) (N := 14) hx hb hts hin hown hK hP 0 rfl rfl 0 (by decide) lk7 (fun _ h9 => h9) rfl dX6_empties_10 ?_
        refine lv_iload_n hx hb dX6_empties_13 rfl (lv_at hl 2 rfl) ?_
        refine lv_iload_n hx hb dX6_empties_14 rfl (lv_at hl 0 rfl) ?_
        refine qv_iadd hx hb (R + k) dX6_empties_15 (by omega) ?_
        refine lv_iconst (v := nI 0) hx hb dX6_empties_16 (by decide) ?_
        refine qv_ast (ws' := mW q cI cZ (upd w1 (R + k) (nI 0)) kp tx td ab be su po st nu li fi ga hh) hx hb hK hP hD hS 1 0 rfl rfl (by omega) (by decide) dX6_empties_17 rfl (fun H locs hP hD hS => ?_)
        refine lv_iinc (v := nI (k + 1)) (lv' := [(2, .int (nI (k + 1))), (0, .ref (q 0)), (1, .int (nI R))]) hx hb dX6_empties_18 hl (k := 0) rfl (qn_inc (c := 1) rfl (by omega)) (by decide) rfl (fun ls hl => ?_)
        refine lv_goto (tgt := 2) hx hb dX6_empties_21 (by decide) ?_
        exact ih_2 (k + 1) (upd w1 (R + k) (nI 0)) H locs (by omega) (by omega) hP hD hS ls (lv_sub hl [0, 1, 2] rfl) hF
  exact L_2 149 0 w s.heap [] (by omega) (by omega) hP hD hS ls (lv_sub hl [0, 1, 2] rfl) hF
def F_X6_begins_L25 : Nat → (Nat) → (Nat) → (Nat → Int32) → (Nat) × (Nat → Int32)
  | 0, _, k, w1 => (k, w1)
  | n_25 + 1, R, k, w1 => if 8 ≤ k then (k, w1) else F_X6_begins_L25 n_25 R (k + 1) (upd w1 (R + k + 23) (nI 5))
def F_X6_begins (w : Nat → Int32) (R : Nat) (kd : Int32) : (Nat → Int32) := let1 (F_X6_empties w R) (fun w_2 => let2 (F_X6_begins_L25 9 R 0 (upd (upd w_2 (R + 1) kd) (R + 2) ((-1)))) (fun k w1 => w1))
set_option maxHeartbeats 4000000 in
set_option maxRecDepth 100000 in
theorem c_X6_begins (l : Launch) (dC : Nat → ClassId) (dI : Nat → Nat → Nat) (q : Nat → Nat) (cI cZ : ClassId) (sz : Nat) (w : Nat → Int32) (kp : Nat → Int32) (tx : Nat → Int32) (td : Int32) (ab : Int64) (be : Int64) (su : Nat → Int32) (po : Int32) (st : Int32) (nu : Int32) (li : Nat → Int32) (fi : Nat → Int32) (ga : Nat → Int32) (hh : Int64) (R : Nat) (kd : Int32) (hR : R + 148 ≤ 624) : Met l yX6_begins wsX6_begins { frames := 1, cells := 0, slots := 0, locals := 22 } (mPc (dC, dI) vwCl (mT cI cZ) (mW q cI cZ w kp tx td ab be su po st nu li fi ga hh) sz [.ref (q 0), .int (nI R), .int kd]) (va_Qv (fun (u : (Nat → Int32)) => F_X6_begins w R kd = u) (mB (dC, dI) vwCl (mT cI cZ) (va_A (mW q cI cZ w kp tx td ab be su po st nu li fi ga hh) sz) (fun u => mW q cI cZ u kp tx td ab be su po st nu li fi ga hh)) (va_A (mW q cI cZ w kp tx td ab be su po st nu li fi ga hh) sz)) 0 0 (va_A (mW q cI cZ w kp tx td ab be su po st nu li fi ga hh) sz) := by
  refine Met.ofW (cc := cX6_begins) (maxL := 4) (ret := none) (by decide) rfl ?_
  intro p e s m args below meth c s₁ B hml hv
  obtain ⟨rfl, hsz, hP, hK, hD0⟩ := hv
  have hx := B.exec
  have hb := B.bytes
  have hr := B.returns
  have hts := atoms_spec (ws := wsX6_begins) B.pre
  have hown : s.vm.findClass RX6 = some m.cls := findClass_of_methodNamed B.named
  have hlocks := B.notSynchronized
  subst hsz
  have hD := hD0.self (sz := s.heap.size)
  generalize hAe : va_A (mW q cI cZ w kp tx td ab be su po st nu li fi ga hh) s.heap.size = A at hD ⊢
  have hA : ∀ q : Nat, s.heap.size ≤ q → A q := fun q h => by rw [← hAe]; exact Or.inr h
  have hS : va_S A s.heap s.heap [] := va_S.rf
  have hin : ∀ w ∈ wsX60, w ∈ wsX6_begins := by decide +kernel
  have lk7 := hts (.fieldLink RX6 7 "PostRoundersModel" "w" "[I") (by decide +kernel)
  have hl := lv_entry ([.ref (q 0), .int (nI R), .int kd]) (n := 4) (Nat.le_of_ble_eq_true rfl)
  rw [lg_entry_eq]
  generalize (lg_sl ([.ref (q 0), .int (nI R), .int kd]) ++ List.replicate (4 - (lg_sl ([.ref (q 0), .int (nI R), .int kd])).length) Slot.unset).toArray = ls at hl ⊢
  have hl : lv_has ls 4 [(0, .ref (q 0)), (1, .int (nI R)), (2, .int kd)] := hl
  obtain ⟨OUT, hO⟩ : ∃ z, z = F_X6_begins w R kd := ⟨_, rfl⟩
  have hF := hO
  unfold F_X6_begins at hF
  refine lv_aload_n hx hb dX6_begins_0 rfl (lv_at hl 0 rfl) ?_
  refine lv_iload_n hx hb dX6_begins_1 rfl (lv_at hl 1 rfl) ?_
  refine qc_Vv (C := RX6) (As := [.int (nI R)]) (rest := []) (ci := 6) (k0 := 0) ⟨hx, hb, hml, hown, hts⟩ (c_X6_empties l dC dI q cI cZ s.heap.size w kp tx td ab be su po st nu li fi ga hh R (by omega)) (cwV 1 hts gX6_begins_X6_empties rfl rfl rfl (by decide +kernel) ⟨Nat.le_of_ble_eq_true rfl, Nat.le_of_ble_eq_true rfl⟩) hK hP hD hS hA rfl rfl rfl rfl hl.1 rfl (Nat.le_of_ble_eq_true rfl) dX6_begins_2 ⟨Nat.zero_le _, Nat.zero_le _⟩ (fun u_2 H locs hw_2 hP hD hS => ?_)
  obtain ⟨w_2, rfl⟩ : ∃ z, z = u_2 := ⟨_, rfl⟩
  have hP : va_P (dC, dI) vwCl (mW q cI cZ w_2 kp tx td ab be su po st nu li fi ga hh) H := hP
  have hD : va_D A (mW q cI cZ w_2 kp tx td ab be su po st nu li fi ga hh) := hD
  rw [hw_2, let1_mk w_2] at hF
  refine lv_aload_n hx hb dX6_begins_5 rfl (lv_at hl 0 rfl) ?_
  refine va_get (D := (dC, dI)) (ci := 6) (v := .ref (q 1)) (C := RX6) (T := TX6) (N := 14) hx hb hts hin hown hK hP 0 rfl rfl 0 (by decide) lk7 (fun _ h9 => h9) rfl dX6_begins_6 ?_
  refine lv_iload_n hx hb dX6_begins_9 rfl (lv_at hl 1 rfl) ?_
  refine lv_iconst (v := nI 1) hx hb dX6_begins_10 (by decide) ?_
  refine qv_iadd hx hb (R + 1) dX6_begins_11 (by omega) ?_
  refine lv_iload_n hx hb dX6_begins_12 rfl (lv_at hl 2 rfl) ?_
  refine qv_ast (ws' := mW q cI cZ (upd w_2 (R + 1) kd) kp tx td ab be su po st nu li fi ga hh) hx hb hK hP hD hS 1 0 rfl rfl (by omega) (by decide) dX6_begins_13 rfl (fun H locs hP hD hS => ?_)
  refine lv_aload_n hx hb dX6_begins_14 rfl (lv_at hl 0 rfl) ?_
  refine va_get (D := (dC, dI)) (ci := 6) (v := .ref (q 1)) (C := RX6) (T := TX6) (N := 14) hx hb hts hin hown hK hP 0 rfl rfl 0 (by decide) lk7 (fun _ h9 => h9) rfl dX6_begins_15 ?_
  refine lv_iload_n hx hb dX6_begins_18 rfl (lv_at hl 1 rfl) ?_
  refine lv_iconst (v := nI 2) hx hb dX6_begins_19 (by decide) ?_
  refine qv_iadd hx hb (R + 2) dX6_begins_20 (by omega) ?_
  refine lv_iconst (v := (-1)) hx hb dX6_begins_21 (by decide) ?_
  refine qv_ast (ws' := mW q cI cZ (upd (upd w_2 (R + 1) kd) (R + 2) ((-1))) kp tx td ab be su po st nu li fi ga hh) hx hb hK hP hD hS 1 0 rfl rfl (by omega) (by decide) dX6_begins_22 rfl (fun H locs hP hD hS => ?_)
  refine lv_iconst (v := nI 0) hx hb dX6_begins_23 (by decide) ?_
  refine lv_istore_n (lv' := [(3, .int (nI 0)), (0, .ref (q 0)), (1, .int (nI R)), (2, .int kd)]) hx hb dX6_begins_24 rfl hl (by decide) rfl (fun ls hl => ?_)
  have L_25 : ∀ (n_25 : Nat) (k : Nat) (w1 : Nat → Int32) (H : Heap) (locs : List Loc), k ≤ 8 → 8 - k < n_25 → va_P (dC, dI) vwCl (mW q cI cZ w1 kp tx td ab be su po st nu li fi ga hh) H → va_D A (mW q cI cZ w1 kp tx td ab be su po st nu li fi ga hh) → va_S A s.heap H locs → ∀ (ls : Array Slot), lv_has ls 4 [(3, .int (nI k)), (0, .ref (q 0)), (1, .int (nI R)), (2, .int kd)] → OUT = let2 (F_X6_begins_L25 n_25 R k w1) (fun k w1 => w1) → W p l e (headSpec wsX6_begins { frames := 1, cells := 0, slots := 0, locals := 22 }).room s m ([.ref (q 0), .int (nI R), .int kd] : List Value).toArray below meth c H locs 0 0 (MQ below (va_Qv (fun (u : (Nat → Int32)) => F_X6_begins w R kd = u) (mB (dC, dI) vwCl (mT cI cZ) A (fun u => mW q cI cZ u kp tx td ab be su po st nu li fi ga hh)) A) ([.ref (q 0), .int (nI R), .int kd] : List Value).toArray s 0 0 A) (F0 m 25 ls []) := by
    intro n_25
    induction n_25 with
    | zero => intro k w1 H locs i0 hmu; exact absurd hmu (Nat.not_lt_zero _)
    | succ n_25 ih_25 =>
      intro k w1 H locs i0 hmu_25 hP hD hS ls hl hF
      rw [F_X6_begins_L25] at hF
      refine lv_iload_n hx hb dX6_begins_25 rfl (lv_at hl 0 rfl) ?_
      refine lv_bipush (v := nI 8) hx hb dX6_begins_26 (by decide) ?_
      refine qv_icmp_ge (tgt := 49) hx hb dX6_begins_28 (by decide) (by omega) (by omega) (fun c_28 => ?_) (fun c_28 => ?_)
      · rw [if_pos c_28] at hF
        rw [let2_mk (k : Nat) (w1 : Nat → Int32)] at hF
        have hP9 : va_P (dC, dI) vwCl (mW q cI cZ w1 kp tx td ab be su po st nu li fi ga hh) H := hP
        exact W.vret hx hb hr (fun t ht hW => ⟨⟨(w1), rfl, hO.symm.trans hF, by rw [ht]; exact hP9, va_K.moved hW.alike hK, hD⟩, hS.F ht⟩) hS.2.2 dX6_begins_49
      · rw [if_neg c_28] at hF
        refine lv_aload_n hx hb dX6_begins_31 rfl (lv_at hl 1 rfl) ?_
        refine va_get (D := (dC, dI)) (ci := 6) (v := .ref (q 1)) (C := RX6) (T := TX6) (N := 14) hx hb hts hin hown hK hP 0 rfl rfl 0 (by decide) lk7 (fun _ h9 => h9) rfl dX6_begins_32 ?_
        refine lv_iload_n hx hb dX6_begins_35 rfl (lv_at hl 2 rfl) ?_
        refine lv_bipush (v := nI 23) hx hb dX6_begins_36 (by decide) ?_
        refine qv_iadd hx hb (R + 23) dX6_begins_38 (by omega) ?_
        refine lv_iload_n hx hb dX6_begins_39 rfl (lv_at hl 0 rfl) ?_
        refine qv_iadd hx hb (R + k + 23) dX6_begins_40 (by omega) ?_
        refine lv_iconst (v := nI 5) hx hb dX6_begins_41 (by decide) ?_
        refine qv_ast (ws' := mW q cI cZ (upd w1 (R + k + 23) (nI 5)) kp tx td ab be su po st nu li fi ga hh) hx hb hK hP hD hS 1 0 rfl rfl (by omega) (by decide) dX6_begins_42 rfl (fun H locs hP hD hS => ?_)
        refine lv_iinc (v := nI (k + 1)) (lv' := [(3, .int (nI (k + 1))), (0, .ref (q 0)), (1, .int (nI R)), (2, .int kd)]) hx hb dX6_begins_43 hl (k := 0) rfl (qn_inc (c := 1) rfl (by omega)) (by decide) rfl (fun ls hl => ?_)
        refine lv_goto (tgt := 25) hx hb dX6_begins_46 (by decide) ?_
        exact ih_25 (k + 1) (upd w1 (R + k + 23) (nI 5)) H locs (by omega) (by omega) hP hD hS ls (lv_sub hl [0, 1, 2, 3] rfl) hF
  exact L_25 9 0 (upd (upd w_2 (R + 1) kd) (R + 2) ((-1))) H locs (by omega) (by omega) hP hD hS ls (lv_sub hl [0, 1, 2, 3] rfl) hF
def F_X6_nextOf_L24 : Nat → (Nat) → (Nat → Int32) → (Nat) → (Int32) → (Nat) × (Int32)
  | 0, _, _, k, fd => (k, fd)
  | n_24 + 1, R, w, k, fd => if k < 1 then (k, fd) else (if (w (R + ((tN (w (R + 2)) + k) % (tN (w R))) + 17)) = 0 then F_X6_nextOf_L24 n_24 R w ((k - 1)) (nI (((tN (w (R + 2)) + k) % (tN (w R))))) else F_X6_nextOf_L24 n_24 R w ((k - 1)) fd)
def F_X6_nextOf (w : Nat → Int32) (R : Nat) : (Nat → Int32) := let2 (F_X6_nextOf_L24 7 R w (tN (w R)) ((-1))) (fun k fd => (upd w (R + 2) fd))
set_option maxHeartbeats 4000000 in
set_option maxRecDepth 100000 in
theorem c_X6_nextOf (l : Launch) (dC : Nat → ClassId) (dI : Nat → Nat → Nat) (q : Nat → Nat) (cI cZ : ClassId) (sz : Nat) (w : Nat → Int32) (kp : Nat → Int32) (tx : Nat → Int32) (td : Int32) (ab : Int64) (be : Int64) (su : Nat → Int32) (po : Int32) (st : Int32) (nu : Int32) (li : Nat → Int32) (fi : Nat → Int32) (ga : Nat → Int32) (hh : Int64) (R : Nat) (hR : R + 32 ≤ 624) (pB : inB (w R) 6) (pN : inB (w (R + 2)) 5) : Met l yX6_nextOf wsX6_nextOf { frames := 0, cells := 0, slots := 0, locals := 0 } (mPc (dC, dI) vwCl (mT cI cZ) (mW q cI cZ w kp tx td ab be su po st nu li fi ga hh) sz [.ref (q 0), .int (nI R)]) (va_Qv (fun (u : (Nat → Int32)) => F_X6_nextOf w R = u) (mB (dC, dI) vwCl (mT cI cZ) (va_A (mW q cI cZ w kp tx td ab be su po st nu li fi ga hh) sz) (fun u => mW q cI cZ u kp tx td ab be su po st nu li fi ga hh)) (va_A (mW q cI cZ w kp tx td ab be su po st nu li fi ga hh) sz)) 0 0 (va_A (mW q cI cZ w kp tx td ab be su po st nu li fi ga hh) sz) := by
  refine Met.ofW (cc := cX6_nextOf) (maxL := 7) (ret := none) (by decide) rfl ?_
  intro p e s m args below meth c s₁ B hml hv
  obtain ⟨rfl, hsz, hP, hK, hD0⟩ := hv
  have hx := B.exec
  have hb := B.bytes
  have hr := B.returns
  have hts := atoms_spec (ws := wsX6_nextOf) B.pre
  have hown : s.vm.findClass RX6 = some m.cls := findClass_of_methodNamed B.named
  have hlocks := B.notSynchronized
  subst hsz
  have hD := hD0.self (sz := s.heap.size)
  generalize hAe : va_A (mW q cI cZ w kp tx td ab be su po st nu li fi ga hh) s.heap.size = A at hD ⊢
  have hA : ∀ q : Nat, s.heap.size ≤ q → A q := fun q h => by rw [← hAe]; exact Or.inr h
  have hS : va_S A s.heap s.heap [] := va_S.rf
  have hin : ∀ w ∈ wsX60, w ∈ wsX6_nextOf := by decide +kernel
  have lk7 := hts (.fieldLink RX6 7 "PostRoundersModel" "w" "[I") (by decide +kernel)
  have hl := lv_entry ([.ref (q 0), .int (nI R)]) (n := 7) (Nat.le_of_ble_eq_true rfl)
  rw [lg_entry_eq]
  generalize (lg_sl ([.ref (q 0), .int (nI R)]) ++ List.replicate (7 - (lg_sl ([.ref (q 0), .int (nI R)])).length) Slot.unset).toArray = ls at hl ⊢
  have hl : lv_has ls 7 [(0, .ref (q 0)), (1, .int (nI R))] := hl
  obtain ⟨OUT, hO⟩ : ∃ z, z = F_X6_nextOf w R := ⟨_, rfl⟩
  have hF := hO
  unfold F_X6_nextOf at hF
  have e_pB := tN_eq pB.1
  have b_pB := pB.2
  have e_pN := tN_eq pN.1
  have b_pN := pN.2
  refine lv_aload_n hx hb dX6_nextOf_0 rfl (lv_at hl 0 rfl) ?_
  refine va_get (D := (dC, dI)) (ci := 6) (v := .ref (q 1)) (C := RX6) (T := TX6) (N := 14) hx hb hts hin hown hK hP 0 rfl rfl 0 (by decide) lk7 (fun _ h9 => h9) rfl dX6_nextOf_1 ?_
  refine lv_iload_n hx hb dX6_nextOf_4 rfl (lv_at hl 1 rfl) ?_
  refine lv_iconst (v := nI 2) hx hb dX6_nextOf_5 (by decide) ?_
  refine qv_iadd hx hb (R + 2) dX6_nextOf_6 (by omega) ?_
  refine qv_ald (v := w (R + 2)) hx hb hK hP 1 0 rfl rfl (by omega) (by decide) (rfl) dX6_nextOf_7 ?_
  refine qv_top (e_pN) ?_
  refine lv_istore_n (lv' := [(2, .int (nI (tN (w (R + 2))))), (0, .ref (q 0)), (1, .int (nI R))]) hx hb dX6_nextOf_8 rfl hl (by decide) rfl (fun ls hl => ?_)
  refine lv_aload_n hx hb dX6_nextOf_9 rfl (lv_at hl 1 rfl) ?_
  refine va_get (D := (dC, dI)) (ci := 6) (v := .ref (q 1)) (C := RX6) (T := TX6) (N := 14) hx hb hts hin hown hK hP 0 rfl rfl 0 (by decide) lk7 (fun _ h9 => h9) rfl dX6_nextOf_10 ?_
  refine lv_iload_n hx hb dX6_nextOf_13 rfl (lv_at hl 2 rfl) ?_
  refine lv_iconst (v := nI 0) hx hb dX6_nextOf_14 (by decide) ?_
  refine qv_iadd hx hb (R) dX6_nextOf_15 (by omega) ?_
  refine qv_ald (v := w R) hx hb hK hP 1 0 rfl rfl (by omega) (by decide) (rfl) dX6_nextOf_16 ?_
  refine qv_top (e_pB) ?_
  refine lv_istore_n (lv' := [(3, .int (nI (tN (w R)))), (2, .int (nI (tN (w (R + 2))))), (0, .ref (q 0)), (1, .int (nI R))]) hx hb dX6_nextOf_17 rfl hl (by decide) rfl (fun ls hl => ?_)
  refine lv_iconst (v := (-1)) hx hb dX6_nextOf_18 (by decide) ?_
  refine lv_istore (lv' := [(4, .int ((-1))), (3, .int (nI (tN (w R)))), (2, .int (nI (tN (w (R + 2))))), (0, .ref (q 0)), (1, .int (nI R))]) hx hb dX6_nextOf_19 hl (by decide) rfl (fun ls hl => ?_)
  refine lv_iload_n hx hb dX6_nextOf_21 rfl (lv_at hl 1 rfl) ?_
  refine lv_istore (lv' := [(5, .int (nI (tN (w R)))), (4, .int ((-1))), (3, .int (nI (tN (w R)))), (2, .int (nI (tN (w (R + 2))))), (0, .ref (q 0)), (1, .int (nI R))]) hx hb dX6_nextOf_22 hl (by decide) rfl (fun ls hl => ?_)
  have L_24 : ∀ (n_24 : Nat) (k : Nat) (fd : Int32) (H : Heap) (locs : List Loc), k ≤ tN (w R) → k < n_24 → va_P (dC, dI) vwCl (mW q cI cZ w kp tx td ab be su po st nu li fi ga hh) H → va_D A (mW q cI cZ w kp tx td ab be su po st nu li fi ga hh) → va_S A s.heap H locs → ∀ (ls : Array Slot), lv_has ls 7 [(5, .int (nI k)), (4, .int fd), (3, .int (nI (tN (w R)))), (2, .int (nI (tN (w (R + 2))))), (0, .ref (q 0)), (1, .int (nI R))] → OUT = let2 (F_X6_nextOf_L24 n_24 R w k fd) (fun k fd => (upd w (R + 2) fd)) → W p l e (headSpec wsX6_nextOf { frames := 0, cells := 0, slots := 0, locals := 0 }).room s m ([.ref (q 0), .int (nI R)] : List Value).toArray below meth c H locs 0 0 (MQ below (va_Qv (fun (u : (Nat → Int32)) => F_X6_nextOf w R = u) (mB (dC, dI) vwCl (mT cI cZ) A (fun u => mW q cI cZ u kp tx td ab be su po st nu li fi ga hh)) A) ([.ref (q 0), .int (nI R)] : List Value).toArray s 0 0 A) (F0 m 24 ls []) := by
    intro n_24
    induction n_24 with
    | zero => intro k fd H locs i0 hmu; exact absurd hmu (Nat.not_lt_zero _)
    | succ n_24 ih_24 =>
      intro k fd H locs i0 hmu_24 hP hD hS ls hl hF
      rw [F_X6_nextOf_L24] at hF
      refine lv_iload hx hb dX6_nextOf_24 (lv_at hl 0 rfl) ?_
      refine lv_iconst (v := nI 1) hx hb dX6_nextOf_26 (by decide) ?_
      refine qv_icmp_lt (tgt := 68) hx hb dX6_nextOf_27 (by decide) (by omega) (by omega) (fun c_27 => ?_) (fun c_27 => ?_)
      · rw [if_pos c_27] at hF
        rw [let2_mk (k : Nat) (fd : Int32)] at hF
        refine lv_aload_n hx hb dX6_nextOf_68 rfl (lv_at hl 4 rfl) ?_
        refine va_get (D := (dC, dI)) (ci := 6) (v := .ref (q 1)) (C := RX6) (T := TX6) (N := 14) hx hb hts hin hown hK hP 0 rfl rfl 0 (by decide) lk7 (fun _ h9 => h9) rfl dX6_nextOf_69 ?_
        refine lv_iload_n hx hb dX6_nextOf_72 rfl (lv_at hl 5 rfl) ?_
        refine lv_iconst (v := nI 2) hx hb dX6_nextOf_73 (by decide) ?_
        refine qv_iadd hx hb (R + 2) dX6_nextOf_74 (by omega) ?_
        refine lv_iload hx hb dX6_nextOf_75 (lv_at hl 1 rfl) ?_
        refine qv_ast (ws' := mW q cI cZ (upd w (R + 2) fd) kp tx td ab be su po st nu li fi ga hh) hx hb hK hP hD hS 1 0 rfl rfl (by omega) (by decide) dX6_nextOf_77 rfl (fun H locs hP hD hS => ?_)
        have hP9 : va_P (dC, dI) vwCl (mW q cI cZ (upd w (R + 2) fd) kp tx td ab be su po st nu li fi ga hh) H := hP
        exact W.vret hx hb hr (fun t ht hW => ⟨⟨(upd w (R + 2) fd), rfl, hO.symm.trans hF, by rw [ht]; exact hP9, va_K.moved hW.alike hK, hD⟩, hS.F ht⟩) hS.2.2 dX6_nextOf_78
      · rw [if_neg c_27] at hF
        refine lv_iload_n hx hb dX6_nextOf_30 rfl (lv_at hl 3 rfl) ?_
        refine lv_iload hx hb dX6_nextOf_31 (lv_at hl 0 rfl) ?_
        refine qv_iadd hx hb (tN (w (R + 2)) + k) dX6_nextOf_33 (by omega) ?_
        refine lv_iload_n hx hb dX6_nextOf_34 rfl (lv_at hl 2 rfl) ?_
        refine qv_irem hx hb dX6_nextOf_35 (by omega) (by omega) (by omega) ?_
        refine lv_istore (lv' := [(6, .int (nI (((tN (w (R + 2)) + k) % (tN (w R)))))), (5, .int (nI k)), (4, .int fd), (3, .int (nI (tN (w R)))), (2, .int (nI (tN (w (R + 2))))), (0, .ref (q 0)), (1, .int (nI R))]) hx hb dX6_nextOf_36 hl (by decide) rfl (fun ls hl => ?_)
        have m_38 : (tN (w (R + 2)) + k) % tN (w R) < 6 := Nat.lt_of_lt_of_le (Nat.mod_lt _ (by omega)) b_pB
        refine lv_aload_n hx hb dX6_nextOf_38 rfl (lv_at hl 5 rfl) ?_
        refine va_get (D := (dC, dI)) (ci := 6) (v := .ref (q 1)) (C := RX6) (T := TX6) (N := 14) hx hb hts hin hown hK hP 0 rfl rfl 0 (by decide) lk7 (fun _ h9 => h9) rfl dX6_nextOf_39 ?_
        refine lv_iload_n hx hb dX6_nextOf_42 rfl (lv_at hl 6 rfl) ?_
        refine lv_bipush (v := nI 17) hx hb dX6_nextOf_43 (by decide) ?_
        refine qv_iadd hx hb (R + 17) dX6_nextOf_45 (by omega) ?_
        refine lv_iload hx hb dX6_nextOf_46 (lv_at hl 0 rfl) ?_
        refine qv_iadd hx hb (R + ((tN (w (R + 2)) + k) % (tN (w R))) + 17) dX6_nextOf_48 (by omega) ?_
        refine qv_ald (v := w (R + ((tN (w (R + 2)) + k) % (tN (w R))) + 17)) hx hb hK hP 1 0 rfl rfl (by omega) (by decide) (rfl) dX6_nextOf_49 ?_
        refine lv_if_ne (tgt := 58) hx hb dX6_nextOf_50 (by decide) (fun c_50 => ?_) (fun c_50 => ?_)
        · rw [if_neg c_50] at hF
          refine lv_iload hx hb dX6_nextOf_58 (lv_at hl 2 rfl) ?_
          refine lv_istore (lv' := [(4, .int fd), (6, .int (nI (((tN (w (R + 2)) + k) % (tN (w R)))))), (5, .int (nI k)), (3, .int (nI (tN (w R)))), (2, .int (nI (tN (w (R + 2))))), (0, .ref (q 0)), (1, .int (nI R))]) hx hb dX6_nextOf_60 hl (by decide) rfl (fun ls hl => ?_)
          refine lv_iinc (v := nI ((k - 1))) (lv' := [(5, .int (nI ((k - 1)))), (4, .int fd), (6, .int (nI (((tN (w (R + 2)) + k) % (tN (w R)))))), (3, .int (nI (tN (w R)))), (2, .int (nI (tN (w (R + 2))))), (0, .ref (q 0)), (1, .int (nI R))]) hx hb dX6_nextOf_62 hl (k := 2) rfl (qn_dec (by omega)) (by decide) rfl (fun ls hl => ?_)
          refine lv_goto (tgt := 24) hx hb dX6_nextOf_65 (by decide) ?_
          exact ih_24 ((k - 1)) fd H locs (by omega) (by omega) hP hD hS ls (lv_sub hl [0, 1, 3, 4, 5, 6] rfl) hF
        · rw [if_pos c_50] at hF
          refine lv_iload hx hb dX6_nextOf_53 (lv_at hl 0 rfl) ?_
          refine lv_goto (tgt := 60) hx hb dX6_nextOf_55 (by decide) ?_
          refine lv_istore (lv' := [(4, .int (nI (((tN (w (R + 2)) + k) % (tN (w R)))))), (6, .int (nI (((tN (w (R + 2)) + k) % (tN (w R)))))), (5, .int (nI k)), (3, .int (nI (tN (w R)))), (2, .int (nI (tN (w (R + 2))))), (0, .ref (q 0)), (1, .int (nI R))]) hx hb dX6_nextOf_60 hl (by decide) rfl (fun ls hl => ?_)
          refine lv_iinc (v := nI ((k - 1))) (lv' := [(5, .int (nI ((k - 1)))), (4, .int (nI (((tN (w (R + 2)) + k) % (tN (w R)))))), (6, .int (nI (((tN (w (R + 2)) + k) % (tN (w R)))))), (3, .int (nI (tN (w R)))), (2, .int (nI (tN (w (R + 2))))), (0, .ref (q 0)), (1, .int (nI R))]) hx hb dX6_nextOf_62 hl (k := 2) rfl (qn_dec (by omega)) (by decide) rfl (fun ls hl => ?_)
          refine lv_goto (tgt := 24) hx hb dX6_nextOf_65 (by decide) ?_
          exact ih_24 ((k - 1)) (nI (((tN (w (R + 2)) + k) % (tN (w R))))) H locs (by omega) (by omega) hP hD hS ls (lv_sub hl [0, 1, 3, 4, 5, 6] rfl) hF
  exact L_24 7 (tN (w R)) ((-1)) s.heap [] (by omega) (by omega) hP hD hS ls (lv_sub hl [0, 1, 2, 3, 4, 5] rfl) hF
def F_X6_comesNow (w : Nat → Int32) (R : Nat) (h : Int32) : Int32 := F_X6_comesTo (w (R + 1)) h ((w (R + 4)) + (nI 1))
set_option maxHeartbeats 4000000 in
set_option maxRecDepth 100000 in
theorem c_X6_comesNow (l : Launch) (dC : Nat → ClassId) (dI : Nat → Nat → Nat) (q : Nat → Nat) (cI cZ : ClassId) (sz : Nat) (w : Nat → Int32) (kp : Nat → Int32) (tx : Nat → Int32) (td : Int32) (ab : Int64) (be : Int64) (su : Nat → Int32) (po : Int32) (st : Int32) (nu : Int32) (li : Nat → Int32) (fi : Nat → Int32) (ga : Nat → Int32) (hh : Int64) (R : Nat) (h : Int32) (hR : R + 32 ≤ 624) : Met l yX6_comesNow wsX6_comesNow { frames := 2, cells := 0, slots := 0, locals := 43 } (mPc (dC, dI) vwCl (mT cI cZ) (mW q cI cZ w kp tx td ab be su po st nu li fi ga hh) sz [.ref (q 0), .int (nI R), .int h]) (va_Qi (fun (r : Int32) (u : Unit) => F_X6_comesNow w R h = r) (mB (dC, dI) vwCl (mT cI cZ) (va_A (mW q cI cZ w kp tx td ab be su po st nu li fi ga hh) sz) (fun u => mW q cI cZ w kp tx td ab be su po st nu li fi ga hh)) (va_A (mW q cI cZ w kp tx td ab be su po st nu li fi ga hh) sz)) 0 0 (va_A (mW q cI cZ w kp tx td ab be su po st nu li fi ga hh) sz) := by
  refine Met.ofW (cc := cX6_comesNow) (maxL := 3) (ret := (some .int)) (by decide) rfl ?_
  intro p e s m args below meth c s₁ B hml hv
  obtain ⟨rfl, hsz, hP, hK, hD0⟩ := hv
  have hx := B.exec
  have hb := B.bytes
  have hr := B.returns
  have hts := atoms_spec (ws := wsX6_comesNow) B.pre
  have hown : s.vm.findClass RX6 = some m.cls := findClass_of_methodNamed B.named
  have hlocks := B.notSynchronized
  subst hsz
  have hD := hD0.self (sz := s.heap.size)
  generalize hAe : va_A (mW q cI cZ w kp tx td ab be su po st nu li fi ga hh) s.heap.size = A at hD ⊢
  have hA : ∀ q : Nat, s.heap.size ≤ q → A q := fun q h => by rw [← hAe]; exact Or.inr h
  have hS : va_S A s.heap s.heap [] := va_S.rf
  have hin : ∀ w ∈ wsX60, w ∈ wsX6_comesNow := by decide +kernel
  have lk7 := hts (.fieldLink RX6 7 "PostRoundersModel" "w" "[I") (by decide +kernel)
  have hl := lv_entry ([.ref (q 0), .int (nI R), .int h]) (n := 3) (Nat.le_of_ble_eq_true rfl)
  rw [lg_entry_eq]
  generalize (lg_sl ([.ref (q 0), .int (nI R), .int h]) ++ List.replicate (3 - (lg_sl ([.ref (q 0), .int (nI R), .int h])).length) Slot.unset).toArray = ls at hl ⊢
  have hl : lv_has ls 3 [(0, .ref (q 0)), (1, .int (nI R)), (2, .int h)] := hl
  obtain ⟨OUT, hO⟩ : ∃ z, z = F_X6_comesNow w R h := ⟨_, rfl⟩
  have hF := hO
  unfold F_X6_comesNow at hF
  refine lv_aload_n hx hb dX6_comesNow_0 rfl (lv_at hl 0 rfl) ?_
  refine va_get (D := (dC, dI)) (ci := 6) (v := .ref (q 1)) (C := RX6) (T := TX6) (N := 14) hx hb hts hin hown hK hP 0 rfl rfl 0 (by decide) lk7 (fun _ h9 => h9) rfl dX6_comesNow_1 ?_
  refine lv_iload_n hx hb dX6_comesNow_4 rfl (lv_at hl 1 rfl) ?_
  refine lv_iconst (v := nI 1) hx hb dX6_comesNow_5 (by decide) ?_
  refine qv_iadd hx hb (R + 1) dX6_comesNow_6 (by omega) ?_
  refine qv_ald (v := w (R + 1)) hx hb hK hP 1 0 rfl rfl (by omega) (by decide) (rfl) dX6_comesNow_7 ?_
  refine lv_iload_n hx hb dX6_comesNow_8 rfl (lv_at hl 2 rfl) ?_
  refine lv_aload_n hx hb dX6_comesNow_9 rfl (lv_at hl 0 rfl) ?_
  refine va_get (D := (dC, dI)) (ci := 6) (v := .ref (q 1)) (C := RX6) (T := TX6) (N := 14) hx hb hts hin hown hK hP 0 rfl rfl 0 (by decide) lk7 (fun _ h9 => h9) rfl dX6_comesNow_10 ?_
  refine lv_iload_n hx hb dX6_comesNow_13 rfl (lv_at hl 1 rfl) ?_
  refine lv_iconst (v := nI 4) hx hb dX6_comesNow_14 (by decide) ?_
  refine qv_iadd hx hb (R + 4) dX6_comesNow_15 (by omega) ?_
  refine qv_ald (v := w (R + 4)) hx hb hK hP 1 0 rfl rfl (by omega) (by decide) (rfl) dX6_comesNow_16 ?_
  refine lv_iconst (v := nI 1) hx hb dX6_comesNow_17 (by decide) ?_
  refine lv_iadd hx hb dX6_comesNow_18 ?_
  refine qc_Si (As := [.int (w (R + 1)), .int h, .int ((w (R + 4)) + (nI 1))]) (rest := []) ⟨hx, hb, hml, hown, hts⟩ (c_X6_comesTo l (w (R + 1)) h ((w (R + 4)) + (nI 1))) (va_cwS 3 hts gX6_comesNow_X6_comesTo rfl rfl rfl (by decide +kernel) ⟨Nat.le_of_ble_eq_true rfl, Nat.le_of_ble_eq_true rfl⟩) rfl hl.1 rfl (Nat.le_of_ble_eq_true rfl) dX6_comesNow_19 ⟨Nat.zero_le _, Nat.zero_le _⟩ (fun r_19 hw_19 => ?_)
  subst hw_19
  have hP9 : va_P (dC, dI) vwCl (mW q cI cZ w kp tx td ab be su po st nu li fi ga hh) s.heap := hP
  exact W.iret (v := F_X6_comesTo (w (R + 1)) h ((w (R + 4)) + (nI 1))) hx hb hr (fun t ht hW => ⟨⟨_, (()), rfl, hO.symm.trans hF, by rw [ht]; exact hP9, va_K.moved hW.alike hK, hD⟩, hS.F ht⟩) hS.2.2 dX6_comesNow_22
def F_X6_runsNow (w : Nat → Int32) (R : Nat) (g : Int32) : Int32 := F_X6_runsBy (w (R + tN (w (R + 2)) + 5)) (w (R + tN (w (R + 2)) + 11)) g
set_option maxHeartbeats 4000000 in
set_option maxRecDepth 100000 in
theorem c_X6_runsNow (l : Launch) (dC : Nat → ClassId) (dI : Nat → Nat → Nat) (q : Nat → Nat) (cI cZ : ClassId) (sz : Nat) (w : Nat → Int32) (kp : Nat → Int32) (tx : Nat → Int32) (td : Int32) (ab : Int64) (be : Int64) (su : Nat → Int32) (po : Int32) (st : Int32) (nu : Int32) (li : Nat → Int32) (fi : Nat → Int32) (ga : Nat → Int32) (hh : Int64) (R : Nat) (g : Int32) (hR : R + 32 ≤ 624) (pN : inB (w (R + 2)) 5) : Met l yX6_runsNow wsX6_runsNow { frames := 3, cells := 0, slots := 0, locals := 64 } (mPc (dC, dI) vwCl (mT cI cZ) (mW q cI cZ w kp tx td ab be su po st nu li fi ga hh) sz [.ref (q 0), .int (nI R), .int g]) (va_Qi (fun (r : Int32) (u : Unit) => F_X6_runsNow w R g = r) (mB (dC, dI) vwCl (mT cI cZ) (va_A (mW q cI cZ w kp tx td ab be su po st nu li fi ga hh) sz) (fun u => mW q cI cZ w kp tx td ab be su po st nu li fi ga hh)) (va_A (mW q cI cZ w kp tx td ab be su po st nu li fi ga hh) sz)) 0 0 (va_A (mW q cI cZ w kp tx td ab be su po st nu li fi ga hh) sz) := by
  refine Met.ofW (cc := cX6_runsNow) (maxL := 4) (ret := (some .int)) (by decide) rfl ?_
  intro p e s m args below meth c s₁ B hml hv
  obtain ⟨rfl, hsz, hP, hK, hD0⟩ := hv
  have hx := B.exec
  have hb := B.bytes
  have hr := B.returns
  have hts := atoms_spec (ws := wsX6_runsNow) B.pre
  have hown : s.vm.findClass RX6 = some m.cls := findClass_of_methodNamed B.named
  have hlocks := B.notSynchronized
  subst hsz
  have hD := hD0.self (sz := s.heap.size)
  generalize hAe : va_A (mW q cI cZ w kp tx td ab be su po st nu li fi ga hh) s.heap.size = A at hD ⊢
  have hA : ∀ q : Nat, s.heap.size ≤ q → A q := fun q h => by rw [← hAe]; exact Or.inr h
  have hS : va_S A s.heap s.heap [] := va_S.rf
  have hin : ∀ w ∈ wsX60, w ∈ wsX6_runsNow := by decide +kernel
  have lk7 := hts (.fieldLink RX6 7 "PostRoundersModel" "w" "[I") (by decide +kernel)
  have hl := lv_entry ([.ref (q 0), .int (nI R), .int g]) (n := 4) (Nat.le_of_ble_eq_true rfl)
  rw [lg_entry_eq]
  generalize (lg_sl ([.ref (q 0), .int (nI R), .int g]) ++ List.replicate (4 - (lg_sl ([.ref (q 0), .int (nI R), .int g])).length) Slot.unset).toArray = ls at hl ⊢
  have hl : lv_has ls 4 [(0, .ref (q 0)), (1, .int (nI R)), (2, .int g)] := hl
  obtain ⟨OUT, hO⟩ : ∃ z, z = F_X6_runsNow w R g := ⟨_, rfl⟩
  have hF := hO
  unfold F_X6_runsNow at hF
  have e_pN := tN_eq pN.1
  have b_pN := pN.2
  refine lv_aload_n hx hb dX6_runsNow_0 rfl (lv_at hl 0 rfl) ?_
  refine va_get (D := (dC, dI)) (ci := 6) (v := .ref (q 1)) (C := RX6) (T := TX6) (N := 14) hx hb hts hin hown hK hP 0 rfl rfl 0 (by decide) lk7 (fun _ h9 => h9) rfl dX6_runsNow_1 ?_
  refine lv_iload_n hx hb dX6_runsNow_4 rfl (lv_at hl 1 rfl) ?_
  refine lv_iconst (v := nI 2) hx hb dX6_runsNow_5 (by decide) ?_
  refine qv_iadd hx hb (R + 2) dX6_runsNow_6 (by omega) ?_
  refine qv_ald (v := w (R + 2)) hx hb hK hP 1 0 rfl rfl (by omega) (by decide) (rfl) dX6_runsNow_7 ?_
  refine qv_top (e_pN) ?_
  refine lv_istore_n (lv' := [(3, .int (nI (tN (w (R + 2))))), (0, .ref (q 0)), (1, .int (nI R)), (2, .int g)]) hx hb dX6_runsNow_8 rfl hl (by decide) rfl (fun ls hl => ?_)
  refine lv_aload_n hx hb dX6_runsNow_9 rfl (lv_at hl 1 rfl) ?_
  refine va_get (D := (dC, dI)) (ci := 6) (v := .ref (q 1)) (C := RX6) (T := TX6) (N := 14) hx hb hts hin hown hK hP 0 rfl rfl 0 (by decide) lk7 (fun _ h9 => h9) rfl dX6_runsNow_10 ?_
  refine lv_iload_n hx hb dX6_runsNow_13 rfl (lv_at hl 2 rfl) ?_
  refine lv_iconst (v := nI 5) hx hb dX6_runsNow_14 (by decide) ?_
  refine qv_iadd hx hb (R + 5) dX6_runsNow_15 (by omega) ?_
  refine lv_iload_n hx hb dX6_runsNow_16 rfl (lv_at hl 0 rfl) ?_
  refine qv_iadd hx hb (R + tN (w (R + 2)) + 5) dX6_runsNow_17 (by omega) ?_
  refine qv_ald (v := w (R + tN (w (R + 2)) + 5)) hx hb hK hP 1 0 rfl rfl (by omega) (by decide) (rfl) dX6_runsNow_18 ?_
  refine lv_aload_n hx hb dX6_runsNow_19 rfl (lv_at hl 1 rfl) ?_
  refine va_get (D := (dC, dI)) (ci := 6) (v := .ref (q 1)) (C := RX6) (T := TX6) (N := 14) hx hb hts hin hown hK hP 0 rfl rfl 0 (by decide) lk7 (fun _ h9 => h9) rfl dX6_runsNow_20 ?_
  refine lv_iload_n hx hb dX6_runsNow_23 rfl (lv_at hl 2 rfl) ?_
  refine lv_bipush (v := nI 11) hx hb dX6_runsNow_24 (by decide) ?_
  refine qv_iadd hx hb (R + 11) dX6_runsNow_26 (by omega) ?_
  refine lv_iload_n hx hb dX6_runsNow_27 rfl (lv_at hl 0 rfl) ?_
  refine qv_iadd hx hb (R + tN (w (R + 2)) + 11) dX6_runsNow_28 (by omega) ?_
  refine qv_ald (v := w (R + tN (w (R + 2)) + 11)) hx hb hK hP 1 0 rfl rfl (by omega) (by decide) (rfl) dX6_runsNow_29 ?_
  refine lv_iload_n hx hb dX6_runsNow_30 rfl (lv_at hl 3 rfl) ?_
  refine qc_Si (As := [.int (w (R + tN (w (R + 2)) + 5)), .int (w (R + tN (w (R + 2)) + 11)), .int g]) (rest := []) ⟨hx, hb, hml, hown, hts⟩ (c_X6_runsBy l (w (R + tN (w (R + 2)) + 5)) (w (R + tN (w (R + 2)) + 11)) g) (va_cwS 3 hts gX6_runsNow_X6_runsBy rfl rfl rfl (by decide +kernel) ⟨Nat.le_of_ble_eq_true rfl, Nat.le_of_ble_eq_true rfl⟩) rfl hl.1 rfl (Nat.le_of_ble_eq_true rfl) dX6_runsNow_31 ⟨Nat.zero_le _, Nat.zero_le _⟩ (fun r_31 hw_31 => ?_)
  subst hw_31
  have hP9 : va_P (dC, dI) vwCl (mW q cI cZ w kp tx td ab be su po st nu li fi ga hh) s.heap := hP
  exact W.iret (v := F_X6_runsBy (w (R + tN (w (R + 2)) + 5)) (w (R + tN (w (R + 2)) + 11)) g) hx hb hr (fun t ht hW => ⟨⟨_, (()), rfl, hO.symm.trans hF, by rw [ht]; exact hP9, va_K.moved hW.alike hK, hD⟩, hS.F ht⟩) hS.2.2 dX6_runsNow_34
def F_X6_bats_L63 : Nat → (Nat) → (Nat → Int32) → (Int32) → (Nat) → (Nat) → (Nat → Int32) → (Nat) × (Nat) × (Nat → Int32)
  | 0, _, _, _, k, mo, w1 => (k, mo, w1)
  | n_63 + 1, R, w, r_55, k, mo, w1 => if tN (w R) ≤ k then (k, mo, w1) else (if k = tN (w (R + 2)) then (if ((w1 (R + k + 17)) + r_55) ≤ (nI 3) then F_X6_bats_L63 n_63 R w r_55 (k + 1) mo (upd w1 (R + k + 17) ((w1 (R + k + 17)) + r_55)) else F_X6_bats_L63 n_63 R w r_55 (k + 1) (mo + 2) (upd w1 (R + k + 17) (nI 0))) else (if (F_X6_in ((w1 (R + k + 17)).toInt64) 1 3) = true then (if ((w1 (R + k + 17)) + r_55) ≤ (nI 3) then F_X6_bats_L63 n_63 R w r_55 (k + 1) mo (upd w1 (R + k + 17) ((w1 (R + k + 17)) + r_55)) else F_X6_bats_L63 n_63 R w r_55 (k + 1) (mo + 1) (upd w1 (R + k + 17) (nI 0))) else F_X6_bats_L63 n_63 R w r_55 (k + 1) mo w1))
def F_X6_bats (w : Nat → Int32) (R : Nat) (h : Int32) : Int32 × (Nat → Int32) := let1 (F_X6_comesNow w R h) (fun r_3 => if r_3 = 0 then let1 (F_X6_nextOf (upd (upd w (R + 4) ((w (R + 4)) + (nI 1))) (R + tN (w (R + 2)) + 17) (nI 4)) R) (fun w_186 => (nI 0, w_186)) else let1 (F_X6_runsNow (upd w (R + 4) ((w (R + 4)) + (nI 1))) R r_3) (fun r_55 => let3 (F_X6_bats_L63 7 R w r_55 0 0 (upd w (R + 4) ((w (R + 4)) + (nI 1)))) (fun k mo w1 => let1 (F_X6_nextOf w1 R) (fun w_186 => (nI mo, w_186)))))
set_option maxHeartbeats 4000000 in
set_option maxRecDepth 100000 in
theorem c_X6_bats (l : Launch) (dC : Nat → ClassId) (dI : Nat → Nat → Nat) (q : Nat → Nat) (cI cZ : ClassId) (sz : Nat) (w : Nat → Int32) (kp : Nat → Int32) (tx : Nat → Int32) (td : Int32) (ab : Int64) (be : Int64) (su : Nat → Int32) (po : Int32) (st : Int32) (nu : Int32) (li : Nat → Int32) (fi : Nat → Int32) (ga : Nat → Int32) (hh : Int64) (R : Nat) (h : Int32) (hR : R + 32 ≤ 624) (pB : inB (w R) 6) (pN : inB (w (R + 2)) 5) : Met l yX6_bats wsX6_bats { frames := 4, cells := 0, slots := 0, locals := 87 } (mPc (dC, dI) vwCl (mT cI cZ) (mW q cI cZ w kp tx td ab be su po st nu li fi ga hh) sz [.ref (q 0), .int (nI R), .int h]) (va_Qi (fun (r : Int32) (u : (Nat → Int32)) => F_X6_bats w R h = (r, u)) (mB (dC, dI) vwCl (mT cI cZ) (va_A (mW q cI cZ w kp tx td ab be su po st nu li fi ga hh) sz) (fun u => mW q cI cZ u kp tx td ab be su po st nu li fi ga hh)) (va_A (mW q cI cZ w kp tx td ab be su po st nu li fi ga hh) sz)) 0 0 (va_A (mW q cI cZ w kp tx td ab be su po st nu li fi ga hh) sz) := by
  refine Met.ofW (cc := cX6_bats) (maxL := 10) (ret := (some .int)) (by decide) rfl ?_
  intro p e s m args below meth c s₁ B hml hv
  obtain ⟨rfl, hsz, hP, hK, hD0⟩ := hv
  have hx := B.exec
  have hb := B.bytes
  have hr := B.returns
  have hts := atoms_spec (ws := wsX6_bats) B.pre
  have hown : s.vm.findClass RX6 = some m.cls := findClass_of_methodNamed B.named
  have hlocks := B.notSynchronized
  subst hsz
  have hD := hD0.self (sz := s.heap.size)
  generalize hAe : va_A (mW q cI cZ w kp tx td ab be su po st nu li fi ga hh) s.heap.size = A at hD ⊢
  have hA : ∀ q : Nat, s.heap.size ≤ q → A q := fun q h => by rw [← hAe]; exact Or.inr h
  have hS : va_S A s.heap s.heap [] := va_S.rf
  have hin : ∀ w ∈ wsX60, w ∈ wsX6_bats := by decide +kernel
  have lk7 := hts (.fieldLink RX6 7 "PostRoundersModel" "w" "[I") (by decide +kernel)
  have hl := lv_entry ([.ref (q 0), .int (nI R), .int h]) (n := 10) (Nat.le_of_ble_eq_true rfl)
  rw [lg_entry_eq]
  generalize (lg_sl ([.ref (q 0), .int (nI R), .int h]) ++ List.replicate (10 - (lg_sl ([.ref (q 0), .int (nI R), .int h])).length) Slot.unset).toArray = ls at hl ⊢
  have hl : lv_has ls 10 [(0, .ref (q 0)), (1, .int (nI R)), (2, .int h)] := hl
  obtain ⟨OUT, hO⟩ : ∃ z, z = F_X6_bats w R h := ⟨_, rfl⟩
  have hF := hO
  unfold F_X6_bats at hF
  have e_pB := tN_eq pB.1
  have b_pB := pB.2
  have e_pN := tN_eq pN.1
  have b_pN := pN.2
  refine lv_aload_n hx hb dX6_bats_0 rfl (lv_at hl 0 rfl) ?_
  refine lv_iload_n hx hb dX6_bats_1 rfl (lv_at hl 1 rfl) ?_
  refine lv_iload_n hx hb dX6_bats_2 rfl (lv_at hl 2 rfl) ?_
  refine qc_Vi (C := RX6) (As := [.int (nI R), .int h]) (rest := []) (ci := 6) (k0 := 0) ⟨hx, hb, hml, hown, hts⟩ (c_X6_comesNow l dC dI q cI cZ s.heap.size w kp tx td ab be su po st nu li fi ga hh R h (by omega)) (cwV 2 hts gX6_bats_X6_comesNow rfl rfl rfl (by decide +kernel) ⟨Nat.le_of_ble_eq_true rfl, Nat.le_of_ble_eq_true rfl⟩) hK hP hD hS hA rfl rfl rfl rfl hl.1 rfl (Nat.le_of_ble_eq_true rfl) dX6_bats_3 ⟨Nat.zero_le _, Nat.zero_le _⟩ (fun r_3 u_3 H locs hw_3 hP hD hS => ?_)
  rw [hw_3, let1_mk r_3] at hF
  refine lv_istore_n (lv' := [(3, .int r_3), (0, .ref (q 0)), (1, .int (nI R)), (2, .int h)]) hx hb dX6_bats_6 rfl hl (by decide) rfl (fun ls hl => ?_)
  refine lv_aload_n hx hb dX6_bats_7 rfl (lv_at hl 1 rfl) ?_
  refine va_get (D := (dC, dI)) (ci := 6) (v := .ref (q 1)) (C := RX6) (T := TX6) (N := 14) hx hb hts hin hown hK hP 0 rfl rfl 0 (by decide) lk7 (fun _ h9 => h9) rfl dX6_bats_8 ?_
  refine lv_iload_n hx hb dX6_bats_11 rfl (lv_at hl 2 rfl) ?_
  refine lv_iconst (v := nI 2) hx hb dX6_bats_12 (by decide) ?_
  refine qv_iadd hx hb (R + 2) dX6_bats_13 (by omega) ?_
  refine qv_ald (v := w (R + 2)) hx hb hK hP 1 0 rfl rfl (by omega) (by decide) (rfl) dX6_bats_14 ?_
  refine qv_top (e_pN) ?_
  refine lv_istore (lv' := [(4, .int (nI (tN (w (R + 2))))), (3, .int r_3), (0, .ref (q 0)), (1, .int (nI R)), (2, .int h)]) hx hb dX6_bats_15 hl (by decide) rfl (fun ls hl => ?_)
  refine lv_iconst (v := nI 0) hx hb dX6_bats_17 (by decide) ?_
  refine lv_istore (lv' := [(5, .int (nI 0)), (4, .int (nI (tN (w (R + 2))))), (3, .int r_3), (0, .ref (q 0)), (1, .int (nI R)), (2, .int h)]) hx hb dX6_bats_18 hl (by decide) rfl (fun ls hl => ?_)
  refine lv_aload_n hx hb dX6_bats_20 rfl (lv_at hl 3 rfl) ?_
  refine va_get (D := (dC, dI)) (ci := 6) (v := .ref (q 1)) (C := RX6) (T := TX6) (N := 14) hx hb hts hin hown hK hP 0 rfl rfl 0 (by decide) lk7 (fun _ h9 => h9) rfl dX6_bats_21 ?_
  refine lv_iload_n hx hb dX6_bats_24 rfl (lv_at hl 4 rfl) ?_
  refine lv_iconst (v := nI 4) hx hb dX6_bats_25 (by decide) ?_
  refine qv_iadd hx hb (R + 4) dX6_bats_26 (by omega) ?_
  refine lv_dup2_11 hx hb dX6_bats_27 rfl rfl ?_
  refine qv_ald (v := w (R + 4)) hx hb hK hP 1 0 rfl rfl (by omega) (by decide) (rfl) dX6_bats_28 ?_
  refine lv_iconst (v := nI 1) hx hb dX6_bats_29 (by decide) ?_
  refine lv_iadd hx hb dX6_bats_30 ?_
  refine qv_ast (ws' := mW q cI cZ (upd w (R + 4) ((w (R + 4)) + (nI 1))) kp tx td ab be su po st nu li fi ga hh) hx hb hK hP hD hS 1 0 rfl rfl (by omega) (by decide) dX6_bats_31 rfl (fun H locs hP hD hS => ?_)
  refine lv_iload_n hx hb dX6_bats_32 rfl (lv_at hl 2 rfl) ?_
  refine lv_if_ne (tgt := 52) hx hb dX6_bats_33 (by decide) (fun c_33 => ?_) (fun c_33 => ?_)
  · rw [if_neg c_33] at hF
    refine lv_aload_n hx hb dX6_bats_52 rfl (lv_at hl 3 rfl) ?_
    refine lv_iload_n hx hb dX6_bats_53 rfl (lv_at hl 4 rfl) ?_
    refine lv_iload_n hx hb dX6_bats_54 rfl (lv_at hl 2 rfl) ?_
    refine qc_Vi (C := RX6) (As := [.int (nI R), .int r_3]) (rest := []) (ci := 6) (k0 := 0) ⟨hx, hb, hml, hown, hts⟩ (c_X6_runsNow l dC dI q cI cZ H.size (upd w (R + 4) ((w (R + 4)) + (nI 1))) kp tx td ab be su po st nu li fi ga hh R r_3 (by omega) (by rw [show (upd w (R + 4) ((w (R + 4)) + (nI 1))) (R + 2) = w (R + 2) from pk_un (by omega)]; exact (pN : inB (w (R + 2)) 5))) (cwV 2 hts gX6_bats_X6_runsNow rfl rfl rfl (by decide +kernel) ⟨Nat.le_of_ble_eq_true rfl, Nat.le_of_ble_eq_true rfl⟩) hK hP hD hS hA rfl rfl rfl rfl hl.1 rfl (Nat.le_of_ble_eq_true rfl) dX6_bats_55 ⟨Nat.zero_le _, Nat.zero_le _⟩ (fun r_55 u_55 H locs hw_55 hP hD hS => ?_)
    rw [hw_55, let1_mk r_55] at hF
    refine lv_istore (lv' := [(6, .int r_55), (5, .int (nI 0)), (4, .int (nI (tN (w (R + 2))))), (3, .int r_3), (0, .ref (q 0)), (1, .int (nI R)), (2, .int h)]) hx hb dX6_bats_58 hl (by decide) rfl (fun ls hl => ?_)
    refine lv_iconst (v := nI 0) hx hb dX6_bats_60 (by decide) ?_
    refine lv_istore (lv' := [(7, .int (nI 0)), (6, .int r_55), (5, .int (nI 0)), (4, .int (nI (tN (w (R + 2))))), (3, .int r_3), (0, .ref (q 0)), (1, .int (nI R)), (2, .int h)]) hx hb dX6_bats_61 hl (by decide) rfl (fun ls hl => ?_)
    have L_63 : ∀ (n_63 : Nat) (k : Nat) (mo : Nat) (w1 : Nat → Int32) (H : Heap) (locs : List Loc), k ≤ tN (w R) → w1 R = w R → w1 (R + 2) = w (R + 2) → tN (w R) - k < n_63 → va_P (dC, dI) vwCl (mW q cI cZ w1 kp tx td ab be su po st nu li fi ga hh) H → va_D A (mW q cI cZ w1 kp tx td ab be su po st nu li fi ga hh) → va_S A s.heap H locs → ∀ (ls : Array Slot), lv_has ls 10 [(7, .int (nI k)), (6, .int r_55), (5, .int (nI mo)), (4, .int (nI (tN (w (R + 2))))), (3, .int r_3), (0, .ref (q 0)), (1, .int (nI R)), (2, .int h)] → OUT = let3 (F_X6_bats_L63 n_63 R w r_55 k mo w1) (fun k mo w1 => let1 (F_X6_nextOf w1 R) (fun w_186 => (nI mo, w_186))) → W p l e (headSpec wsX6_bats { frames := 4, cells := 0, slots := 0, locals := 87 }).room s m ([.ref (q 0), .int (nI R), .int h] : List Value).toArray below meth c H locs 0 0 (MQ below (va_Qi (fun (r : Int32) (u : (Nat → Int32)) => F_X6_bats w R h = (r, u)) (mB (dC, dI) vwCl (mT cI cZ) A (fun u => mW q cI cZ u kp tx td ab be su po st nu li fi ga hh)) A) ([.ref (q 0), .int (nI R), .int h] : List Value).toArray s 0 0 A) (F0 m 63 ls []) := by
      intro n_63
      induction n_63 with
      | zero => intro k mo w1 H locs i0 i1 i2 hmu; exact absurd hmu (Nat.not_lt_zero _)
      | succ n_63 ih_63 =>
        intro k mo w1 H locs i0 i1 i2 hmu_63 hP hD hS ls hl hF
        rw [F_X6_bats_L63] at hF
        refine lv_iload hx hb dX6_bats_63 (lv_at hl 0 rfl) ?_
        refine lv_aload_n hx hb dX6_bats_65 rfl (lv_at hl 5 rfl) ?_
        refine va_get (D := (dC, dI)) (ci := 6) (v := .ref (q 1)) (C := RX6) (T := TX6) (N := 14) hx hb hts hin hown hK hP 0 rfl rfl 0 (by decide) lk7 (fun _ h9 => h9) rfl dX6_bats_66 ?_
        refine lv_iload_n hx hb dX6_bats_69 rfl (lv_at hl 6 rfl) ?_
        refine lv_iconst (v := nI 0) hx hb dX6_bats_70 (by decide) ?_
        refine qv_iadd hx hb (R) dX6_bats_71 (by omega) ?_
        refine qv_ald (v := w1 R) hx hb hK hP 1 0 rfl rfl (by omega) (by decide) (rfl) dX6_bats_72 ?_
        refine qv_top (i1.trans (e_pB)) ?_
        refine qv_icmp_ge (tgt := 184) hx hb dX6_bats_73 (by decide) (by omega) (by omega) (fun c_73 => ?_) (fun c_73 => ?_)
        · rw [if_pos c_73] at hF
          rw [let3_mk (k : Nat) (mo : Nat) (w1 : Nat → Int32)] at hF
          refine lv_aload_n hx hb dX6_bats_184 rfl (lv_at hl 5 rfl) ?_
          refine lv_iload_n hx hb dX6_bats_185 rfl (lv_at hl 6 rfl) ?_
          refine qc_Vv (C := RX6) (As := [.int (nI R)]) (rest := []) (ci := 6) (k0 := 0) ⟨hx, hb, hml, hown, hts⟩ (c_X6_nextOf l dC dI q cI cZ H.size w1 kp tx td ab be su po st nu li fi ga hh R (by omega) (by rw [i1]; exact pB : inB (w1 R) 6) (by rw [i2]; exact pN : inB (w1 (R + 2)) 5)) (cwV 1 hts gX6_bats_X6_nextOf rfl rfl rfl (by decide +kernel) ⟨Nat.le_of_ble_eq_true rfl, Nat.le_of_ble_eq_true rfl⟩) hK hP hD hS hA rfl rfl rfl rfl hl.1 rfl (Nat.le_of_ble_eq_true rfl) dX6_bats_186 ⟨Nat.zero_le _, Nat.zero_le _⟩ (fun u_186 H locs hw_186 hP hD hS => ?_)
          obtain ⟨w_186, rfl⟩ : ∃ z, z = u_186 := ⟨_, rfl⟩
          have hP : va_P (dC, dI) vwCl (mW q cI cZ w_186 kp tx td ab be su po st nu li fi ga hh) H := hP
          have hD : va_D A (mW q cI cZ w_186 kp tx td ab be su po st nu li fi ga hh) := hD
          rw [hw_186, let1_mk w_186] at hF
          refine lv_iload hx hb dX6_bats_189 (lv_at hl 2 rfl) ?_
          have hP9 : va_P (dC, dI) vwCl (mW q cI cZ w_186 kp tx td ab be su po st nu li fi ga hh) H := hP
          exact W.iret (v := nI mo) hx hb hr (fun t ht hW => ⟨⟨_, (w_186), rfl, hO.symm.trans hF, by rw [ht]; exact hP9, va_K.moved hW.alike hK, hD⟩, hS.F ht⟩) hS.2.2 dX6_bats_191
        · rw [if_neg c_73] at hF
          refine lv_aload_n hx hb dX6_bats_76 rfl (lv_at hl 5 rfl) ?_
          refine va_get (D := (dC, dI)) (ci := 6) (v := .ref (q 1)) (C := RX6) (T := TX6) (N := 14) hx hb hts hin hown hK hP 0 rfl rfl 0 (by decide) lk7 (fun _ h9 => h9) rfl dX6_bats_77 ?_
          refine lv_iload_n hx hb dX6_bats_80 rfl (lv_at hl 6 rfl) ?_
          refine lv_bipush (v := nI 17) hx hb dX6_bats_81 (by decide) ?_
          refine qv_iadd hx hb (R + 17) dX6_bats_83 (by omega) ?_
          refine lv_iload hx hb dX6_bats_84 (lv_at hl 0 rfl) ?_
          refine qv_iadd hx hb (R + k + 17) dX6_bats_86 (by omega) ?_
          refine qv_ald (v := w1 (R + k + 17)) hx hb hK hP 1 0 rfl rfl (by omega) (by decide) (rfl) dX6_bats_87 ?_
          refine lv_istore (lv' := [(8, .int (w1 (R + k + 17))), (7, .int (nI k)), (6, .int r_55), (5, .int (nI mo)), (4, .int (nI (tN (w (R + 2))))), (3, .int r_3), (0, .ref (q 0)), (1, .int (nI R)), (2, .int h)]) hx hb dX6_bats_88 hl (by decide) rfl (fun ls hl => ?_)
          refine lv_iload hx hb dX6_bats_90 (lv_at hl 1 rfl) ?_
          refine lv_iload hx hb dX6_bats_92 (lv_at hl 4 rfl) ?_
          refine qv_icmp_eq (tgt := 110) hx hb dX6_bats_94 (by decide) (by omega) (by omega) (fun c_94 => ?_) (fun c_94 => ?_)
          · rw [if_pos c_94] at hF
            refine lv_iload hx hb dX6_bats_110 (lv_at hl 0 rfl) ?_
            refine lv_iload hx hb dX6_bats_112 (lv_at hl 2 rfl) ?_
            refine lv_iadd hx hb dX6_bats_114 ?_
            refine lv_iconst (v := nI 3) hx hb dX6_bats_115 (by decide) ?_
            refine lv_icmp_le (tgt := 123) hx hb dX6_bats_116 (by decide) (fun c_116 => ?_) (fun c_116 => ?_)
            · rw [if_pos c_116] at hF
              refine lv_iconst (v := nI 0) hx hb dX6_bats_123 (by decide) ?_
              refine lv_istore (lv' := [(9, .int (nI 0)), (8, .int (w1 (R + k + 17))), (7, .int (nI k)), (6, .int r_55), (5, .int (nI mo)), (4, .int (nI (tN (w (R + 2))))), (3, .int r_3), (0, .ref (q 0)), (1, .int (nI R)), (2, .int h)]) hx hb dX6_bats_124 hl (by decide) rfl (fun ls hl => ?_)
              refine lv_aload_n hx hb dX6_bats_126 rfl (lv_at hl 7 rfl) ?_
              refine va_get (D := (dC, dI)) (ci := 6) (v := .ref (q 1)) (C := RX6) (T := TX6) (N := 14) hx hb hts hin hown hK hP 0 rfl rfl 0 (by decide) lk7 (fun _ h9 => h9) rfl dX6_bats_127 ?_
              refine lv_iload_n hx hb dX6_bats_130 rfl (lv_at hl 8 rfl) ?_
              refine lv_bipush (v := nI 17) hx hb dX6_bats_131 (by decide) ?_
              refine qv_iadd hx hb (R + 17) dX6_bats_133 (by omega) ?_
              refine lv_iload hx hb dX6_bats_134 (lv_at hl 2 rfl) ?_
              refine qv_iadd hx hb (R + k + 17) dX6_bats_136 (by omega) ?_
              refine lv_iload hx hb dX6_bats_137 (lv_at hl 0 rfl) ?_
              refine qv_if_eq (tgt := 146) hx hb dX6_bats_139 (by decide) (by omega) (fun _ => ?_) (fun c_139 => absurd c_139 (by decide))
              refine lv_iload hx hb dX6_bats_146 (lv_at hl 1 rfl) ?_
              refine lv_iload hx hb dX6_bats_148 (lv_at hl 3 rfl) ?_
              refine lv_iadd hx hb dX6_bats_150 ?_
              refine qv_ast (ws' := mW q cI cZ (upd w1 (R + k + 17) ((w1 (R + k + 17)) + r_55)) kp tx td ab be su po st nu li fi ga hh) hx hb hK hP hD hS 1 0 rfl rfl (by omega) (by decide) dX6_bats_151 rfl (fun H locs hP hD hS => ?_)
              refine lv_iload hx hb dX6_bats_152 (lv_at hl 4 rfl) ?_
              refine lv_iload hx hb dX6_bats_154 (lv_at hl 0 rfl) ?_
              refine qv_if_eq (tgt := 174) hx hb dX6_bats_156 (by decide) (by omega) (fun _ => ?_) (fun c_156 => absurd c_156 (by decide))
              refine lv_iconst (v := nI 0) hx hb dX6_bats_174 (by decide) ?_
              refine qv_iadd hx hb (mo) dX6_bats_175 (by omega) ?_
              refine lv_istore (lv' := [(5, .int (nI mo)), (9, .int (nI 0)), (8, .int (w1 (R + k + 17))), (7, .int (nI k)), (6, .int r_55), (4, .int (nI (tN (w (R + 2))))), (3, .int r_3), (0, .ref (q 0)), (1, .int (nI R)), (2, .int h)]) hx hb dX6_bats_176 hl (by decide) rfl (fun ls hl => ?_)
              refine lv_iinc (v := nI (k + 1)) (lv' := [(7, .int (nI (k + 1))), (5, .int (nI mo)), (9, .int (nI 0)), (8, .int (w1 (R + k + 17))), (6, .int r_55), (4, .int (nI (tN (w (R + 2))))), (3, .int r_3), (0, .ref (q 0)), (1, .int (nI R)), (2, .int h)]) hx hb dX6_bats_178 hl (k := 3) rfl (qn_inc (c := 1) rfl (by omega)) (by decide) rfl (fun ls hl => ?_)
              refine lv_goto (tgt := 63) hx hb dX6_bats_181 (by decide) ?_
              exact ih_63 (k + 1) mo (upd w1 (R + k + 17) ((w1 (R + k + 17)) + r_55)) H locs (by omega) ((pk_un (by omega)).trans i1) ((pk_un (by omega)).trans i2) (by omega) hP hD hS ls (lv_sub hl [0, 4, 1, 5, 6, 7, 8, 9] rfl) hF
            · rw [if_neg c_116] at hF
              refine lv_iconst (v := nI 1) hx hb dX6_bats_119 (by decide) ?_
              refine lv_goto (tgt := 124) hx hb dX6_bats_120 (by decide) ?_
              refine lv_istore (lv' := [(9, .int (nI 1)), (8, .int (w1 (R + k + 17))), (7, .int (nI k)), (6, .int r_55), (5, .int (nI mo)), (4, .int (nI (tN (w (R + 2))))), (3, .int r_3), (0, .ref (q 0)), (1, .int (nI R)), (2, .int h)]) hx hb dX6_bats_124 hl (by decide) rfl (fun ls hl => ?_)
              refine lv_aload_n hx hb dX6_bats_126 rfl (lv_at hl 7 rfl) ?_
              refine va_get (D := (dC, dI)) (ci := 6) (v := .ref (q 1)) (C := RX6) (T := TX6) (N := 14) hx hb hts hin hown hK hP 0 rfl rfl 0 (by decide) lk7 (fun _ h9 => h9) rfl dX6_bats_127 ?_
              refine lv_iload_n hx hb dX6_bats_130 rfl (lv_at hl 8 rfl) ?_
              refine lv_bipush (v := nI 17) hx hb dX6_bats_131 (by decide) ?_
              refine qv_iadd hx hb (R + 17) dX6_bats_133 (by omega) ?_
              refine lv_iload hx hb dX6_bats_134 (lv_at hl 2 rfl) ?_
              refine qv_iadd hx hb (R + k + 17) dX6_bats_136 (by omega) ?_
              refine lv_iload hx hb dX6_bats_137 (lv_at hl 0 rfl) ?_
              refine qv_if_eq (tgt := 146) hx hb dX6_bats_139 (by decide) (by omega) (fun c_139 => absurd c_139 (by decide)) (fun _ => ?_)
              refine lv_iconst (v := nI 0) hx hb dX6_bats_142 (by decide) ?_
              refine lv_goto (tgt := 151) hx hb dX6_bats_143 (by decide) ?_
              refine qv_ast (ws' := mW q cI cZ (upd w1 (R + k + 17) (nI 0)) kp tx td ab be su po st nu li fi ga hh) hx hb hK hP hD hS 1 0 rfl rfl (by omega) (by decide) dX6_bats_151 rfl (fun H locs hP hD hS => ?_)
              refine lv_iload hx hb dX6_bats_152 (lv_at hl 4 rfl) ?_
              refine lv_iload hx hb dX6_bats_154 (lv_at hl 0 rfl) ?_
              refine qv_if_eq (tgt := 174) hx hb dX6_bats_156 (by decide) (by omega) (fun c_156 => absurd c_156 (by decide)) (fun _ => ?_)
              refine lv_iload hx hb dX6_bats_159 (lv_at hl 2 rfl) ?_
              refine lv_iload hx hb dX6_bats_161 (lv_at hl 5 rfl) ?_
              refine qv_icmp_ne (tgt := 170) hx hb dX6_bats_163 (by decide) (by omega) (by omega) (fun c_163 => absurd c_94 c_163) (fun _ => ?_)
              refine lv_iconst (v := nI 2) hx hb dX6_bats_166 (by decide) ?_
              refine lv_goto (tgt := 175) hx hb dX6_bats_167 (by decide) ?_
              refine qv_iadd hx hb (mo + 2) dX6_bats_175 (by omega) ?_
              refine lv_istore (lv' := [(5, .int (nI (mo + 2))), (9, .int (nI 1)), (8, .int (w1 (R + k + 17))), (7, .int (nI k)), (6, .int r_55), (4, .int (nI (tN (w (R + 2))))), (3, .int r_3), (0, .ref (q 0)), (1, .int (nI R)), (2, .int h)]) hx hb dX6_bats_176 hl (by decide) rfl (fun ls hl => ?_)
              refine lv_iinc (v := nI (k + 1)) (lv' := [(7, .int (nI (k + 1))), (5, .int (nI (mo + 2))), (9, .int (nI 1)), (8, .int (w1 (R + k + 17))), (6, .int r_55), (4, .int (nI (tN (w (R + 2))))), (3, .int r_3), (0, .ref (q 0)), (1, .int (nI R)), (2, .int h)]) hx hb dX6_bats_178 hl (k := 3) rfl (qn_inc (c := 1) rfl (by omega)) (by decide) rfl (fun ls hl => ?_)
              refine lv_goto (tgt := 63) hx hb dX6_bats_181 (by decide) ?_
              exact ih_63 (k + 1) (mo + 2) (upd w1 (R + k + 17) (nI 0)) H locs (by omega) ((pk_un (by omega)).trans i1) ((pk_un (by omega)).trans i2) (by omega) hP hD hS ls (lv_sub hl [0, 4, 1, 5, 6, 7, 8, 9] rfl) hF
          · rw [if_neg c_94] at hF
            refine lv_iload hx hb dX6_bats_97 (lv_at hl 0 rfl) ?_
            refine lv_i2l hx hb dX6_bats_99 rfl ?_
            refine lv_lconst (v := 1) hx hb dX6_bats_100 (by decide) ?_
            refine lv_ldc2 (v := 3) hx hb hown (hts (.constantLong RX6 78 3) (by decide +kernel)) dX6_bats_101 ?_
            refine qc_Si (As := [.long ((w1 (R + k + 17)).toInt64), .long 1, .long 3]) (rest := []) ⟨hx, hb, hml, hown, hts⟩ (c_X6_in l ((w1 (R + k + 17)).toInt64) 1 3) (va_cwS 3 hts gX6_bats_X6_in rfl rfl rfl (by decide +kernel) ⟨Nat.le_of_ble_eq_true rfl, Nat.le_of_ble_eq_true rfl⟩) rfl hl.1 rfl (Nat.le_of_ble_eq_true rfl) dX6_bats_104 ⟨Nat.zero_le _, Nat.zero_le _⟩ (fun r_104 hw_104 => ?_)
            subst hw_104
            refine qv_zif_eq (tgt := 178) hx hb dX6_bats_107 (by decide) (fun c_107 => ?_) (fun c_107 => ?_)
            · rw [if_neg c_107] at hF
              refine lv_iinc (v := nI (k + 1)) (lv' := [(7, .int (nI (k + 1))), (8, .int (w1 (R + k + 17))), (6, .int r_55), (5, .int (nI mo)), (4, .int (nI (tN (w (R + 2))))), (3, .int r_3), (0, .ref (q 0)), (1, .int (nI R)), (2, .int h)]) hx hb dX6_bats_178 hl (k := 1) rfl (qn_inc (c := 1) rfl (by omega)) (by decide) rfl (fun ls hl => ?_)
              refine lv_goto (tgt := 63) hx hb dX6_bats_181 (by decide) ?_
              exact ih_63 (k + 1) mo w1 H locs (by omega) i1 i2 (by omega) hP hD hS ls (lv_sub hl [0, 2, 3, 4, 5, 6, 7, 8] rfl) hF
            · rw [if_pos c_107] at hF
              refine lv_iload hx hb dX6_bats_110 (lv_at hl 0 rfl) ?_
              refine lv_iload hx hb dX6_bats_112 (lv_at hl 2 rfl) ?_
              refine lv_iadd hx hb dX6_bats_114 ?_
              refine lv_iconst (v := nI 3) hx hb dX6_bats_115 (by decide) ?_
              refine lv_icmp_le (tgt := 123) hx hb dX6_bats_116 (by decide) (fun c_116 => ?_) (fun c_116 => ?_)
              · rw [if_pos c_116] at hF
                refine lv_iconst (v := nI 0) hx hb dX6_bats_123 (by decide) ?_
                refine lv_istore (lv' := [(9, .int (nI 0)), (8, .int (w1 (R + k + 17))), (7, .int (nI k)), (6, .int r_55), (5, .int (nI mo)), (4, .int (nI (tN (w (R + 2))))), (3, .int r_3), (0, .ref (q 0)), (1, .int (nI R)), (2, .int h)]) hx hb dX6_bats_124 hl (by decide) rfl (fun ls hl => ?_)
                refine lv_aload_n hx hb dX6_bats_126 rfl (lv_at hl 7 rfl) ?_
                refine va_get (D := (dC, dI)) (ci := 6) (v := .ref (q 1)) (C := RX6) (T := TX6) (N := 14) hx hb hts hin hown hK hP 0 rfl rfl 0 (by decide) lk7 (fun _ h9 => h9) rfl dX6_bats_127 ?_
                refine lv_iload_n hx hb dX6_bats_130 rfl (lv_at hl 8 rfl) ?_
                refine lv_bipush (v := nI 17) hx hb dX6_bats_131 (by decide) ?_
                refine qv_iadd hx hb (R + 17) dX6_bats_133 (by omega) ?_
                refine lv_iload hx hb dX6_bats_134 (lv_at hl 2 rfl) ?_
                refine qv_iadd hx hb (R + k + 17) dX6_bats_136 (by omega) ?_
                refine lv_iload hx hb dX6_bats_137 (lv_at hl 0 rfl) ?_
                refine qv_if_eq (tgt := 146) hx hb dX6_bats_139 (by decide) (by omega) (fun _ => ?_) (fun c_139 => absurd c_139 (by decide))
                refine lv_iload hx hb dX6_bats_146 (lv_at hl 1 rfl) ?_
                refine lv_iload hx hb dX6_bats_148 (lv_at hl 3 rfl) ?_
                refine lv_iadd hx hb dX6_bats_150 ?_
                refine qv_ast (ws' := mW q cI cZ (upd w1 (R + k + 17) ((w1 (R + k + 17)) + r_55)) kp tx td ab be su po st nu li fi ga hh) hx hb hK hP hD hS 1 0 rfl rfl (by omega) (by decide) dX6_bats_151 rfl (fun H locs hP hD hS => ?_)
                refine lv_iload hx hb dX6_bats_152 (lv_at hl 4 rfl) ?_
                refine lv_iload hx hb dX6_bats_154 (lv_at hl 0 rfl) ?_
                refine qv_if_eq (tgt := 174) hx hb dX6_bats_156 (by decide) (by omega) (fun _ => ?_) (fun c_156 => absurd c_156 (by decide))
                refine lv_iconst (v := nI 0) hx hb dX6_bats_174 (by decide) ?_
                refine qv_iadd hx hb (mo) dX6_bats_175 (by omega) ?_
                refine lv_istore (lv' := [(5, .int (nI mo)), (9, .int (nI 0)), (8, .int (w1 (R + k + 17))), (7, .int (nI k)), (6, .int r_55), (4, .int (nI (tN (w (R + 2))))), (3, .int r_3), (0, .ref (q 0)), (1, .int (nI R)), (2, .int h)]) hx hb dX6_bats_176 hl (by decide) rfl (fun ls hl => ?_)
                refine lv_iinc (v := nI (k + 1)) (lv' := [(7, .int (nI (k + 1))), (5, .int (nI mo)), (9, .int (nI 0)), (8, .int (w1 (R + k + 17))), (6, .int r_55), (4, .int (nI (tN (w (R + 2))))), (3, .int r_3), (0, .ref (q 0)), (1, .int (nI R)), (2, .int h)]) hx hb dX6_bats_178 hl (k := 3) rfl (qn_inc (c := 1) rfl (by omega)) (by decide) rfl (fun ls hl => ?_)
                refine lv_goto (tgt := 63) hx hb dX6_bats_181 (by decide) ?_
                exact ih_63 (k + 1) mo (upd w1 (R + k + 17) ((w1 (R + k + 17)) + r_55)) H locs (by omega) ((pk_un (by omega)).trans i1) ((pk_un (by omega)).trans i2) (by omega) hP hD hS ls (lv_sub hl [0, 4, 1, 5, 6, 7, 8, 9] rfl) hF
              · rw [if_neg c_116] at hF
                refine lv_iconst (v := nI 1) hx hb dX6_bats_119 (by decide) ?_
                refine lv_goto (tgt := 124) hx hb dX6_bats_120 (by decide) ?_
                refine lv_istore (lv' := [(9, .int (nI 1)), (8, .int (w1 (R + k + 17))), (7, .int (nI k)), (6, .int r_55), (5, .int (nI mo)), (4, .int (nI (tN (w (R + 2))))), (3, .int r_3), (0, .ref (q 0)), (1, .int (nI R)), (2, .int h)]) hx hb dX6_bats_124 hl (by decide) rfl (fun ls hl => ?_)
                refine lv_aload_n hx hb dX6_bats_126 rfl (lv_at hl 7 rfl) ?_
                refine va_get (D := (dC, dI)) (ci := 6) (v := .ref (q 1)) (C := RX6) (T := TX6) (N := 14) hx hb hts hin hown hK hP 0 rfl rfl 0 (by decide) lk7 (fun _ h9 => h9) rfl dX6_bats_127 ?_
                refine lv_iload_n hx hb dX6_bats_130 rfl (lv_at hl 8 rfl) ?_
                refine lv_bipush (v := nI 17) hx hb dX6_bats_131 (by decide) ?_
                refine qv_iadd hx hb (R + 17) dX6_bats_133 (by omega) ?_
                refine lv_iload hx hb dX6_bats_134 (lv_at hl 2 rfl) ?_
                refine qv_iadd hx hb (R + k + 17) dX6_bats_136 (by omega) ?_
                refine lv_iload hx hb dX6_bats_137 (lv_at hl 0 rfl) ?_
                refine qv_if_eq (tgt := 146) hx hb dX6_bats_139 (by decide) (by omega) (fun c_139 => absurd c_139 (by decide)) (fun _ => ?_)
                refine lv_iconst (v := nI 0) hx hb dX6_bats_142 (by decide) ?_
                refine lv_goto (tgt := 151) hx hb dX6_bats_143 (by decide) ?_
                refine qv_ast (ws' := mW q cI cZ (upd w1 (R + k + 17) (nI 0)) kp tx td ab be su po st nu li fi ga hh) hx hb hK hP hD hS 1 0 rfl rfl (by omega) (by decide) dX6_bats_151 rfl (fun H locs hP hD hS => ?_)
                refine lv_iload hx hb dX6_bats_152 (lv_at hl 4 rfl) ?_
                refine lv_iload hx hb dX6_bats_154 (lv_at hl 0 rfl) ?_
                refine qv_if_eq (tgt := 174) hx hb dX6_bats_156 (by decide) (by omega) (fun c_156 => absurd c_156 (by decide)) (fun _ => ?_)
                refine lv_iload hx hb dX6_bats_159 (lv_at hl 2 rfl) ?_
                refine lv_iload hx hb dX6_bats_161 (lv_at hl 5 rfl) ?_
                refine qv_icmp_ne (tgt := 170) hx hb dX6_bats_163 (by decide) (by omega) (by omega) (fun _ => ?_) (fun c_163 => absurd c_163 c_94)
                refine lv_iconst (v := nI 1) hx hb dX6_bats_170 (by decide) ?_
                refine lv_goto (tgt := 175) hx hb dX6_bats_171 (by decide) ?_
                refine qv_iadd hx hb (mo + 1) dX6_bats_175 (by omega) ?_
                refine lv_istore (lv' := [(5, .int (nI (mo + 1))), (9, .int (nI 1)), (8, .int (w1 (R + k + 17))), (7, .int (nI k)), (6, .int r_55), (4, .int (nI (tN (w (R + 2))))), (3, .int r_3), (0, .ref (q 0)), (1, .int (nI R)), (2, .int h)]) hx hb dX6_bats_176 hl (by decide) rfl (fun ls hl => ?_)
                refine lv_iinc (v := nI (k + 1)) (lv' := [(7, .int (nI (k + 1))), (5, .int (nI (mo + 1))), (9, .int (nI 1)), (8, .int (w1 (R + k + 17))), (6, .int r_55), (4, .int (nI (tN (w (R + 2))))), (3, .int r_3), (0, .ref (q 0)), (1, .int (nI R)), (2, .int h)]) hx hb dX6_bats_178 hl (k := 3) rfl (qn_inc (c := 1) rfl (by omega)) (by decide) rfl (fun ls hl => ?_)
                refine lv_goto (tgt := 63) hx hb dX6_bats_181 (by decide) ?_
                exact ih_63 (k + 1) (mo + 1) (upd w1 (R + k + 17) (nI 0)) H locs (by omega) ((pk_un (by omega)).trans i1) ((pk_un (by omega)).trans i2) (by omega) hP hD hS ls (lv_sub hl [0, 4, 1, 5, 6, 7, 8, 9] rfl) hF
    exact L_63 7 0 0 (upd w (R + 4) ((w (R + 4)) + (nI 1))) H locs (by omega) (pk_un (by omega)) (pk_un (by omega)) (by omega) hP hD hS ls (lv_sub hl [0, 1, 2, 3, 4, 5, 6, 7] rfl) hF
  · rw [if_pos c_33] at hF
    refine lv_aload_n hx hb dX6_bats_36 rfl (lv_at hl 3 rfl) ?_
    refine va_get (D := (dC, dI)) (ci := 6) (v := .ref (q 1)) (C := RX6) (T := TX6) (N := 14) hx hb hts hin hown hK hP 0 rfl rfl 0 (by decide) lk7 (fun _ h9 => h9) rfl dX6_bats_37 ?_
    refine lv_iload_n hx hb dX6_bats_40 rfl (lv_at hl 4 rfl) ?_
    refine lv_bipush (v := nI 17) hx hb dX6_bats_41 (by decide) ?_
    refine qv_iadd hx hb (R + 17) dX6_bats_43 (by omega) ?_
    refine lv_iload hx hb dX6_bats_44 (lv_at hl 1 rfl) ?_
    refine qv_iadd hx hb (R + tN (w (R + 2)) + 17) dX6_bats_46 (by omega) ?_
    refine lv_iconst (v := nI 4) hx hb dX6_bats_47 (by decide) ?_
    refine qv_ast (ws' := mW q cI cZ (upd (upd w (R + 4) ((w (R + 4)) + (nI 1))) (R + tN (w (R + 2)) + 17) (nI 4)) kp tx td ab be su po st nu li fi ga hh) hx hb hK hP hD hS 1 0 rfl rfl (by omega) (by decide) dX6_bats_48 rfl (fun H locs hP hD hS => ?_)
    refine lv_goto (tgt := 184) hx hb dX6_bats_49 (by decide) ?_
    refine lv_aload_n hx hb dX6_bats_184 rfl (lv_at hl 3 rfl) ?_
    refine lv_iload_n hx hb dX6_bats_185 rfl (lv_at hl 4 rfl) ?_
    refine qc_Vv (C := RX6) (As := [.int (nI R)]) (rest := []) (ci := 6) (k0 := 0) ⟨hx, hb, hml, hown, hts⟩ (c_X6_nextOf l dC dI q cI cZ H.size (upd (upd w (R + 4) ((w (R + 4)) + (nI 1))) (R + tN (w (R + 2)) + 17) (nI 4)) kp tx td ab be su po st nu li fi ga hh R (by omega) (by rw [show (upd (upd w (R + 4) ((w (R + 4)) + (nI 1))) (R + tN (w (R + 2)) + 17) (nI 4)) R = w R from (pk_un (by omega)).trans (pk_un (by omega))]; exact (pB : inB (w R) 6)) (by rw [show (upd (upd w (R + 4) ((w (R + 4)) + (nI 1))) (R + tN (w (R + 2)) + 17) (nI 4)) (R + 2) = w (R + 2) from (pk_un (by omega)).trans (pk_un (by omega))]; exact (pN : inB (w (R + 2)) 5))) (cwV 1 hts gX6_bats_X6_nextOf rfl rfl rfl (by decide +kernel) ⟨Nat.le_of_ble_eq_true rfl, Nat.le_of_ble_eq_true rfl⟩) hK hP hD hS hA rfl rfl rfl rfl hl.1 rfl (Nat.le_of_ble_eq_true rfl) dX6_bats_186 ⟨Nat.zero_le _, Nat.zero_le _⟩ (fun u_186 H locs hw_186 hP hD hS => ?_)
    obtain ⟨w_186, rfl⟩ : ∃ z, z = u_186 := ⟨_, rfl⟩
    have hP : va_P (dC, dI) vwCl (mW q cI cZ w_186 kp tx td ab be su po st nu li fi ga hh) H := hP
    have hD : va_D A (mW q cI cZ w_186 kp tx td ab be su po st nu li fi ga hh) := hD
    rw [hw_186, let1_mk w_186] at hF
    refine lv_iload hx hb dX6_bats_189 (lv_at hl 0 rfl) ?_
    have hP9 : va_P (dC, dI) vwCl (mW q cI cZ w_186 kp tx td ab be su po st nu li fi ga hh) H := hP
    exact W.iret (v := nI 0) hx hb hr (fun t ht hW => ⟨⟨_, (w_186), rfl, hO.symm.trans hF, by rw [ht]; exact hP9, va_K.moved hW.alike hK, hD⟩, hS.F ht⟩) hS.2.2 dX6_bats_191
def F_X6_isDone (w : Nat → Int32) (R : Nat) : Bool := if (w (R + 2)) = ((-1)) then true else false
set_option maxHeartbeats 4000000 in
set_option maxRecDepth 100000 in
theorem c_X6_isDone (l : Launch) (dC : Nat → ClassId) (dI : Nat → Nat → Nat) (q : Nat → Nat) (cI cZ : ClassId) (sz : Nat) (w : Nat → Int32) (kp : Nat → Int32) (tx : Nat → Int32) (td : Int32) (ab : Int64) (be : Int64) (su : Nat → Int32) (po : Int32) (st : Int32) (nu : Int32) (li : Nat → Int32) (fi : Nat → Int32) (ga : Nat → Int32) (hh : Int64) (R : Nat) (hR : R + 32 ≤ 624) : Met l yX6_isDone wsX6_isDone { frames := 0, cells := 0, slots := 0, locals := 0 } (mPc (dC, dI) vwCl (mT cI cZ) (mW q cI cZ w kp tx td ab be su po st nu li fi ga hh) sz [.ref (q 0), .int (nI R)]) (va_Qi (fun (r : Int32) (u : Unit) => ∃ z : Bool, F_X6_isDone w R = z ∧ r = if z = true then 1 else 0) (mB (dC, dI) vwCl (mT cI cZ) (va_A (mW q cI cZ w kp tx td ab be su po st nu li fi ga hh) sz) (fun u => mW q cI cZ w kp tx td ab be su po st nu li fi ga hh)) (va_A (mW q cI cZ w kp tx td ab be su po st nu li fi ga hh) sz)) 0 0 (va_A (mW q cI cZ w kp tx td ab be su po st nu li fi ga hh) sz) := by
  refine Met.ofW (cc := cX6_isDone) (maxL := 2) (ret := (some .boolean)) (by decide) rfl ?_
  intro p e s m args below meth c s₁ B hml hv
  obtain ⟨rfl, hsz, hP, hK, hD0⟩ := hv
  have hx := B.exec
  have hb := B.bytes
  have hr := B.returns
  have hts := atoms_spec (ws := wsX6_isDone) B.pre
  have hown : s.vm.findClass RX6 = some m.cls := findClass_of_methodNamed B.named
  have hlocks := B.notSynchronized
  subst hsz
  have hD := hD0.self (sz := s.heap.size)
  generalize hAe : va_A (mW q cI cZ w kp tx td ab be su po st nu li fi ga hh) s.heap.size = A at hD ⊢
  have hA : ∀ q : Nat, s.heap.size ≤ q → A q := fun q h => by rw [← hAe]; exact Or.inr h
  have hS : va_S A s.heap s.heap [] := va_S.rf
  have hin : ∀ w ∈ wsX60, w ∈ wsX6_isDone := by decide +kernel
  have lk7 := hts (.fieldLink RX6 7 "PostRoundersModel" "w" "[I") (by decide +kernel)
  have hl := lv_entry ([.ref (q 0), .int (nI R)]) (n := 2) (Nat.le_of_ble_eq_true rfl)
  rw [lg_entry_eq]
  generalize (lg_sl ([.ref (q 0), .int (nI R)]) ++ List.replicate (2 - (lg_sl ([.ref (q 0), .int (nI R)])).length) Slot.unset).toArray = ls at hl ⊢
  have hl : lv_has ls 2 [(0, .ref (q 0)), (1, .int (nI R))] := hl
  obtain ⟨OUT, hO⟩ : ∃ z, z = F_X6_isDone w R := ⟨_, rfl⟩
  have hF := hO
  unfold F_X6_isDone at hF
  refine lv_aload_n hx hb dX6_isDone_0 rfl (lv_at hl 0 rfl) ?_
  refine va_get (D := (dC, dI)) (ci := 6) (v := .ref (q 1)) (C := RX6) (T := TX6) (N := 14) hx hb hts hin hown hK hP 0 rfl rfl 0 (by decide) lk7 (fun _ h9 => h9) rfl dX6_isDone_1 ?_
  refine lv_iload_n hx hb dX6_isDone_4 rfl (lv_at hl 1 rfl) ?_
  refine lv_iconst (v := nI 2) hx hb dX6_isDone_5 (by decide) ?_
  refine qv_iadd hx hb (R + 2) dX6_isDone_6 (by omega) ?_
  refine qv_ald (v := w (R + 2)) hx hb hK hP 1 0 rfl rfl (by omega) (by decide) (rfl) dX6_isDone_7 ?_
  refine lv_iconst (v := (-1)) hx hb dX6_isDone_8 (by decide) ?_
  refine lv_icmp_ne (tgt := 16) hx hb dX6_isDone_9 (by decide) (fun c_9 => ?_) (fun c_9 => ?_)
  · rw [if_neg c_9] at hF
    refine lv_iconst (v := nI 0) hx hb dX6_isDone_16 (by decide) ?_
    have hP9 : va_P (dC, dI) vwCl (mW q cI cZ w kp tx td ab be su po st nu li fi ga hh) s.heap := hP
    exact W.zret (v := nI 0) hx hb hr (by rfl) (fun t ht hW => ⟨⟨_, (()), rfl, ⟨false, hO.symm.trans hF, rfl⟩, by rw [ht]; exact hP9, va_K.moved hW.alike hK, hD⟩, hS.F ht⟩) hS.2.2 dX6_isDone_17
  · rw [if_pos c_9] at hF
    refine lv_iconst (v := nI 1) hx hb dX6_isDone_12 (by decide) ?_
    refine lv_goto (tgt := 17) hx hb dX6_isDone_13 (by decide) ?_
    have hP9 : va_P (dC, dI) vwCl (mW q cI cZ w kp tx td ab be su po st nu li fi ga hh) s.heap := hP
    exact W.zret (v := nI 1) hx hb hr (by rfl) (fun t ht hW => ⟨⟨_, (()), rfl, ⟨true, hO.symm.trans hF, rfl⟩, by rw [ht]; exact hP9, va_K.moved hW.alike hK, hD⟩, hS.F ht⟩) hS.2.2 dX6_isDone_17
def F_X6_addsBatter (w : Nat → Int32) (R : Nat) (kd : Int32) (lg : Int32) : (Nat → Int32) := let1 (F_X6_isDone (upd (upd (upd (upd w (R + tN (w R) + 5) kd) (R + tN (w R) + 11) lg) (R + tN (w R) + 17) (nI 0)) R (nI (tN (w R) + 1))) R) (fun z_69 => if z_69 = true then (upd (upd (upd (upd (upd w (R + tN (w R) + 5) kd) (R + tN (w R) + 11) lg) (R + tN (w R) + 17) (nI 0)) R (nI (tN (w R) + 1))) (R + 2) (nI (tN (w R)))) else (upd (upd (upd (upd (upd w (R + tN (w R) + 5) kd) (R + tN (w R) + 11) lg) (R + tN (w R) + 17) (nI 0)) R (nI (tN (w R) + 1))) (R + 2) (w (R + 2))))
set_option maxHeartbeats 4000000 in
set_option maxRecDepth 100000 in
theorem c_X6_addsBatter (l : Launch) (dC : Nat → ClassId) (dI : Nat → Nat → Nat) (q : Nat → Nat) (cI cZ : ClassId) (sz : Nat) (w : Nat → Int32) (kp : Nat → Int32) (tx : Nat → Int32) (td : Int32) (ab : Int64) (be : Int64) (su : Nat → Int32) (po : Int32) (st : Int32) (nu : Int32) (li : Nat → Int32) (fi : Nat → Int32) (ga : Nat → Int32) (hh : Int64) (R : Nat) (kd : Int32) (lg : Int32) (hR : R + 32 ≤ 624) (pB : inB (w R) 5) : Met l yX6_addsBatter wsX6_addsBatter { frames := 1, cells := 0, slots := 0, locals := 21 } (mPc (dC, dI) vwCl (mT cI cZ) (mW q cI cZ w kp tx td ab be su po st nu li fi ga hh) sz [.ref (q 0), .int (nI R), .int kd, .int lg]) (va_Qv (fun (u : (Nat → Int32)) => F_X6_addsBatter w R kd lg = u) (mB (dC, dI) vwCl (mT cI cZ) (va_A (mW q cI cZ w kp tx td ab be su po st nu li fi ga hh) sz) (fun u => mW q cI cZ u kp tx td ab be su po st nu li fi ga hh)) (va_A (mW q cI cZ w kp tx td ab be su po st nu li fi ga hh) sz)) 0 0 (va_A (mW q cI cZ w kp tx td ab be su po st nu li fi ga hh) sz) := by
  refine Met.ofW (cc := cX6_addsBatter) (maxL := 5) (ret := none) (by decide) rfl ?_
  intro p e s m args below meth c s₁ B hml hv
  obtain ⟨rfl, hsz, hP, hK, hD0⟩ := hv
  have hx := B.exec
  have hb := B.bytes
  have hr := B.returns
  have hts := atoms_spec (ws := wsX6_addsBatter) B.pre
  have hown : s.vm.findClass RX6 = some m.cls := findClass_of_methodNamed B.named
  have hlocks := B.notSynchronized
  subst hsz
  have hD := hD0.self (sz := s.heap.size)
  generalize hAe : va_A (mW q cI cZ w kp tx td ab be su po st nu li fi ga hh) s.heap.size = A at hD ⊢
  have hA : ∀ q : Nat, s.heap.size ≤ q → A q := fun q h => by rw [← hAe]; exact Or.inr h
  have hS : va_S A s.heap s.heap [] := va_S.rf
  have hin : ∀ w ∈ wsX60, w ∈ wsX6_addsBatter := by decide +kernel
  have lk7 := hts (.fieldLink RX6 7 "PostRoundersModel" "w" "[I") (by decide +kernel)
  have hl := lv_entry ([.ref (q 0), .int (nI R), .int kd, .int lg]) (n := 5) (Nat.le_of_ble_eq_true rfl)
  rw [lg_entry_eq]
  generalize (lg_sl ([.ref (q 0), .int (nI R), .int kd, .int lg]) ++ List.replicate (5 - (lg_sl ([.ref (q 0), .int (nI R), .int kd, .int lg])).length) Slot.unset).toArray = ls at hl ⊢
  have hl : lv_has ls 5 [(0, .ref (q 0)), (1, .int (nI R)), (2, .int kd), (3, .int lg)] := hl
  obtain ⟨OUT, hO⟩ : ∃ z, z = F_X6_addsBatter w R kd lg := ⟨_, rfl⟩
  have hF := hO
  unfold F_X6_addsBatter at hF
  have e_pB := tN_eq pB.1
  have b_pB := pB.2
  refine lv_aload_n hx hb dX6_addsBatter_0 rfl (lv_at hl 0 rfl) ?_
  refine va_get (D := (dC, dI)) (ci := 6) (v := .ref (q 1)) (C := RX6) (T := TX6) (N := 14) hx hb hts hin hown hK hP 0 rfl rfl 0 (by decide) lk7 (fun _ h9 => h9) rfl dX6_addsBatter_1 ?_
  refine lv_iload_n hx hb dX6_addsBatter_4 rfl (lv_at hl 1 rfl) ?_
  refine lv_iconst (v := nI 0) hx hb dX6_addsBatter_5 (by decide) ?_
  refine qv_iadd hx hb (R) dX6_addsBatter_6 (by omega) ?_
  refine qv_ald (v := w R) hx hb hK hP 1 0 rfl rfl (by omega) (by decide) (rfl) dX6_addsBatter_7 ?_
  refine qv_top (e_pB) ?_
  refine lv_istore (lv' := [(4, .int (nI (tN (w R)))), (0, .ref (q 0)), (1, .int (nI R)), (2, .int kd), (3, .int lg)]) hx hb dX6_addsBatter_8 hl (by decide) rfl (fun ls hl => ?_)
  refine lv_aload_n hx hb dX6_addsBatter_10 rfl (lv_at hl 1 rfl) ?_
  refine va_get (D := (dC, dI)) (ci := 6) (v := .ref (q 1)) (C := RX6) (T := TX6) (N := 14) hx hb hts hin hown hK hP 0 rfl rfl 0 (by decide) lk7 (fun _ h9 => h9) rfl dX6_addsBatter_11 ?_
  refine lv_iload_n hx hb dX6_addsBatter_14 rfl (lv_at hl 2 rfl) ?_
  refine lv_iconst (v := nI 5) hx hb dX6_addsBatter_15 (by decide) ?_
  refine qv_iadd hx hb (R + 5) dX6_addsBatter_16 (by omega) ?_
  refine lv_iload hx hb dX6_addsBatter_17 (lv_at hl 0 rfl) ?_
  refine qv_iadd hx hb (R + tN (w R) + 5) dX6_addsBatter_19 (by omega) ?_
  refine lv_iload_n hx hb dX6_addsBatter_20 rfl (lv_at hl 3 rfl) ?_
  refine qv_ast (ws' := mW q cI cZ (upd w (R + tN (w R) + 5) kd) kp tx td ab be su po st nu li fi ga hh) hx hb hK hP hD hS 1 0 rfl rfl (by omega) (by decide) dX6_addsBatter_21 rfl (fun H locs hP hD hS => ?_)
  refine lv_aload_n hx hb dX6_addsBatter_22 rfl (lv_at hl 1 rfl) ?_
  refine va_get (D := (dC, dI)) (ci := 6) (v := .ref (q 1)) (C := RX6) (T := TX6) (N := 14) hx hb hts hin hown hK hP 0 rfl rfl 0 (by decide) lk7 (fun _ h9 => h9) rfl dX6_addsBatter_23 ?_
  refine lv_iload_n hx hb dX6_addsBatter_26 rfl (lv_at hl 2 rfl) ?_
  refine lv_bipush (v := nI 11) hx hb dX6_addsBatter_27 (by decide) ?_
  refine qv_iadd hx hb (R + 11) dX6_addsBatter_29 (by omega) ?_
  refine lv_iload hx hb dX6_addsBatter_30 (lv_at hl 0 rfl) ?_
  refine qv_iadd hx hb (R + tN (w R) + 11) dX6_addsBatter_32 (by omega) ?_
  refine lv_iload_n hx hb dX6_addsBatter_33 rfl (lv_at hl 4 rfl) ?_
  refine qv_ast (ws' := mW q cI cZ (upd (upd w (R + tN (w R) + 5) kd) (R + tN (w R) + 11) lg) kp tx td ab be su po st nu li fi ga hh) hx hb hK hP hD hS 1 0 rfl rfl (by omega) (by decide) dX6_addsBatter_34 rfl (fun H locs hP hD hS => ?_)
  refine lv_aload_n hx hb dX6_addsBatter_35 rfl (lv_at hl 1 rfl) ?_
  refine va_get (D := (dC, dI)) (ci := 6) (v := .ref (q 1)) (C := RX6) (T := TX6) (N := 14) hx hb hts hin hown hK hP 0 rfl rfl 0 (by decide) lk7 (fun _ h9 => h9) rfl dX6_addsBatter_36 ?_
  refine lv_iload_n hx hb dX6_addsBatter_39 rfl (lv_at hl 2 rfl) ?_
  refine lv_bipush (v := nI 17) hx hb dX6_addsBatter_40 (by decide) ?_
  refine qv_iadd hx hb (R + 17) dX6_addsBatter_42 (by omega) ?_
  refine lv_iload hx hb dX6_addsBatter_43 (lv_at hl 0 rfl) ?_
  refine qv_iadd hx hb (R + tN (w R) + 17) dX6_addsBatter_45 (by omega) ?_
  refine lv_iconst (v := nI 0) hx hb dX6_addsBatter_46 (by decide) ?_
  refine qv_ast (ws' := mW q cI cZ (upd (upd (upd w (R + tN (w R) + 5) kd) (R + tN (w R) + 11) lg) (R + tN (w R) + 17) (nI 0)) kp tx td ab be su po st nu li fi ga hh) hx hb hK hP hD hS 1 0 rfl rfl (by omega) (by decide) dX6_addsBatter_47 rfl (fun H locs hP hD hS => ?_)
  refine lv_aload_n hx hb dX6_addsBatter_48 rfl (lv_at hl 1 rfl) ?_
  refine va_get (D := (dC, dI)) (ci := 6) (v := .ref (q 1)) (C := RX6) (T := TX6) (N := 14) hx hb hts hin hown hK hP 0 rfl rfl 0 (by decide) lk7 (fun _ h9 => h9) rfl dX6_addsBatter_49 ?_
  refine lv_iload_n hx hb dX6_addsBatter_52 rfl (lv_at hl 2 rfl) ?_
  refine lv_iconst (v := nI 0) hx hb dX6_addsBatter_53 (by decide) ?_
  refine qv_iadd hx hb (R) dX6_addsBatter_54 (by omega) ?_
  refine lv_dup2_11 hx hb dX6_addsBatter_55 rfl rfl ?_
  refine qv_ald (v := w R) hx hb hK hP 1 0 rfl rfl (by omega) (by decide) ((pk_un (by omega)).trans ((pk_un (by omega)).trans (pk_un (by omega)))) dX6_addsBatter_56 ?_
  refine qv_top (e_pB) ?_
  refine lv_iconst (v := nI 1) hx hb dX6_addsBatter_57 (by decide) ?_
  refine qv_iadd hx hb (tN (w R) + 1) dX6_addsBatter_58 (by omega) ?_
  refine qv_ast (ws' := mW q cI cZ (upd (upd (upd (upd w (R + tN (w R) + 5) kd) (R + tN (w R) + 11) lg) (R + tN (w R) + 17) (nI 0)) R (nI (tN (w R) + 1))) kp tx td ab be su po st nu li fi ga hh) hx hb hK hP hD hS 1 0 rfl rfl (by omega) (by decide) dX6_addsBatter_59 rfl (fun H locs hP hD hS => ?_)
  refine lv_aload_n hx hb dX6_addsBatter_60 rfl (lv_at hl 1 rfl) ?_
  refine va_get (D := (dC, dI)) (ci := 6) (v := .ref (q 1)) (C := RX6) (T := TX6) (N := 14) hx hb hts hin hown hK hP 0 rfl rfl 0 (by decide) lk7 (fun _ h9 => h9) rfl dX6_addsBatter_61 ?_
  refine lv_iload_n hx hb dX6_addsBatter_64 rfl (lv_at hl 2 rfl) ?_
  refine lv_iconst (v := nI 2) hx hb dX6_addsBatter_65 (by decide) ?_
  refine qv_iadd hx hb (R + 2) dX6_addsBatter_66 (by omega) ?_
  refine lv_aload_n hx hb dX6_addsBatter_67 rfl (lv_at hl 1 rfl) ?_
  refine lv_iload_n hx hb dX6_addsBatter_68 rfl (lv_at hl 2 rfl) ?_
  refine qc_Vi (C := RX6) (As := [.int (nI R)]) (rest := [.int (nI (R + 2)), .ref (q 1)]) (ci := 6) (k0 := 0) ⟨hx, hb, hml, hown, hts⟩ (c_X6_isDone l dC dI q cI cZ H.size (upd (upd (upd (upd w (R + tN (w R) + 5) kd) (R + tN (w R) + 11) lg) (R + tN (w R) + 17) (nI 0)) R (nI (tN (w R) + 1))) kp tx td ab be su po st nu li fi ga hh R (by omega)) (cwV 1 hts gX6_addsBatter_X6_isDone rfl rfl rfl (by decide +kernel) ⟨Nat.le_of_ble_eq_true rfl, Nat.le_of_ble_eq_true rfl⟩) hK hP hD hS hA rfl rfl rfl rfl hl.1 rfl (Nat.le_of_ble_eq_true rfl) dX6_addsBatter_69 ⟨Nat.zero_le _, Nat.zero_le _⟩ (fun r_69 u_69 H locs hw_69 hP hD hS => ?_)
  obtain ⟨z_69, hw_69, rfl⟩ := hw_69
  rw [hw_69, let1_mk z_69] at hF
  refine qv_zif_eq (tgt := 80) hx hb dX6_addsBatter_72 (by decide) (fun c_72 => ?_) (fun c_72 => ?_)
  · rw [if_neg c_72] at hF
    refine lv_aload_n hx hb dX6_addsBatter_80 rfl (lv_at hl 1 rfl) ?_
    refine va_get (D := (dC, dI)) (ci := 6) (v := .ref (q 1)) (C := RX6) (T := TX6) (N := 14) hx hb hts hin hown hK hP 0 rfl rfl 0 (by decide) lk7 (fun _ h9 => h9) rfl dX6_addsBatter_81 ?_
    refine lv_iload_n hx hb dX6_addsBatter_84 rfl (lv_at hl 2 rfl) ?_
    refine lv_iconst (v := nI 2) hx hb dX6_addsBatter_85 (by decide) ?_
    refine qv_iadd hx hb (R + 2) dX6_addsBatter_86 (by omega) ?_
    refine qv_ald (v := w (R + 2)) hx hb hK hP 1 0 rfl rfl (by omega) (by decide) ((pk_un (by omega)).trans ((pk_un (by omega)).trans ((pk_un (by omega)).trans (pk_un (by omega))))) dX6_addsBatter_87 ?_
    refine qv_ast (ws' := mW q cI cZ (upd (upd (upd (upd (upd w (R + tN (w R) + 5) kd) (R + tN (w R) + 11) lg) (R + tN (w R) + 17) (nI 0)) R (nI (tN (w R) + 1))) (R + 2) (w (R + 2))) kp tx td ab be su po st nu li fi ga hh) hx hb hK hP hD hS 1 0 rfl rfl (by omega) (by decide) dX6_addsBatter_88 rfl (fun H locs hP hD hS => ?_)
    have hP9 : va_P (dC, dI) vwCl (mW q cI cZ (upd (upd (upd (upd (upd w (R + tN (w R) + 5) kd) (R + tN (w R) + 11) lg) (R + tN (w R) + 17) (nI 0)) R (nI (tN (w R) + 1))) (R + 2) (w (R + 2))) kp tx td ab be su po st nu li fi ga hh) H := hP
    exact W.vret hx hb hr (fun t ht hW => ⟨⟨(upd (upd (upd (upd (upd w (R + tN (w R) + 5) kd) (R + tN (w R) + 11) lg) (R + tN (w R) + 17) (nI 0)) R (nI (tN (w R) + 1))) (R + 2) (w (R + 2))), rfl, hO.symm.trans hF, by rw [ht]; exact hP9, va_K.moved hW.alike hK, hD⟩, hS.F ht⟩) hS.2.2 dX6_addsBatter_89
  · rw [if_pos c_72] at hF
    refine lv_iload hx hb dX6_addsBatter_75 (lv_at hl 0 rfl) ?_
    refine lv_goto (tgt := 88) hx hb dX6_addsBatter_77 (by decide) ?_
    refine qv_ast (ws' := mW q cI cZ (upd (upd (upd (upd (upd w (R + tN (w R) + 5) kd) (R + tN (w R) + 11) lg) (R + tN (w R) + 17) (nI 0)) R (nI (tN (w R) + 1))) (R + 2) (nI (tN (w R)))) kp tx td ab be su po st nu li fi ga hh) hx hb hK hP hD hS 1 0 rfl rfl (by omega) (by decide) dX6_addsBatter_88 rfl (fun H locs hP hD hS => ?_)
    have hP9 : va_P (dC, dI) vwCl (mW q cI cZ (upd (upd (upd (upd (upd w (R + tN (w R) + 5) kd) (R + tN (w R) + 11) lg) (R + tN (w R) + 17) (nI 0)) R (nI (tN (w R) + 1))) (R + 2) (nI (tN (w R)))) kp tx td ab be su po st nu li fi ga hh) H := hP
    exact W.vret hx hb hr (fun t ht hW => ⟨⟨(upd (upd (upd (upd (upd w (R + tN (w R) + 5) kd) (R + tN (w R) + 11) lg) (R + tN (w R) + 17) (nI 0)) R (nI (tN (w R) + 1))) (R + 2) (nI (tN (w R)))), rfl, hO.symm.trans hF, by rw [ht]; exact hP9, va_K.moved hW.alike hK, hD⟩, hS.F ht⟩) hS.2.2 dX6_addsBatter_89
def F_X6_scores (w : Nat → Int32) (R : Nat) (mo : Int32) : Int32 × (Nat → Int32) := if ((w (R + 3)) + mo) ≤ (nI 9999) then (((w (R + 3)) + mo) - (w (R + 3)), (upd w (R + 3) ((w (R + 3)) + mo))) else ((nI 9999) - (w (R + 3)), (upd w (R + 3) (nI 9999)))
set_option maxHeartbeats 4000000 in
set_option maxRecDepth 100000 in
theorem c_X6_scores (l : Launch) (dC : Nat → ClassId) (dI : Nat → Nat → Nat) (q : Nat → Nat) (cI cZ : ClassId) (sz : Nat) (w : Nat → Int32) (kp : Nat → Int32) (tx : Nat → Int32) (td : Int32) (ab : Int64) (be : Int64) (su : Nat → Int32) (po : Int32) (st : Int32) (nu : Int32) (li : Nat → Int32) (fi : Nat → Int32) (ga : Nat → Int32) (hh : Int64) (R : Nat) (mo : Int32) (hR : R + 32 ≤ 624) : Met l yX6_scores wsX6_scores { frames := 0, cells := 0, slots := 0, locals := 0 } (mPc (dC, dI) vwCl (mT cI cZ) (mW q cI cZ w kp tx td ab be su po st nu li fi ga hh) sz [.ref (q 0), .int (nI R), .int mo]) (va_Qi (fun (r : Int32) (u : (Nat → Int32)) => F_X6_scores w R mo = (r, u)) (mB (dC, dI) vwCl (mT cI cZ) (va_A (mW q cI cZ w kp tx td ab be su po st nu li fi ga hh) sz) (fun u => mW q cI cZ u kp tx td ab be su po st nu li fi ga hh)) (va_A (mW q cI cZ w kp tx td ab be su po st nu li fi ga hh) sz)) 0 0 (va_A (mW q cI cZ w kp tx td ab be su po st nu li fi ga hh) sz) := by
  refine Met.ofW (cc := cX6_scores) (maxL := 4) (ret := (some .int)) (by decide) rfl ?_
  intro p e s m args below meth c s₁ B hml hv
  obtain ⟨rfl, hsz, hP, hK, hD0⟩ := hv
  have hx := B.exec
  have hb := B.bytes
  have hr := B.returns
  have hts := atoms_spec (ws := wsX6_scores) B.pre
  have hown : s.vm.findClass RX6 = some m.cls := findClass_of_methodNamed B.named
  have hlocks := B.notSynchronized
  subst hsz
  have hD := hD0.self (sz := s.heap.size)
  generalize hAe : va_A (mW q cI cZ w kp tx td ab be su po st nu li fi ga hh) s.heap.size = A at hD ⊢
  have hA : ∀ q : Nat, s.heap.size ≤ q → A q := fun q h => by rw [← hAe]; exact Or.inr h
  have hS : va_S A s.heap s.heap [] := va_S.rf
  have hin : ∀ w ∈ wsX60, w ∈ wsX6_scores := by decide +kernel
  have lk7 := hts (.fieldLink RX6 7 "PostRoundersModel" "w" "[I") (by decide +kernel)
  have hl := lv_entry ([.ref (q 0), .int (nI R), .int mo]) (n := 4) (Nat.le_of_ble_eq_true rfl)
  rw [lg_entry_eq]
  generalize (lg_sl ([.ref (q 0), .int (nI R), .int mo]) ++ List.replicate (4 - (lg_sl ([.ref (q 0), .int (nI R), .int mo])).length) Slot.unset).toArray = ls at hl ⊢
  have hl : lv_has ls 4 [(0, .ref (q 0)), (1, .int (nI R)), (2, .int mo)] := hl
  obtain ⟨OUT, hO⟩ : ∃ z, z = F_X6_scores w R mo := ⟨_, rfl⟩
  have hF := hO
  unfold F_X6_scores at hF
  refine lv_aload_n hx hb dX6_scores_0 rfl (lv_at hl 0 rfl) ?_
  refine va_get (D := (dC, dI)) (ci := 6) (v := .ref (q 1)) (C := RX6) (T := TX6) (N := 14) hx hb hts hin hown hK hP 0 rfl rfl 0 (by decide) lk7 (fun _ h9 => h9) rfl dX6_scores_1 ?_
  refine lv_iload_n hx hb dX6_scores_4 rfl (lv_at hl 1 rfl) ?_
  refine lv_iconst (v := nI 3) hx hb dX6_scores_5 (by decide) ?_
  refine qv_iadd hx hb (R + 3) dX6_scores_6 (by omega) ?_
  refine qv_ald (v := w (R + 3)) hx hb hK hP 1 0 rfl rfl (by omega) (by decide) (rfl) dX6_scores_7 ?_
  refine lv_istore_n (lv' := [(3, .int (w (R + 3))), (0, .ref (q 0)), (1, .int (nI R)), (2, .int mo)]) hx hb dX6_scores_8 rfl hl (by decide) rfl (fun ls hl => ?_)
  refine lv_aload_n hx hb dX6_scores_9 rfl (lv_at hl 1 rfl) ?_
  refine va_get (D := (dC, dI)) (ci := 6) (v := .ref (q 1)) (C := RX6) (T := TX6) (N := 14) hx hb hts hin hown hK hP 0 rfl rfl 0 (by decide) lk7 (fun _ h9 => h9) rfl dX6_scores_10 ?_
  refine lv_iload_n hx hb dX6_scores_13 rfl (lv_at hl 2 rfl) ?_
  refine lv_iconst (v := nI 3) hx hb dX6_scores_14 (by decide) ?_
  refine qv_iadd hx hb (R + 3) dX6_scores_15 (by omega) ?_
  refine lv_iload_n hx hb dX6_scores_16 rfl (lv_at hl 0 rfl) ?_
  refine lv_iload_n hx hb dX6_scores_17 rfl (lv_at hl 3 rfl) ?_
  refine lv_iadd hx hb dX6_scores_18 ?_
  refine lv_sipush (v := nI 9999) hx hb dX6_scores_19 (by decide) ?_
  refine lv_icmp_le (tgt := 31) hx hb dX6_scores_22 (by decide) (fun c_22 => ?_) (fun c_22 => ?_)
  · rw [if_pos c_22] at hF
    refine lv_iload_n hx hb dX6_scores_31 rfl (lv_at hl 0 rfl) ?_
    refine lv_iload_n hx hb dX6_scores_32 rfl (lv_at hl 3 rfl) ?_
    refine lv_iadd hx hb dX6_scores_33 ?_
    refine qv_ast (ws' := mW q cI cZ (upd w (R + 3) ((w (R + 3)) + mo)) kp tx td ab be su po st nu li fi ga hh) hx hb hK hP hD hS 1 0 rfl rfl (by omega) (by decide) dX6_scores_34 rfl (fun H locs hP hD hS => ?_)
    refine lv_aload_n hx hb dX6_scores_35 rfl (lv_at hl 1 rfl) ?_
    refine va_get (D := (dC, dI)) (ci := 6) (v := .ref (q 1)) (C := RX6) (T := TX6) (N := 14) hx hb hts hin hown hK hP 0 rfl rfl 0 (by decide) lk7 (fun _ h9 => h9) rfl dX6_scores_36 ?_
    refine lv_iload_n hx hb dX6_scores_39 rfl (lv_at hl 2 rfl) ?_
    refine lv_iconst (v := nI 3) hx hb dX6_scores_40 (by decide) ?_
    refine qv_iadd hx hb (R + 3) dX6_scores_41 (by omega) ?_
    refine qv_ald (v := (w (R + 3)) + mo) hx hb hK hP 1 0 rfl rfl (by omega) (by decide) (pk_us) dX6_scores_42 ?_
    refine lv_iload_n hx hb dX6_scores_43 rfl (lv_at hl 0 rfl) ?_
    refine lv_isub hx hb dX6_scores_44 ?_
    have hP9 : va_P (dC, dI) vwCl (mW q cI cZ (upd w (R + 3) ((w (R + 3)) + mo)) kp tx td ab be su po st nu li fi ga hh) H := hP
    exact W.iret (v := ((w (R + 3)) + mo) - (w (R + 3))) hx hb hr (fun t ht hW => ⟨⟨_, (upd w (R + 3) ((w (R + 3)) + mo)), rfl, hO.symm.trans hF, by rw [ht]; exact hP9, va_K.moved hW.alike hK, hD⟩, hS.F ht⟩) hS.2.2 dX6_scores_45
  · rw [if_neg c_22] at hF
    refine lv_sipush (v := nI 9999) hx hb dX6_scores_25 (by decide) ?_
    refine lv_goto (tgt := 34) hx hb dX6_scores_28 (by decide) ?_
    refine qv_ast (ws' := mW q cI cZ (upd w (R + 3) (nI 9999)) kp tx td ab be su po st nu li fi ga hh) hx hb hK hP hD hS 1 0 rfl rfl (by omega) (by decide) dX6_scores_34 rfl (fun H locs hP hD hS => ?_)
    refine lv_aload_n hx hb dX6_scores_35 rfl (lv_at hl 1 rfl) ?_
    refine va_get (D := (dC, dI)) (ci := 6) (v := .ref (q 1)) (C := RX6) (T := TX6) (N := 14) hx hb hts hin hown hK hP 0 rfl rfl 0 (by decide) lk7 (fun _ h9 => h9) rfl dX6_scores_36 ?_
    refine lv_iload_n hx hb dX6_scores_39 rfl (lv_at hl 2 rfl) ?_
    refine lv_iconst (v := nI 3) hx hb dX6_scores_40 (by decide) ?_
    refine qv_iadd hx hb (R + 3) dX6_scores_41 (by omega) ?_
    refine qv_ald (v := nI 9999) hx hb hK hP 1 0 rfl rfl (by omega) (by decide) (pk_us) dX6_scores_42 ?_
    refine lv_iload_n hx hb dX6_scores_43 rfl (lv_at hl 0 rfl) ?_
    refine lv_isub hx hb dX6_scores_44 ?_
    have hP9 : va_P (dC, dI) vwCl (mW q cI cZ (upd w (R + 3) (nI 9999)) kp tx td ab be su po st nu li fi ga hh) H := hP
    exact W.iret (v := (nI 9999) - (w (R + 3))) hx hb hr (fun t ht hW => ⟨⟨_, (upd w (R + 3) (nI 9999)), rfl, hO.symm.trans hF, by rw [ht]; exact hP9, va_K.moved hW.alike hK, hD⟩, hS.F ht⟩) hS.2.2 dX6_scores_45
