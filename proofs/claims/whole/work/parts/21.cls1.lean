def F_X5_within (v : Int32) (lo : Int32) (hi : Int32) : Bool := if v < lo then false else (if hi < v then false else true)
set_option maxHeartbeats 4000000 in
set_option maxRecDepth 100000 in
theorem c_X5_within (l : Launch) (v : Int32) (lo : Int32) (hi : Int32) : Met l yX5_within wsX5_within { frames := 0, cells := 0, slots := 0, locals := 0 } (va_Pc [.int v, .int lo, .int hi] (fun _ => True)) (vp_Si (fun r => r = if F_X5_within v lo hi = true then 1 else 0)) 0 0 (fun _ => False) := by
  refine Met.ofW (cc := cX5_within) (maxL := 3) (ret := (some .boolean)) (by decide) rfl ?_
  intro p e s m args below meth c s₁ B hml hv
  obtain ⟨rfl, -⟩ := hv
  have hx := B.exec
  have hb := B.bytes
  have hr := B.returns
  have hts := atoms_spec (ws := wsX5_within) B.pre
  have hown : s.vm.findClass RX5 = some m.cls := findClass_of_methodNamed B.named
  have hlocks := B.notSynchronized
  have hl := lv_entry ([.int v, .int lo, .int hi]) (n := 3) (Nat.le_of_ble_eq_true rfl)
  rw [lg_entry_eq]
  generalize (lg_sl ([.int v, .int lo, .int hi]) ++ List.replicate (3 - (lg_sl ([.int v, .int lo, .int hi])).length) Slot.unset).toArray = ls at hl ⊢
  have hl : lv_has ls 3 [(0, .int v), (1, .int lo), (2, .int hi)] := hl
  obtain ⟨OUT, hO⟩ : ∃ z, z = F_X5_within v lo hi := ⟨_, rfl⟩
  have hF := hO
  unfold F_X5_within at hF
  refine lv_iload_n hx hb dX5_within_0 rfl (lv_at hl 0 rfl) ?_
  refine lv_iload_n hx hb dX5_within_1 rfl (lv_at hl 1 rfl) ?_
  refine lv_icmp_lt (tgt := 14) hx hb dX5_within_2 (by decide) (fun c_2 => ?_) (fun c_2 => ?_)
  · rw [if_pos c_2] at hF
    refine lv_iconst (v := nI 0) hx hb dX5_within_14 (by decide) ?_
    have hq : (nI 0 : Int32) = if F_X5_within v lo hi = true then 1 else 0 := by rw [← hO, hF] <;> rfl
    exact W.zret (v := nI 0) hx hb hr (by rfl) (fun t ht hW => ⟨_, rfl, hq, ht⟩) (fun _ h => by cases h) dX5_within_15
  · rw [if_neg c_2] at hF
    refine lv_iload_n hx hb dX5_within_5 rfl (lv_at hl 0 rfl) ?_
    refine lv_iload_n hx hb dX5_within_6 rfl (lv_at hl 2 rfl) ?_
    refine lv_icmp_gt (tgt := 14) hx hb dX5_within_7 (by decide) (fun c_7 => ?_) (fun c_7 => ?_)
    · rw [if_pos c_7] at hF
      refine lv_iconst (v := nI 0) hx hb dX5_within_14 (by decide) ?_
      have hq : (nI 0 : Int32) = if F_X5_within v lo hi = true then 1 else 0 := by rw [← hO, hF] <;> rfl
      exact W.zret (v := nI 0) hx hb hr (by rfl) (fun t ht hW => ⟨_, rfl, hq, ht⟩) (fun _ h => by cases h) dX5_within_15
    · rw [if_neg c_7] at hF
      refine lv_iconst (v := nI 1) hx hb dX5_within_10 (by decide) ?_
      refine lv_goto (tgt := 15) hx hb dX5_within_11 (by decide) ?_
      have hq : (nI 1 : Int32) = if F_X5_within v lo hi = true then 1 else 0 := by rw [← hO, hF] <;> rfl
      exact W.zret (v := nI 1) hx hb hr (by rfl) (fun t ht hW => ⟨_, rfl, hq, ht⟩) (fun _ h => by cases h) dX5_within_15
def F_X5_isKind (k : Int32) : Bool := (F_X5_within k (nI 0) (nI 5))
set_option maxHeartbeats 4000000 in
set_option maxRecDepth 100000 in
theorem c_X5_isKind (l : Launch) (k : Int32) : Met l yX5_isKind wsX5_isKind { frames := 1, cells := 0, slots := 0, locals := 22 } (va_Pc [.int k] (fun _ => True)) (vp_Si (fun r => r = if F_X5_isKind k = true then 1 else 0)) 0 0 (fun _ => False) := by
  refine Met.ofW (cc := cX5_isKind) (maxL := 1) (ret := (some .boolean)) (by decide) rfl ?_
  intro p e s m args below meth c s₁ B hml hv
  obtain ⟨rfl, -⟩ := hv
  have hx := B.exec
  have hb := B.bytes
  have hr := B.returns
  have hts := atoms_spec (ws := wsX5_isKind) B.pre
  have hown : s.vm.findClass RX5 = some m.cls := findClass_of_methodNamed B.named
  have hlocks := B.notSynchronized
  have hl := lv_entry ([.int k]) (n := 1) (Nat.le_of_ble_eq_true rfl)
  rw [lg_entry_eq]
  generalize (lg_sl ([.int k]) ++ List.replicate (1 - (lg_sl ([.int k])).length) Slot.unset).toArray = ls at hl ⊢
  have hl : lv_has ls 1 [(0, .int k)] := hl
  obtain ⟨OUT, hO⟩ : ∃ z, z = F_X5_isKind k := ⟨_, rfl⟩
  have hF := hO
  unfold F_X5_isKind at hF
  refine lv_iload_n hx hb dX5_isKind_0 rfl (lv_at hl 0 rfl) ?_
  refine lv_iconst (v := nI 0) hx hb dX5_isKind_1 (by decide) ?_
  refine lv_iconst (v := nI 5) hx hb dX5_isKind_2 (by decide) ?_
  refine qc_Si (As := [.int k, .int (nI 0), .int (nI 5)]) (rest := []) ⟨hx, hb, hml, hown, hts⟩ (c_X5_within l k (nI 0) (nI 5)) (va_cwS 3 hts gX5_isKind_X5_within rfl rfl rfl (by decide +kernel) ⟨Nat.le_of_ble_eq_true rfl, Nat.le_of_ble_eq_true rfl⟩) rfl hl.1 rfl (Nat.le_of_ble_eq_true rfl) dX5_isKind_3 ⟨Nat.zero_le _, Nat.zero_le _⟩ (fun r_3 hw_3 => ?_)
  subst hw_3
  have hq : (if (F_X5_within k (nI 0) (nI 5)) = true then 1 else 0 : Int32) = if F_X5_isKind k = true then 1 else 0 := by rw [← hO, hF] <;> rfl
  exact W.zret (v := if (F_X5_within k (nI 0) (nI 5)) = true then 1 else 0) hx hb hr (zb_nar _) (fun t ht hW => ⟨_, rfl, hq, ht⟩) (fun _ h => by cases h) dX5_isKind_6
def F_X5_isHit (h : Int32) : Bool := (F_X5_within h (nI 0) (nI 9))
set_option maxHeartbeats 4000000 in
set_option maxRecDepth 100000 in
theorem c_X5_isHit (l : Launch) (h : Int32) : Met l yX5_isHit wsX5_isHit { frames := 1, cells := 0, slots := 0, locals := 22 } (va_Pc [.int h] (fun _ => True)) (vp_Si (fun r => r = if F_X5_isHit h = true then 1 else 0)) 0 0 (fun _ => False) := by
  refine Met.ofW (cc := cX5_isHit) (maxL := 1) (ret := (some .boolean)) (by decide) rfl ?_
  intro p e s m args below meth c s₁ B hml hv
  obtain ⟨rfl, -⟩ := hv
  have hx := B.exec
  have hb := B.bytes
  have hr := B.returns
  have hts := atoms_spec (ws := wsX5_isHit) B.pre
  have hown : s.vm.findClass RX5 = some m.cls := findClass_of_methodNamed B.named
  have hlocks := B.notSynchronized
  have hl := lv_entry ([.int h]) (n := 1) (Nat.le_of_ble_eq_true rfl)
  rw [lg_entry_eq]
  generalize (lg_sl ([.int h]) ++ List.replicate (1 - (lg_sl ([.int h])).length) Slot.unset).toArray = ls at hl ⊢
  have hl : lv_has ls 1 [(0, .int h)] := hl
  obtain ⟨OUT, hO⟩ : ∃ z, z = F_X5_isHit h := ⟨_, rfl⟩
  have hF := hO
  unfold F_X5_isHit at hF
  refine lv_iload_n hx hb dX5_isHit_0 rfl (lv_at hl 0 rfl) ?_
  refine lv_iconst (v := nI 0) hx hb dX5_isHit_1 (by decide) ?_
  refine lv_bipush (v := nI 9) hx hb dX5_isHit_2 (by decide) ?_
  refine qc_Si (As := [.int h, .int (nI 0), .int (nI 9)]) (rest := []) ⟨hx, hb, hml, hown, hts⟩ (c_X5_within l h (nI 0) (nI 9)) (va_cwS 3 hts gX5_isHit_X5_within rfl rfl rfl (by decide +kernel) ⟨Nat.le_of_ble_eq_true rfl, Nat.le_of_ble_eq_true rfl⟩) rfl hl.1 rfl (Nat.le_of_ble_eq_true rfl) dX5_isHit_4 ⟨Nat.zero_le _, Nat.zero_le _⟩ (fun r_4 hw_4 => ?_)
  subst hw_4
  have hq : (if (F_X5_within h (nI 0) (nI 9)) = true then 1 else 0 : Int32) = if F_X5_isHit h = true then 1 else 0 := by rw [← hO, hF] <;> rfl
  exact W.zret (v := if (F_X5_within h (nI 0) (nI 9)) = true then 1 else 0) hx hb hr (zb_nar _) (fun t ht hW => ⟨_, rfl, hq, ht⟩) (fun _ h => by cases h) dX5_isHit_7
def F_X5_isImage (i : Int32) : Bool := (F_X5_within i (nI 0) (nI 1))
set_option maxHeartbeats 4000000 in
set_option maxRecDepth 100000 in
theorem c_X5_isImage (l : Launch) (i : Int32) : Met l yX5_isImage wsX5_isImage { frames := 1, cells := 0, slots := 0, locals := 22 } (va_Pc [.int i] (fun _ => True)) (vp_Si (fun r => r = if F_X5_isImage i = true then 1 else 0)) 0 0 (fun _ => False) := by
  refine Met.ofW (cc := cX5_isImage) (maxL := 1) (ret := (some .boolean)) (by decide) rfl ?_
  intro p e s m args below meth c s₁ B hml hv
  obtain ⟨rfl, -⟩ := hv
  have hx := B.exec
  have hb := B.bytes
  have hr := B.returns
  have hts := atoms_spec (ws := wsX5_isImage) B.pre
  have hown : s.vm.findClass RX5 = some m.cls := findClass_of_methodNamed B.named
  have hlocks := B.notSynchronized
  have hl := lv_entry ([.int i]) (n := 1) (Nat.le_of_ble_eq_true rfl)
  rw [lg_entry_eq]
  generalize (lg_sl ([.int i]) ++ List.replicate (1 - (lg_sl ([.int i])).length) Slot.unset).toArray = ls at hl ⊢
  have hl : lv_has ls 1 [(0, .int i)] := hl
  obtain ⟨OUT, hO⟩ : ∃ z, z = F_X5_isImage i := ⟨_, rfl⟩
  have hF := hO
  unfold F_X5_isImage at hF
  refine lv_iload_n hx hb dX5_isImage_0 rfl (lv_at hl 0 rfl) ?_
  refine lv_iconst (v := nI 0) hx hb dX5_isImage_1 (by decide) ?_
  refine lv_iconst (v := nI 1) hx hb dX5_isImage_2 (by decide) ?_
  refine qc_Si (As := [.int i, .int (nI 0), .int (nI 1)]) (rest := []) ⟨hx, hb, hml, hown, hts⟩ (c_X5_within l i (nI 0) (nI 1)) (va_cwS 3 hts gX5_isImage_X5_within rfl rfl rfl (by decide +kernel) ⟨Nat.le_of_ble_eq_true rfl, Nat.le_of_ble_eq_true rfl⟩) rfl hl.1 rfl (Nat.le_of_ble_eq_true rfl) dX5_isImage_3 ⟨Nat.zero_le _, Nat.zero_le _⟩ (fun r_3 hw_3 => ?_)
  subst hw_3
  have hq : (if (F_X5_within i (nI 0) (nI 1)) = true then 1 else 0 : Int32) = if F_X5_isImage i = true then 1 else 0 := by rw [← hO, hF] <;> rfl
  exact W.zret (v := if (F_X5_within i (nI 0) (nI 1)) = true then 1 else 0) hx hb hr (zb_nar _) (fun t ht hW => ⟨_, rfl, hq, ht⟩) (fun _ h => by cases h) dX5_isImage_6
def F_X5_hitWorth (k : Int32) (h : Int32) (t : Int32) : Int32 := if (nI 0) < (h - (nI 1)) then (if (t - t / (nI 2) * (nI 2)) = 0 then (if k = nI 1 then h - (nI 1) else (if k = nI 2 then h else (if k = nI 3 then (if (t - t / (nI 4) * (nI 4)) = 0 then nI 0 else h) else (if k = nI 4 then (if h < (nI 7) then h - (nI 1) else (h - (nI 1)) - (nI 2)) else (if k = nI 5 then (if (t / (nI 20)) < (nI 3) then h + (t / (nI 20)) else h + (nI 3)) else h))))) else (if k = nI 1 then h - (nI 1) else (if k = nI 2 then h + (nI 1) else (if k = nI 3 then (if (t - t / (nI 4) * (nI 4)) = 0 then nI 0 else h) else (if k = nI 4 then (if h < (nI 7) then h - (nI 1) else (h - (nI 1)) - (nI 2)) else (if k = nI 5 then (if (t / (nI 20)) < (nI 3) then (h + (nI 1)) + (t / (nI 20)) else (h + (nI 1)) + (nI 3)) else h)))))) else (if (t - t / (nI 2) * (nI 2)) = 0 then (if k = nI 1 then nI 0 else (if k = nI 2 then h else (if k = nI 3 then (if (t - t / (nI 4) * (nI 4)) = 0 then nI 0 else h) else (if k = nI 4 then (if h < (nI 7) then nI 0 else (nI 0) - (nI 2)) else (if k = nI 5 then (if (t / (nI 20)) < (nI 3) then h + (t / (nI 20)) else h + (nI 3)) else h))))) else (if k = nI 1 then nI 0 else (if k = nI 2 then h + (nI 1) else (if k = nI 3 then (if (t - t / (nI 4) * (nI 4)) = 0 then nI 0 else h) else (if k = nI 4 then (if h < (nI 7) then nI 0 else (nI 0) - (nI 2)) else (if k = nI 5 then (if (t / (nI 20)) < (nI 3) then (h + (nI 1)) + (t / (nI 20)) else (h + (nI 1)) + (nI 3)) else h))))))
set_option maxHeartbeats 4000000 in
set_option maxRecDepth 100000 in
theorem c_X5_hitWorth (l : Launch) (k : Int32) (h : Int32) (t : Int32) : Met l yX5_hitWorth wsX5_hitWorth { frames := 1, cells := 0, slots := 0, locals := 14 } (va_Pc [.int k, .int h, .int t] (fun _ => True)) (vp_Si (fun r => F_X5_hitWorth k h t = r)) 0 0 (fun _ => False) := by
  refine Met.ofW (cc := cX5_hitWorth) (maxL := 5) (ret := (some .int)) (by decide) rfl ?_
  intro p e s m args below meth c s₁ B hml hv
  obtain ⟨rfl, -⟩ := hv
  have hx := B.exec
  have hb := B.bytes
  have hr := B.returns
  have hts := atoms_spec (ws := wsX5_hitWorth) B.pre
  have hown : s.vm.findClass RX5 = some m.cls := findClass_of_methodNamed B.named
  have hlocks := B.notSynchronized
  have hl := lv_entry ([.int k, .int h, .int t]) (n := 5) (Nat.le_of_ble_eq_true rfl)
  rw [lg_entry_eq]
  generalize (lg_sl ([.int k, .int h, .int t]) ++ List.replicate (5 - (lg_sl ([.int k, .int h, .int t])).length) Slot.unset).toArray = ls at hl ⊢
  have hl : lv_has ls 5 [(0, .int k), (1, .int h), (2, .int t)] := hl
  obtain ⟨OUT, hO⟩ : ∃ z, z = F_X5_hitWorth k h t := ⟨_, rfl⟩
  have hF := hO
  unfold F_X5_hitWorth at hF
  refine lv_iconst (v := nI 0) hx hb dX5_hitWorth_0 (by decide) ?_
  refine lv_iload_n hx hb dX5_hitWorth_1 rfl (lv_at hl 1 rfl) ?_
  refine lv_iconst (v := nI 1) hx hb dX5_hitWorth_2 (by decide) ?_
  refine lv_isub hx hb dX5_hitWorth_3 ?_
  refine va_mmax hx hb (hml.trans hl.1.symm) hown (hts (.methodLink RX5 168 Lib.Math.max.name) (by decide +kernel)) (hts (.static Lib.Math.max.name) (by decide +kernel)) (hts (.initialized "java/lang/Math") (by decide +kernel)) (hts (.code Lib.Math.max.name Lib.Math.max.code 2 (some .int)) (by decide +kernel)) (Nat.le_of_ble_eq_true rfl) (Nat.le_of_ble_eq_true rfl) (Nat.zero_le _) (Nat.zero_le _) dX5_hitWorth_4 ?_
  by_cases c_4 : (nI 0) < (h - (nI 1))
  · rw [if_pos c_4] at hF ⊢
    refine lv_istore_n (lv' := [(3, .int (h - (nI 1))), (0, .int k), (1, .int h), (2, .int t)]) hx hb dX5_hitWorth_7 rfl hl (by decide) rfl (fun ls hl => ?_)
    refine lv_iload_n hx hb dX5_hitWorth_8 rfl (lv_at hl 3 rfl) ?_
    refine lv_iconst (v := nI 2) hx hb dX5_hitWorth_9 (by decide) ?_
    refine lv_irem hx hb dX5_hitWorth_10 (by decide) ?_
    refine lv_if_ne (tgt := 18) hx hb dX5_hitWorth_11 (by decide) (fun c_11 => ?_) (fun c_11 => ?_)
    · rw [if_neg c_11] at hF
      refine lv_iload_n hx hb dX5_hitWorth_18 rfl (lv_at hl 2 rfl) ?_
      refine lv_iconst (v := nI 1) hx hb dX5_hitWorth_19 (by decide) ?_
      refine lv_iadd hx hb dX5_hitWorth_20 ?_
      refine lv_istore (lv' := [(4, .int (h + (nI 1))), (3, .int (h - (nI 1))), (0, .int k), (1, .int h), (2, .int t)]) hx hb dX5_hitWorth_21 hl (by decide) rfl (fun ls hl => ?_)
      refine lv_iload_n hx hb dX5_hitWorth_23 rfl (lv_at hl 2 rfl) ?_
      by_cases c_24_1 : k = nI 1
      · rw [if_pos c_24_1] at hF
        refine lv_tableIn (off := 36) (tgt := 60) hx hb dX5_hitWorth_24 (by rw [c_24_1]; decide) (by rw [c_24_1]; decide) (by rw [c_24_1]; rfl) (by decide) ?_
        refine lv_iload_n hx hb dX5_hitWorth_60 rfl (lv_at hl 1 rfl) ?_
        exact W.iret (v := h - (nI 1)) hx hb hr (fun t ht hW => ⟨_, rfl, hO.symm.trans hF, ht⟩) (fun _ h => by cases h) dX5_hitWorth_61
      · rw [if_neg c_24_1] at hF
        by_cases c_24_2 : k = nI 2
        · rw [if_pos c_24_2] at hF
          refine lv_tableIn (off := 38) (tgt := 62) hx hb dX5_hitWorth_24 (by rw [c_24_2]; decide) (by rw [c_24_2]; decide) (by rw [c_24_2]; rfl) (by decide) ?_
          refine lv_iload hx hb dX5_hitWorth_62 (lv_at hl 0 rfl) ?_
          exact W.iret (v := h + (nI 1)) hx hb hr (fun t ht hW => ⟨_, rfl, hO.symm.trans hF, ht⟩) (fun _ h => by cases h) dX5_hitWorth_64
        · rw [if_neg c_24_2] at hF
          by_cases c_24_3 : k = nI 3
          · rw [if_pos c_24_3] at hF
            refine lv_tableIn (off := 41) (tgt := 65) hx hb dX5_hitWorth_24 (by rw [c_24_3]; decide) (by rw [c_24_3]; decide) (by rw [c_24_3]; rfl) (by decide) ?_
            refine lv_iload_n hx hb dX5_hitWorth_65 rfl (lv_at hl 4 rfl) ?_
            refine lv_iconst (v := nI 4) hx hb dX5_hitWorth_66 (by decide) ?_
            refine lv_irem hx hb dX5_hitWorth_67 (by decide) ?_
            refine lv_if_ne (tgt := 75) hx hb dX5_hitWorth_68 (by decide) (fun c_68 => ?_) (fun c_68 => ?_)
            · rw [if_neg c_68] at hF
              refine lv_iload_n hx hb dX5_hitWorth_75 rfl (lv_at hl 3 rfl) ?_
              exact W.iret (v := h) hx hb hr (fun t ht hW => ⟨_, rfl, hO.symm.trans hF, ht⟩) (fun _ h => by cases h) dX5_hitWorth_76
            · rw [if_pos c_68] at hF
              refine lv_iconst (v := nI 0) hx hb dX5_hitWorth_71 (by decide) ?_
              refine lv_goto (tgt := 76) hx hb dX5_hitWorth_72 (by decide) ?_
              exact W.iret (v := nI 0) hx hb hr (fun t ht hW => ⟨_, rfl, hO.symm.trans hF, ht⟩) (fun _ h => by cases h) dX5_hitWorth_76
          · rw [if_neg c_24_3] at hF
            by_cases c_24_4 : k = nI 4
            · rw [if_pos c_24_4] at hF
              refine lv_tableIn (off := 53) (tgt := 77) hx hb dX5_hitWorth_24 (by rw [c_24_4]; decide) (by rw [c_24_4]; decide) (by rw [c_24_4]; rfl) (by decide) ?_
              refine lv_iload_n hx hb dX5_hitWorth_77 rfl (lv_at hl 3 rfl) ?_
              refine lv_bipush (v := nI 7) hx hb dX5_hitWorth_78 (by decide) ?_
              refine lv_icmp_lt (tgt := 89) hx hb dX5_hitWorth_80 (by decide) (fun c_80 => ?_) (fun c_80 => ?_)
              · rw [if_pos c_80] at hF
                refine lv_iload_n hx hb dX5_hitWorth_89 rfl (lv_at hl 1 rfl) ?_
                exact W.iret (v := h - (nI 1)) hx hb hr (fun t ht hW => ⟨_, rfl, hO.symm.trans hF, ht⟩) (fun _ h => by cases h) dX5_hitWorth_90
              · rw [if_neg c_80] at hF
                refine lv_iload_n hx hb dX5_hitWorth_83 rfl (lv_at hl 1 rfl) ?_
                refine lv_iconst (v := nI 2) hx hb dX5_hitWorth_84 (by decide) ?_
                refine lv_isub hx hb dX5_hitWorth_85 ?_
                refine lv_goto (tgt := 90) hx hb dX5_hitWorth_86 (by decide) ?_
                exact W.iret (v := (h - (nI 1)) - (nI 2)) hx hb hr (fun t ht hW => ⟨_, rfl, hO.symm.trans hF, ht⟩) (fun _ h => by cases h) dX5_hitWorth_90
            · rw [if_neg c_24_4] at hF
              by_cases c_24_5 : k = nI 5
              · rw [if_pos c_24_5] at hF
                refine lv_tableIn (off := 67) (tgt := 91) hx hb dX5_hitWorth_24 (by rw [c_24_5]; decide) (by rw [c_24_5]; decide) (by rw [c_24_5]; rfl) (by decide) ?_
                refine lv_iload hx hb dX5_hitWorth_91 (lv_at hl 0 rfl) ?_
                refine lv_iconst (v := nI 3) hx hb dX5_hitWorth_93 (by decide) ?_
                refine lv_iload_n hx hb dX5_hitWorth_94 rfl (lv_at hl 4 rfl) ?_
                refine lv_bipush (v := nI 20) hx hb dX5_hitWorth_95 (by decide) ?_
                refine lv_idiv hx hb dX5_hitWorth_97 (by decide) ?_
                refine va_mmin hx hb (hml.trans hl.1.symm) hown (hts (.methodLink RX5 136 Lib.Math.min.name) (by decide +kernel)) (hts (.static Lib.Math.min.name) (by decide +kernel)) (hts (.initialized "java/lang/Math") (by decide +kernel)) (hts (.code Lib.Math.min.name Lib.Math.min.code 2 (some .int)) (by decide +kernel)) (Nat.le_of_ble_eq_true rfl) (Nat.le_of_ble_eq_true rfl) (Nat.zero_le _) (Nat.zero_le _) dX5_hitWorth_98 ?_
                by_cases c_98 : (t / (nI 20)) < (nI 3)
                · rw [if_pos c_98] at hF ⊢
                  refine lv_iadd hx hb dX5_hitWorth_101 ?_
                  exact W.iret (v := (h + (nI 1)) + (t / (nI 20))) hx hb hr (fun t ht hW => ⟨_, rfl, hO.symm.trans hF, ht⟩) (fun _ h => by cases h) dX5_hitWorth_102
                · rw [if_neg c_98] at hF ⊢
                  refine lv_iadd hx hb dX5_hitWorth_101 ?_
                  exact W.iret (v := (h + (nI 1)) + (nI 3)) hx hb hr (fun t ht hW => ⟨_, rfl, hO.symm.trans hF, ht⟩) (fun _ h => by cases h) dX5_hitWorth_102
              · rw [if_neg c_24_5] at hF
                have e_24_1 := qn_ne c_24_1 (by decide)
                have e_24_2 := qn_ne c_24_2 (by decide)
                have e_24_3 := qn_ne c_24_3 (by decide)
                have e_24_4 := qn_ne c_24_4 (by decide)
                have e_24_5 := qn_ne c_24_5 (by decide)
                refine lv_tableOut (tgt := 103) hx hb dX5_hitWorth_24 (by omega) (by decide) ?_
                refine lv_iload_n hx hb dX5_hitWorth_103 rfl (lv_at hl 3 rfl) ?_
                exact W.iret (v := h) hx hb hr (fun t ht hW => ⟨_, rfl, hO.symm.trans hF, ht⟩) (fun _ h => by cases h) dX5_hitWorth_104
    · rw [if_pos c_11] at hF
      refine lv_iload_n hx hb dX5_hitWorth_14 rfl (lv_at hl 2 rfl) ?_
      refine lv_goto (tgt := 21) hx hb dX5_hitWorth_15 (by decide) ?_
      refine lv_istore (lv' := [(4, .int h), (3, .int (h - (nI 1))), (0, .int k), (1, .int h), (2, .int t)]) hx hb dX5_hitWorth_21 hl (by decide) rfl (fun ls hl => ?_)
      refine lv_iload_n hx hb dX5_hitWorth_23 rfl (lv_at hl 2 rfl) ?_
      by_cases c_24_1 : k = nI 1
      · rw [if_pos c_24_1] at hF
        refine lv_tableIn (off := 36) (tgt := 60) hx hb dX5_hitWorth_24 (by rw [c_24_1]; decide) (by rw [c_24_1]; decide) (by rw [c_24_1]; rfl) (by decide) ?_
        refine lv_iload_n hx hb dX5_hitWorth_60 rfl (lv_at hl 1 rfl) ?_
        exact W.iret (v := h - (nI 1)) hx hb hr (fun t ht hW => ⟨_, rfl, hO.symm.trans hF, ht⟩) (fun _ h => by cases h) dX5_hitWorth_61
      · rw [if_neg c_24_1] at hF
        by_cases c_24_2 : k = nI 2
        · rw [if_pos c_24_2] at hF
          refine lv_tableIn (off := 38) (tgt := 62) hx hb dX5_hitWorth_24 (by rw [c_24_2]; decide) (by rw [c_24_2]; decide) (by rw [c_24_2]; rfl) (by decide) ?_
          refine lv_iload hx hb dX5_hitWorth_62 (lv_at hl 0 rfl) ?_
          exact W.iret (v := h) hx hb hr (fun t ht hW => ⟨_, rfl, hO.symm.trans hF, ht⟩) (fun _ h => by cases h) dX5_hitWorth_64
        · rw [if_neg c_24_2] at hF
          by_cases c_24_3 : k = nI 3
          · rw [if_pos c_24_3] at hF
            refine lv_tableIn (off := 41) (tgt := 65) hx hb dX5_hitWorth_24 (by rw [c_24_3]; decide) (by rw [c_24_3]; decide) (by rw [c_24_3]; rfl) (by decide) ?_
            refine lv_iload_n hx hb dX5_hitWorth_65 rfl (lv_at hl 4 rfl) ?_
            refine lv_iconst (v := nI 4) hx hb dX5_hitWorth_66 (by decide) ?_
            refine lv_irem hx hb dX5_hitWorth_67 (by decide) ?_
            refine lv_if_ne (tgt := 75) hx hb dX5_hitWorth_68 (by decide) (fun c_68 => ?_) (fun c_68 => ?_)
            · rw [if_neg c_68] at hF
              refine lv_iload_n hx hb dX5_hitWorth_75 rfl (lv_at hl 3 rfl) ?_
              exact W.iret (v := h) hx hb hr (fun t ht hW => ⟨_, rfl, hO.symm.trans hF, ht⟩) (fun _ h => by cases h) dX5_hitWorth_76
            · rw [if_pos c_68] at hF
              refine lv_iconst (v := nI 0) hx hb dX5_hitWorth_71 (by decide) ?_
              refine lv_goto (tgt := 76) hx hb dX5_hitWorth_72 (by decide) ?_
              exact W.iret (v := nI 0) hx hb hr (fun t ht hW => ⟨_, rfl, hO.symm.trans hF, ht⟩) (fun _ h => by cases h) dX5_hitWorth_76
          · rw [if_neg c_24_3] at hF
            by_cases c_24_4 : k = nI 4
            · rw [if_pos c_24_4] at hF
              refine lv_tableIn (off := 53) (tgt := 77) hx hb dX5_hitWorth_24 (by rw [c_24_4]; decide) (by rw [c_24_4]; decide) (by rw [c_24_4]; rfl) (by decide) ?_
              refine lv_iload_n hx hb dX5_hitWorth_77 rfl (lv_at hl 3 rfl) ?_
              refine lv_bipush (v := nI 7) hx hb dX5_hitWorth_78 (by decide) ?_
              refine lv_icmp_lt (tgt := 89) hx hb dX5_hitWorth_80 (by decide) (fun c_80 => ?_) (fun c_80 => ?_)
              · rw [if_pos c_80] at hF
                refine lv_iload_n hx hb dX5_hitWorth_89 rfl (lv_at hl 1 rfl) ?_
                exact W.iret (v := h - (nI 1)) hx hb hr (fun t ht hW => ⟨_, rfl, hO.symm.trans hF, ht⟩) (fun _ h => by cases h) dX5_hitWorth_90
              · rw [if_neg c_80] at hF
                refine lv_iload_n hx hb dX5_hitWorth_83 rfl (lv_at hl 1 rfl) ?_
                refine lv_iconst (v := nI 2) hx hb dX5_hitWorth_84 (by decide) ?_
                refine lv_isub hx hb dX5_hitWorth_85 ?_
                refine lv_goto (tgt := 90) hx hb dX5_hitWorth_86 (by decide) ?_
                exact W.iret (v := (h - (nI 1)) - (nI 2)) hx hb hr (fun t ht hW => ⟨_, rfl, hO.symm.trans hF, ht⟩) (fun _ h => by cases h) dX5_hitWorth_90
            · rw [if_neg c_24_4] at hF
              by_cases c_24_5 : k = nI 5
              · rw [if_pos c_24_5] at hF
                refine lv_tableIn (off := 67) (tgt := 91) hx hb dX5_hitWorth_24 (by rw [c_24_5]; decide) (by rw [c_24_5]; decide) (by rw [c_24_5]; rfl) (by decide) ?_
                refine lv_iload hx hb dX5_hitWorth_91 (lv_at hl 0 rfl) ?_
                refine lv_iconst (v := nI 3) hx hb dX5_hitWorth_93 (by decide) ?_
                refine lv_iload_n hx hb dX5_hitWorth_94 rfl (lv_at hl 4 rfl) ?_
                refine lv_bipush (v := nI 20) hx hb dX5_hitWorth_95 (by decide) ?_
                refine lv_idiv hx hb dX5_hitWorth_97 (by decide) ?_
                refine va_mmin hx hb (hml.trans hl.1.symm) hown (hts (.methodLink RX5 136 Lib.Math.min.name) (by decide +kernel)) (hts (.static Lib.Math.min.name) (by decide +kernel)) (hts (.initialized "java/lang/Math") (by decide +kernel)) (hts (.code Lib.Math.min.name Lib.Math.min.code 2 (some .int)) (by decide +kernel)) (Nat.le_of_ble_eq_true rfl) (Nat.le_of_ble_eq_true rfl) (Nat.zero_le _) (Nat.zero_le _) dX5_hitWorth_98 ?_
                by_cases c_98 : (t / (nI 20)) < (nI 3)
                · rw [if_pos c_98] at hF ⊢
                  refine lv_iadd hx hb dX5_hitWorth_101 ?_
                  exact W.iret (v := h + (t / (nI 20))) hx hb hr (fun t ht hW => ⟨_, rfl, hO.symm.trans hF, ht⟩) (fun _ h => by cases h) dX5_hitWorth_102
                · rw [if_neg c_98] at hF ⊢
                  refine lv_iadd hx hb dX5_hitWorth_101 ?_
                  exact W.iret (v := h + (nI 3)) hx hb hr (fun t ht hW => ⟨_, rfl, hO.symm.trans hF, ht⟩) (fun _ h => by cases h) dX5_hitWorth_102
              · rw [if_neg c_24_5] at hF
                have e_24_1 := qn_ne c_24_1 (by decide)
                have e_24_2 := qn_ne c_24_2 (by decide)
                have e_24_3 := qn_ne c_24_3 (by decide)
                have e_24_4 := qn_ne c_24_4 (by decide)
                have e_24_5 := qn_ne c_24_5 (by decide)
                refine lv_tableOut (tgt := 103) hx hb dX5_hitWorth_24 (by omega) (by decide) ?_
                refine lv_iload_n hx hb dX5_hitWorth_103 rfl (lv_at hl 3 rfl) ?_
                exact W.iret (v := h) hx hb hr (fun t ht hW => ⟨_, rfl, hO.symm.trans hF, ht⟩) (fun _ h => by cases h) dX5_hitWorth_104
  · rw [if_neg c_4] at hF ⊢
    refine lv_istore_n (lv' := [(3, .int (nI 0)), (0, .int k), (1, .int h), (2, .int t)]) hx hb dX5_hitWorth_7 rfl hl (by decide) rfl (fun ls hl => ?_)
    refine lv_iload_n hx hb dX5_hitWorth_8 rfl (lv_at hl 3 rfl) ?_
    refine lv_iconst (v := nI 2) hx hb dX5_hitWorth_9 (by decide) ?_
    refine lv_irem hx hb dX5_hitWorth_10 (by decide) ?_
    refine lv_if_ne (tgt := 18) hx hb dX5_hitWorth_11 (by decide) (fun c_11 => ?_) (fun c_11 => ?_)
    · rw [if_neg c_11] at hF
      refine lv_iload_n hx hb dX5_hitWorth_18 rfl (lv_at hl 2 rfl) ?_
      refine lv_iconst (v := nI 1) hx hb dX5_hitWorth_19 (by decide) ?_
      refine lv_iadd hx hb dX5_hitWorth_20 ?_
      refine lv_istore (lv' := [(4, .int (h + (nI 1))), (3, .int (nI 0)), (0, .int k), (1, .int h), (2, .int t)]) hx hb dX5_hitWorth_21 hl (by decide) rfl (fun ls hl => ?_)
      refine lv_iload_n hx hb dX5_hitWorth_23 rfl (lv_at hl 2 rfl) ?_
      by_cases c_24_1 : k = nI 1
      · rw [if_pos c_24_1] at hF
        refine lv_tableIn (off := 36) (tgt := 60) hx hb dX5_hitWorth_24 (by rw [c_24_1]; decide) (by rw [c_24_1]; decide) (by rw [c_24_1]; rfl) (by decide) ?_
        refine lv_iload_n hx hb dX5_hitWorth_60 rfl (lv_at hl 1 rfl) ?_
        exact W.iret (v := nI 0) hx hb hr (fun t ht hW => ⟨_, rfl, hO.symm.trans hF, ht⟩) (fun _ h => by cases h) dX5_hitWorth_61
      · rw [if_neg c_24_1] at hF
        by_cases c_24_2 : k = nI 2
        · rw [if_pos c_24_2] at hF
          refine lv_tableIn (off := 38) (tgt := 62) hx hb dX5_hitWorth_24 (by rw [c_24_2]; decide) (by rw [c_24_2]; decide) (by rw [c_24_2]; rfl) (by decide) ?_
          refine lv_iload hx hb dX5_hitWorth_62 (lv_at hl 0 rfl) ?_
          exact W.iret (v := h + (nI 1)) hx hb hr (fun t ht hW => ⟨_, rfl, hO.symm.trans hF, ht⟩) (fun _ h => by cases h) dX5_hitWorth_64
        · rw [if_neg c_24_2] at hF
          by_cases c_24_3 : k = nI 3
          · rw [if_pos c_24_3] at hF
            refine lv_tableIn (off := 41) (tgt := 65) hx hb dX5_hitWorth_24 (by rw [c_24_3]; decide) (by rw [c_24_3]; decide) (by rw [c_24_3]; rfl) (by decide) ?_
            refine lv_iload_n hx hb dX5_hitWorth_65 rfl (lv_at hl 4 rfl) ?_
            refine lv_iconst (v := nI 4) hx hb dX5_hitWorth_66 (by decide) ?_
            refine lv_irem hx hb dX5_hitWorth_67 (by decide) ?_
            refine lv_if_ne (tgt := 75) hx hb dX5_hitWorth_68 (by decide) (fun c_68 => ?_) (fun c_68 => ?_)
            · rw [if_neg c_68] at hF
              refine lv_iload_n hx hb dX5_hitWorth_75 rfl (lv_at hl 3 rfl) ?_
              exact W.iret (v := h) hx hb hr (fun t ht hW => ⟨_, rfl, hO.symm.trans hF, ht⟩) (fun _ h => by cases h) dX5_hitWorth_76
            · rw [if_pos c_68] at hF
              refine lv_iconst (v := nI 0) hx hb dX5_hitWorth_71 (by decide) ?_
              refine lv_goto (tgt := 76) hx hb dX5_hitWorth_72 (by decide) ?_
              exact W.iret (v := nI 0) hx hb hr (fun t ht hW => ⟨_, rfl, hO.symm.trans hF, ht⟩) (fun _ h => by cases h) dX5_hitWorth_76
          · rw [if_neg c_24_3] at hF
            by_cases c_24_4 : k = nI 4
            · rw [if_pos c_24_4] at hF
              refine lv_tableIn (off := 53) (tgt := 77) hx hb dX5_hitWorth_24 (by rw [c_24_4]; decide) (by rw [c_24_4]; decide) (by rw [c_24_4]; rfl) (by decide) ?_
              refine lv_iload_n hx hb dX5_hitWorth_77 rfl (lv_at hl 3 rfl) ?_
              refine lv_bipush (v := nI 7) hx hb dX5_hitWorth_78 (by decide) ?_
              refine lv_icmp_lt (tgt := 89) hx hb dX5_hitWorth_80 (by decide) (fun c_80 => ?_) (fun c_80 => ?_)
              · rw [if_pos c_80] at hF
                refine lv_iload_n hx hb dX5_hitWorth_89 rfl (lv_at hl 1 rfl) ?_
                exact W.iret (v := nI 0) hx hb hr (fun t ht hW => ⟨_, rfl, hO.symm.trans hF, ht⟩) (fun _ h => by cases h) dX5_hitWorth_90
              · rw [if_neg c_80] at hF
                refine lv_iload_n hx hb dX5_hitWorth_83 rfl (lv_at hl 1 rfl) ?_
                refine lv_iconst (v := nI 2) hx hb dX5_hitWorth_84 (by decide) ?_
                refine lv_isub hx hb dX5_hitWorth_85 ?_
                refine lv_goto (tgt := 90) hx hb dX5_hitWorth_86 (by decide) ?_
                exact W.iret (v := (nI 0) - (nI 2)) hx hb hr (fun t ht hW => ⟨_, rfl, hO.symm.trans hF, ht⟩) (fun _ h => by cases h) dX5_hitWorth_90
            · rw [if_neg c_24_4] at hF
              by_cases c_24_5 : k = nI 5
              · rw [if_pos c_24_5] at hF
                refine lv_tableIn (off := 67) (tgt := 91) hx hb dX5_hitWorth_24 (by rw [c_24_5]; decide) (by rw [c_24_5]; decide) (by rw [c_24_5]; rfl) (by decide) ?_
                refine lv_iload hx hb dX5_hitWorth_91 (lv_at hl 0 rfl) ?_
                refine lv_iconst (v := nI 3) hx hb dX5_hitWorth_93 (by decide) ?_
                refine lv_iload_n hx hb dX5_hitWorth_94 rfl (lv_at hl 4 rfl) ?_
                refine lv_bipush (v := nI 20) hx hb dX5_hitWorth_95 (by decide) ?_
                refine lv_idiv hx hb dX5_hitWorth_97 (by decide) ?_
                refine va_mmin hx hb (hml.trans hl.1.symm) hown (hts (.methodLink RX5 136 Lib.Math.min.name) (by decide +kernel)) (hts (.static Lib.Math.min.name) (by decide +kernel)) (hts (.initialized "java/lang/Math") (by decide +kernel)) (hts (.code Lib.Math.min.name Lib.Math.min.code 2 (some .int)) (by decide +kernel)) (Nat.le_of_ble_eq_true rfl) (Nat.le_of_ble_eq_true rfl) (Nat.zero_le _) (Nat.zero_le _) dX5_hitWorth_98 ?_
                by_cases c_98 : (t / (nI 20)) < (nI 3)
                · rw [if_pos c_98] at hF ⊢
                  refine lv_iadd hx hb dX5_hitWorth_101 ?_
                  exact W.iret (v := (h + (nI 1)) + (t / (nI 20))) hx hb hr (fun t ht hW => ⟨_, rfl, hO.symm.trans hF, ht⟩) (fun _ h => by cases h) dX5_hitWorth_102
                · rw [if_neg c_98] at hF ⊢
                  refine lv_iadd hx hb dX5_hitWorth_101 ?_
                  exact W.iret (v := (h + (nI 1)) + (nI 3)) hx hb hr (fun t ht hW => ⟨_, rfl, hO.symm.trans hF, ht⟩) (fun _ h => by cases h) dX5_hitWorth_102
              · rw [if_neg c_24_5] at hF
                have e_24_1 := qn_ne c_24_1 (by decide)
                have e_24_2 := qn_ne c_24_2 (by decide)
                have e_24_3 := qn_ne c_24_3 (by decide)
                have e_24_4 := qn_ne c_24_4 (by decide)
                have e_24_5 := qn_ne c_24_5 (by decide)
                refine lv_tableOut (tgt := 103) hx hb dX5_hitWorth_24 (by omega) (by decide) ?_
                refine lv_iload_n hx hb dX5_hitWorth_103 rfl (lv_at hl 3 rfl) ?_
                exact W.iret (v := h) hx hb hr (fun t ht hW => ⟨_, rfl, hO.symm.trans hF, ht⟩) (fun _ h => by cases h) dX5_hitWorth_104
    · rw [if_pos c_11] at hF
      refine lv_iload_n hx hb dX5_hitWorth_14 rfl (lv_at hl 2 rfl) ?_
      refine lv_goto (tgt := 21) hx hb dX5_hitWorth_15 (by decide) ?_
      refine lv_istore (lv' := [(4, .int h), (3, .int (nI 0)), (0, .int k), (1, .int h), (2, .int t)]) hx hb dX5_hitWorth_21 hl (by decide) rfl (fun ls hl => ?_)
      refine lv_iload_n hx hb dX5_hitWorth_23 rfl (lv_at hl 2 rfl) ?_
      by_cases c_24_1 : k = nI 1
      · rw [if_pos c_24_1] at hF
        refine lv_tableIn (off := 36) (tgt := 60) hx hb dX5_hitWorth_24 (by rw [c_24_1]; decide) (by rw [c_24_1]; decide) (by rw [c_24_1]; rfl) (by decide) ?_
        refine lv_iload_n hx hb dX5_hitWorth_60 rfl (lv_at hl 1 rfl) ?_
        exact W.iret (v := nI 0) hx hb hr (fun t ht hW => ⟨_, rfl, hO.symm.trans hF, ht⟩) (fun _ h => by cases h) dX5_hitWorth_61
      · rw [if_neg c_24_1] at hF
        by_cases c_24_2 : k = nI 2
        · rw [if_pos c_24_2] at hF
          refine lv_tableIn (off := 38) (tgt := 62) hx hb dX5_hitWorth_24 (by rw [c_24_2]; decide) (by rw [c_24_2]; decide) (by rw [c_24_2]; rfl) (by decide) ?_
          refine lv_iload hx hb dX5_hitWorth_62 (lv_at hl 0 rfl) ?_
          exact W.iret (v := h) hx hb hr (fun t ht hW => ⟨_, rfl, hO.symm.trans hF, ht⟩) (fun _ h => by cases h) dX5_hitWorth_64
        · rw [if_neg c_24_2] at hF
          by_cases c_24_3 : k = nI 3
          · rw [if_pos c_24_3] at hF
            refine lv_tableIn (off := 41) (tgt := 65) hx hb dX5_hitWorth_24 (by rw [c_24_3]; decide) (by rw [c_24_3]; decide) (by rw [c_24_3]; rfl) (by decide) ?_
            refine lv_iload_n hx hb dX5_hitWorth_65 rfl (lv_at hl 4 rfl) ?_
            refine lv_iconst (v := nI 4) hx hb dX5_hitWorth_66 (by decide) ?_
            refine lv_irem hx hb dX5_hitWorth_67 (by decide) ?_
            refine lv_if_ne (tgt := 75) hx hb dX5_hitWorth_68 (by decide) (fun c_68 => ?_) (fun c_68 => ?_)
            · rw [if_neg c_68] at hF
              refine lv_iload_n hx hb dX5_hitWorth_75 rfl (lv_at hl 3 rfl) ?_
              exact W.iret (v := h) hx hb hr (fun t ht hW => ⟨_, rfl, hO.symm.trans hF, ht⟩) (fun _ h => by cases h) dX5_hitWorth_76
            · rw [if_pos c_68] at hF
              refine lv_iconst (v := nI 0) hx hb dX5_hitWorth_71 (by decide) ?_
              refine lv_goto (tgt := 76) hx hb dX5_hitWorth_72 (by decide) ?_
              exact W.iret (v := nI 0) hx hb hr (fun t ht hW => ⟨_, rfl, hO.symm.trans hF, ht⟩) (fun _ h => by cases h) dX5_hitWorth_76
          · rw [if_neg c_24_3] at hF
            by_cases c_24_4 : k = nI 4
            · rw [if_pos c_24_4] at hF
              refine lv_tableIn (off := 53) (tgt := 77) hx hb dX5_hitWorth_24 (by rw [c_24_4]; decide) (by rw [c_24_4]; decide) (by rw [c_24_4]; rfl) (by decide) ?_
              refine lv_iload_n hx hb dX5_hitWorth_77 rfl (lv_at hl 3 rfl) ?_
              refine lv_bipush (v := nI 7) hx hb dX5_hitWorth_78 (by decide) ?_
              refine lv_icmp_lt (tgt := 89) hx hb dX5_hitWorth_80 (by decide) (fun c_80 => ?_) (fun c_80 => ?_)
              · rw [if_pos c_80] at hF
                refine lv_iload_n hx hb dX5_hitWorth_89 rfl (lv_at hl 1 rfl) ?_
                exact W.iret (v := nI 0) hx hb hr (fun t ht hW => ⟨_, rfl, hO.symm.trans hF, ht⟩) (fun _ h => by cases h) dX5_hitWorth_90
              · rw [if_neg c_80] at hF
                refine lv_iload_n hx hb dX5_hitWorth_83 rfl (lv_at hl 1 rfl) ?_
                refine lv_iconst (v := nI 2) hx hb dX5_hitWorth_84 (by decide) ?_
                refine lv_isub hx hb dX5_hitWorth_85 ?_
                refine lv_goto (tgt := 90) hx hb dX5_hitWorth_86 (by decide) ?_
                exact W.iret (v := (nI 0) - (nI 2)) hx hb hr (fun t ht hW => ⟨_, rfl, hO.symm.trans hF, ht⟩) (fun _ h => by cases h) dX5_hitWorth_90
            · rw [if_neg c_24_4] at hF
              by_cases c_24_5 : k = nI 5
              · rw [if_pos c_24_5] at hF
                refine lv_tableIn (off := 67) (tgt := 91) hx hb dX5_hitWorth_24 (by rw [c_24_5]; decide) (by rw [c_24_5]; decide) (by rw [c_24_5]; rfl) (by decide) ?_
                refine lv_iload hx hb dX5_hitWorth_91 (lv_at hl 0 rfl) ?_
                refine lv_iconst (v := nI 3) hx hb dX5_hitWorth_93 (by decide) ?_
                refine lv_iload_n hx hb dX5_hitWorth_94 rfl (lv_at hl 4 rfl) ?_
                refine lv_bipush (v := nI 20) hx hb dX5_hitWorth_95 (by decide) ?_
                refine lv_idiv hx hb dX5_hitWorth_97 (by decide) ?_
                refine va_mmin hx hb (hml.trans hl.1.symm) hown (hts (.methodLink RX5 136 Lib.Math.min.name) (by decide +kernel)) (hts (.static Lib.Math.min.name) (by decide +kernel)) (hts (.initialized "java/lang/Math") (by decide +kernel)) (hts (.code Lib.Math.min.name Lib.Math.min.code 2 (some .int)) (by decide +kernel)) (Nat.le_of_ble_eq_true rfl) (Nat.le_of_ble_eq_true rfl) (Nat.zero_le _) (Nat.zero_le _) dX5_hitWorth_98 ?_
                by_cases c_98 : (t / (nI 20)) < (nI 3)
                · rw [if_pos c_98] at hF ⊢
                  refine lv_iadd hx hb dX5_hitWorth_101 ?_
                  exact W.iret (v := h + (t / (nI 20))) hx hb hr (fun t ht hW => ⟨_, rfl, hO.symm.trans hF, ht⟩) (fun _ h => by cases h) dX5_hitWorth_102
                · rw [if_neg c_98] at hF ⊢
                  refine lv_iadd hx hb dX5_hitWorth_101 ?_
                  exact W.iret (v := h + (nI 3)) hx hb hr (fun t ht hW => ⟨_, rfl, hO.symm.trans hF, ht⟩) (fun _ h => by cases h) dX5_hitWorth_102
              · rw [if_neg c_24_5] at hF
                have e_24_1 := qn_ne c_24_1 (by decide)
                have e_24_2 := qn_ne c_24_2 (by decide)
                have e_24_3 := qn_ne c_24_3 (by decide)
                have e_24_4 := qn_ne c_24_4 (by decide)
                have e_24_5 := qn_ne c_24_5 (by decide)
                refine lv_tableOut (tgt := 103) hx hb dX5_hitWorth_24 (by omega) (by decide) ?_
                refine lv_iload_n hx hb dX5_hitWorth_103 rfl (lv_at hl 3 rfl) ?_
                exact W.iret (v := h) hx hb hr (fun t ht hW => ⟨_, rfl, hO.symm.trans hF, ht⟩) (fun _ h => by cases h) dX5_hitWorth_104
def F_X5_postsRun (k : Int32) (lg : Int32) (g : Int32) : Int32 := if ((g + lg) / (nI 3)) < (nI 4) then (if ((g + lg) / (nI 3)) < (nI 1) then (if k = nI 1 then (if g < (nI 6) then (g + lg) / (nI 3) else ((g + lg) / (nI 3)) + (nI 1)) else (if k = nI 2 then (g + lg) / (nI 3) else (if k = nI 3 then ((g + lg) / (nI 3)) + (nI 1) else (if k = nI 4 then (((g + lg) / (nI 3)) + (nI 1)) + (nI 1) else (if k = nI 5 then (if (g - g / (nI 2) * (nI 2)) = 0 then (g + lg) / (nI 3) else nI 0) else (g + lg) / (nI 3)))))) else (if k = nI 1 then (if g < (nI 6) then (g + lg) / (nI 3) else ((g + lg) / (nI 3)) + (nI 1)) else (if k = nI 2 then nI 1 else (if k = nI 3 then ((g + lg) / (nI 3)) + (nI 1) else (if k = nI 4 then (((g + lg) / (nI 3)) + (nI 1)) + (nI 1) else (if k = nI 5 then (if (g - g / (nI 2) * (nI 2)) = 0 then nI 1 else nI 0) else (g + lg) / (nI 3))))))) else (if (nI 4) < (nI 1) then (if k = nI 1 then (if g < (nI 6) then nI 4 else nI 5) else (if k = nI 2 then nI 4 else (if k = nI 3 then nI 5 else (if k = nI 4 then nI 6 else (if k = nI 5 then (if (g - g / (nI 2) * (nI 2)) = 0 then nI 4 else nI 0) else nI 4))))) else (if k = nI 1 then (if g < (nI 6) then nI 4 else nI 5) else (if k = nI 2 then nI 1 else (if k = nI 3 then nI 5 else (if k = nI 4 then nI 6 else (if k = nI 5 then (if (g - g / (nI 2) * (nI 2)) = 0 then nI 1 else nI 0) else nI 4))))))
set_option maxHeartbeats 4000000 in
set_option maxRecDepth 100000 in
theorem c_X5_postsRun (l : Launch) (k : Int32) (lg : Int32) (g : Int32) : Met l yX5_postsRun wsX5_postsRun { frames := 1, cells := 0, slots := 0, locals := 13 } (va_Pc [.int k, .int lg, .int g] (fun _ => True)) (vp_Si (fun r => F_X5_postsRun k lg g = r)) 0 0 (fun _ => False) := by
  refine Met.ofW (cc := cX5_postsRun) (maxL := 6) (ret := (some .int)) (by decide) rfl ?_
  intro p e s m args below meth c s₁ B hml hv
  obtain ⟨rfl, -⟩ := hv
  have hx := B.exec
  have hb := B.bytes
  have hr := B.returns
  have hts := atoms_spec (ws := wsX5_postsRun) B.pre
  have hown : s.vm.findClass RX5 = some m.cls := findClass_of_methodNamed B.named
  have hlocks := B.notSynchronized
  have hl := lv_entry ([.int k, .int lg, .int g]) (n := 6) (Nat.le_of_ble_eq_true rfl)
  rw [lg_entry_eq]
  generalize (lg_sl ([.int k, .int lg, .int g]) ++ List.replicate (6 - (lg_sl ([.int k, .int lg, .int g])).length) Slot.unset).toArray = ls at hl ⊢
  have hl : lv_has ls 6 [(0, .int k), (1, .int lg), (2, .int g)] := hl
  obtain ⟨OUT, hO⟩ : ∃ z, z = F_X5_postsRun k lg g := ⟨_, rfl⟩
  have hF := hO
  unfold F_X5_postsRun at hF
  refine lv_iconst (v := nI 4) hx hb dX5_postsRun_0 (by decide) ?_
  refine lv_iload_n hx hb dX5_postsRun_1 rfl (lv_at hl 2 rfl) ?_
  refine lv_iload_n hx hb dX5_postsRun_2 rfl (lv_at hl 1 rfl) ?_
  refine lv_iadd hx hb dX5_postsRun_3 ?_
  refine lv_iconst (v := nI 3) hx hb dX5_postsRun_4 (by decide) ?_
  refine lv_idiv hx hb dX5_postsRun_5 (by decide) ?_
  refine va_mmin hx hb (hml.trans hl.1.symm) hown (hts (.methodLink RX5 136 Lib.Math.min.name) (by decide +kernel)) (hts (.static Lib.Math.min.name) (by decide +kernel)) (hts (.initialized "java/lang/Math") (by decide +kernel)) (hts (.code Lib.Math.min.name Lib.Math.min.code 2 (some .int)) (by decide +kernel)) (Nat.le_of_ble_eq_true rfl) (Nat.le_of_ble_eq_true rfl) (Nat.zero_le _) (Nat.zero_le _) dX5_postsRun_6 ?_
  by_cases c_6 : ((g + lg) / (nI 3)) < (nI 4)
  · rw [if_pos c_6] at hF ⊢
    refine lv_istore_n (lv' := [(3, .int ((g + lg) / (nI 3))), (0, .int k), (1, .int lg), (2, .int g)]) hx hb dX5_postsRun_9 rfl hl (by decide) rfl (fun ls hl => ?_)
    refine lv_iconst (v := nI 1) hx hb dX5_postsRun_10 (by decide) ?_
    refine lv_iload_n hx hb dX5_postsRun_11 rfl (lv_at hl 0 rfl) ?_
    refine va_mmin hx hb (hml.trans hl.1.symm) hown (hts (.methodLink RX5 136 Lib.Math.min.name) (by decide +kernel)) (hts (.static Lib.Math.min.name) (by decide +kernel)) (hts (.initialized "java/lang/Math") (by decide +kernel)) (hts (.code Lib.Math.min.name Lib.Math.min.code 2 (some .int)) (by decide +kernel)) (Nat.le_of_ble_eq_true rfl) (Nat.le_of_ble_eq_true rfl) (Nat.zero_le _) (Nat.zero_le _) dX5_postsRun_12 ?_
    by_cases c_12 : ((g + lg) / (nI 3)) < (nI 1)
    · rw [if_pos c_12] at hF ⊢
      refine lv_istore (lv' := [(4, .int ((g + lg) / (nI 3))), (3, .int ((g + lg) / (nI 3))), (0, .int k), (1, .int lg), (2, .int g)]) hx hb dX5_postsRun_15 hl (by decide) rfl (fun ls hl => ?_)
      refine lv_iload_n hx hb dX5_postsRun_17 rfl (lv_at hl 1 rfl) ?_
      refine lv_iconst (v := nI 1) hx hb dX5_postsRun_18 (by decide) ?_
      refine lv_iadd hx hb dX5_postsRun_19 ?_
      refine lv_istore (lv' := [(5, .int (((g + lg) / (nI 3)) + (nI 1))), (4, .int ((g + lg) / (nI 3))), (3, .int ((g + lg) / (nI 3))), (0, .int k), (1, .int lg), (2, .int g)]) hx hb dX5_postsRun_20 hl (by decide) rfl (fun ls hl => ?_)
      refine lv_iload_n hx hb dX5_postsRun_22 rfl (lv_at hl 3 rfl) ?_
      by_cases c_23_1 : k = nI 1
      · rw [if_pos c_23_1] at hF
        refine lv_tableIn (off := 33) (tgt := 56) hx hb dX5_postsRun_23 (by rw [c_23_1]; decide) (by rw [c_23_1]; decide) (by rw [c_23_1]; rfl) (by decide) ?_
        refine lv_iload_n hx hb dX5_postsRun_56 rfl (lv_at hl 5 rfl) ?_
        refine lv_bipush (v := nI 6) hx hb dX5_postsRun_57 (by decide) ?_
        refine lv_icmp_lt (tgt := 68) hx hb dX5_postsRun_59 (by decide) (fun c_59 => ?_) (fun c_59 => ?_)
        · rw [if_pos c_59] at hF
          refine lv_iload_n hx hb dX5_postsRun_68 rfl (lv_at hl 2 rfl) ?_
          exact W.iret (v := (g + lg) / (nI 3)) hx hb hr (fun t ht hW => ⟨_, rfl, hO.symm.trans hF, ht⟩) (fun _ h => by cases h) dX5_postsRun_69
        · rw [if_neg c_59] at hF
          refine lv_iload_n hx hb dX5_postsRun_62 rfl (lv_at hl 2 rfl) ?_
          refine lv_iconst (v := nI 1) hx hb dX5_postsRun_63 (by decide) ?_
          refine lv_iadd hx hb dX5_postsRun_64 ?_
          refine lv_goto (tgt := 69) hx hb dX5_postsRun_65 (by decide) ?_
          exact W.iret (v := ((g + lg) / (nI 3)) + (nI 1)) hx hb hr (fun t ht hW => ⟨_, rfl, hO.symm.trans hF, ht⟩) (fun _ h => by cases h) dX5_postsRun_69
      · rw [if_neg c_23_1] at hF
        by_cases c_23_2 : k = nI 2
        · rw [if_pos c_23_2] at hF
          refine lv_tableIn (off := 47) (tgt := 70) hx hb dX5_postsRun_23 (by rw [c_23_2]; decide) (by rw [c_23_2]; decide) (by rw [c_23_2]; rfl) (by decide) ?_
          refine lv_iload hx hb dX5_postsRun_70 (lv_at hl 1 rfl) ?_
          exact W.iret (v := (g + lg) / (nI 3)) hx hb hr (fun t ht hW => ⟨_, rfl, hO.symm.trans hF, ht⟩) (fun _ h => by cases h) dX5_postsRun_72
        · rw [if_neg c_23_2] at hF
          by_cases c_23_3 : k = nI 3
          · rw [if_pos c_23_3] at hF
            refine lv_tableIn (off := 50) (tgt := 73) hx hb dX5_postsRun_23 (by rw [c_23_3]; decide) (by rw [c_23_3]; decide) (by rw [c_23_3]; rfl) (by decide) ?_
            refine lv_iload hx hb dX5_postsRun_73 (lv_at hl 0 rfl) ?_
            exact W.iret (v := ((g + lg) / (nI 3)) + (nI 1)) hx hb hr (fun t ht hW => ⟨_, rfl, hO.symm.trans hF, ht⟩) (fun _ h => by cases h) dX5_postsRun_75
          · rw [if_neg c_23_3] at hF
            by_cases c_23_4 : k = nI 4
            · rw [if_pos c_23_4] at hF
              refine lv_tableIn (off := 53) (tgt := 76) hx hb dX5_postsRun_23 (by rw [c_23_4]; decide) (by rw [c_23_4]; decide) (by rw [c_23_4]; rfl) (by decide) ?_
              refine lv_iload hx hb dX5_postsRun_76 (lv_at hl 0 rfl) ?_
              refine lv_iconst (v := nI 1) hx hb dX5_postsRun_78 (by decide) ?_
              refine lv_iadd hx hb dX5_postsRun_79 ?_
              exact W.iret (v := (((g + lg) / (nI 3)) + (nI 1)) + (nI 1)) hx hb hr (fun t ht hW => ⟨_, rfl, hO.symm.trans hF, ht⟩) (fun _ h => by cases h) dX5_postsRun_80
            · rw [if_neg c_23_4] at hF
              by_cases c_23_5 : k = nI 5
              · rw [if_pos c_23_5] at hF
                refine lv_tableIn (off := 58) (tgt := 81) hx hb dX5_postsRun_23 (by rw [c_23_5]; decide) (by rw [c_23_5]; decide) (by rw [c_23_5]; rfl) (by decide) ?_
                refine lv_iload_n hx hb dX5_postsRun_81 rfl (lv_at hl 5 rfl) ?_
                refine lv_iconst (v := nI 2) hx hb dX5_postsRun_82 (by decide) ?_
                refine lv_irem hx hb dX5_postsRun_83 (by decide) ?_
                refine lv_if_ne (tgt := 92) hx hb dX5_postsRun_84 (by decide) (fun c_84 => ?_) (fun c_84 => ?_)
                · rw [if_neg c_84] at hF
                  refine lv_iconst (v := nI 0) hx hb dX5_postsRun_92 (by decide) ?_
                  exact W.iret (v := nI 0) hx hb hr (fun t ht hW => ⟨_, rfl, hO.symm.trans hF, ht⟩) (fun _ h => by cases h) dX5_postsRun_93
                · rw [if_pos c_84] at hF
                  refine lv_iload hx hb dX5_postsRun_87 (lv_at hl 1 rfl) ?_
                  refine lv_goto (tgt := 93) hx hb dX5_postsRun_89 (by decide) ?_
                  exact W.iret (v := (g + lg) / (nI 3)) hx hb hr (fun t ht hW => ⟨_, rfl, hO.symm.trans hF, ht⟩) (fun _ h => by cases h) dX5_postsRun_93
              · rw [if_neg c_23_5] at hF
                have e_23_1 := qn_ne c_23_1 (by decide)
                have e_23_2 := qn_ne c_23_2 (by decide)
                have e_23_3 := qn_ne c_23_3 (by decide)
                have e_23_4 := qn_ne c_23_4 (by decide)
                have e_23_5 := qn_ne c_23_5 (by decide)
                refine lv_tableOut (tgt := 94) hx hb dX5_postsRun_23 (by omega) (by decide) ?_
                refine lv_iload_n hx hb dX5_postsRun_94 rfl (lv_at hl 2 rfl) ?_
                exact W.iret (v := (g + lg) / (nI 3)) hx hb hr (fun t ht hW => ⟨_, rfl, hO.symm.trans hF, ht⟩) (fun _ h => by cases h) dX5_postsRun_95
    · rw [if_neg c_12] at hF ⊢
      refine lv_istore (lv' := [(4, .int (nI 1)), (3, .int ((g + lg) / (nI 3))), (0, .int k), (1, .int lg), (2, .int g)]) hx hb dX5_postsRun_15 hl (by decide) rfl (fun ls hl => ?_)
      refine lv_iload_n hx hb dX5_postsRun_17 rfl (lv_at hl 1 rfl) ?_
      refine lv_iconst (v := nI 1) hx hb dX5_postsRun_18 (by decide) ?_
      refine lv_iadd hx hb dX5_postsRun_19 ?_
      refine lv_istore (lv' := [(5, .int (((g + lg) / (nI 3)) + (nI 1))), (4, .int (nI 1)), (3, .int ((g + lg) / (nI 3))), (0, .int k), (1, .int lg), (2, .int g)]) hx hb dX5_postsRun_20 hl (by decide) rfl (fun ls hl => ?_)
      refine lv_iload_n hx hb dX5_postsRun_22 rfl (lv_at hl 3 rfl) ?_
      by_cases c_23_1 : k = nI 1
      · rw [if_pos c_23_1] at hF
        refine lv_tableIn (off := 33) (tgt := 56) hx hb dX5_postsRun_23 (by rw [c_23_1]; decide) (by rw [c_23_1]; decide) (by rw [c_23_1]; rfl) (by decide) ?_
        refine lv_iload_n hx hb dX5_postsRun_56 rfl (lv_at hl 5 rfl) ?_
        refine lv_bipush (v := nI 6) hx hb dX5_postsRun_57 (by decide) ?_
        refine lv_icmp_lt (tgt := 68) hx hb dX5_postsRun_59 (by decide) (fun c_59 => ?_) (fun c_59 => ?_)
        · rw [if_pos c_59] at hF
          refine lv_iload_n hx hb dX5_postsRun_68 rfl (lv_at hl 2 rfl) ?_
          exact W.iret (v := (g + lg) / (nI 3)) hx hb hr (fun t ht hW => ⟨_, rfl, hO.symm.trans hF, ht⟩) (fun _ h => by cases h) dX5_postsRun_69
        · rw [if_neg c_59] at hF
          refine lv_iload_n hx hb dX5_postsRun_62 rfl (lv_at hl 2 rfl) ?_
          refine lv_iconst (v := nI 1) hx hb dX5_postsRun_63 (by decide) ?_
          refine lv_iadd hx hb dX5_postsRun_64 ?_
          refine lv_goto (tgt := 69) hx hb dX5_postsRun_65 (by decide) ?_
          exact W.iret (v := ((g + lg) / (nI 3)) + (nI 1)) hx hb hr (fun t ht hW => ⟨_, rfl, hO.symm.trans hF, ht⟩) (fun _ h => by cases h) dX5_postsRun_69
      · rw [if_neg c_23_1] at hF
        by_cases c_23_2 : k = nI 2
        · rw [if_pos c_23_2] at hF
          refine lv_tableIn (off := 47) (tgt := 70) hx hb dX5_postsRun_23 (by rw [c_23_2]; decide) (by rw [c_23_2]; decide) (by rw [c_23_2]; rfl) (by decide) ?_
          refine lv_iload hx hb dX5_postsRun_70 (lv_at hl 1 rfl) ?_
          exact W.iret (v := nI 1) hx hb hr (fun t ht hW => ⟨_, rfl, hO.symm.trans hF, ht⟩) (fun _ h => by cases h) dX5_postsRun_72
        · rw [if_neg c_23_2] at hF
          by_cases c_23_3 : k = nI 3
          · rw [if_pos c_23_3] at hF
            refine lv_tableIn (off := 50) (tgt := 73) hx hb dX5_postsRun_23 (by rw [c_23_3]; decide) (by rw [c_23_3]; decide) (by rw [c_23_3]; rfl) (by decide) ?_
            refine lv_iload hx hb dX5_postsRun_73 (lv_at hl 0 rfl) ?_
            exact W.iret (v := ((g + lg) / (nI 3)) + (nI 1)) hx hb hr (fun t ht hW => ⟨_, rfl, hO.symm.trans hF, ht⟩) (fun _ h => by cases h) dX5_postsRun_75
          · rw [if_neg c_23_3] at hF
            by_cases c_23_4 : k = nI 4
            · rw [if_pos c_23_4] at hF
              refine lv_tableIn (off := 53) (tgt := 76) hx hb dX5_postsRun_23 (by rw [c_23_4]; decide) (by rw [c_23_4]; decide) (by rw [c_23_4]; rfl) (by decide) ?_
              refine lv_iload hx hb dX5_postsRun_76 (lv_at hl 0 rfl) ?_
              refine lv_iconst (v := nI 1) hx hb dX5_postsRun_78 (by decide) ?_
              refine lv_iadd hx hb dX5_postsRun_79 ?_
              exact W.iret (v := (((g + lg) / (nI 3)) + (nI 1)) + (nI 1)) hx hb hr (fun t ht hW => ⟨_, rfl, hO.symm.trans hF, ht⟩) (fun _ h => by cases h) dX5_postsRun_80
            · rw [if_neg c_23_4] at hF
              by_cases c_23_5 : k = nI 5
              · rw [if_pos c_23_5] at hF
                refine lv_tableIn (off := 58) (tgt := 81) hx hb dX5_postsRun_23 (by rw [c_23_5]; decide) (by rw [c_23_5]; decide) (by rw [c_23_5]; rfl) (by decide) ?_
                refine lv_iload_n hx hb dX5_postsRun_81 rfl (lv_at hl 5 rfl) ?_
                refine lv_iconst (v := nI 2) hx hb dX5_postsRun_82 (by decide) ?_
                refine lv_irem hx hb dX5_postsRun_83 (by decide) ?_
                refine lv_if_ne (tgt := 92) hx hb dX5_postsRun_84 (by decide) (fun c_84 => ?_) (fun c_84 => ?_)
                · rw [if_neg c_84] at hF
                  refine lv_iconst (v := nI 0) hx hb dX5_postsRun_92 (by decide) ?_
                  exact W.iret (v := nI 0) hx hb hr (fun t ht hW => ⟨_, rfl, hO.symm.trans hF, ht⟩) (fun _ h => by cases h) dX5_postsRun_93
                · rw [if_pos c_84] at hF
                  refine lv_iload hx hb dX5_postsRun_87 (lv_at hl 1 rfl) ?_
                  refine lv_goto (tgt := 93) hx hb dX5_postsRun_89 (by decide) ?_
                  exact W.iret (v := nI 1) hx hb hr (fun t ht hW => ⟨_, rfl, hO.symm.trans hF, ht⟩) (fun _ h => by cases h) dX5_postsRun_93
              · rw [if_neg c_23_5] at hF
                have e_23_1 := qn_ne c_23_1 (by decide)
                have e_23_2 := qn_ne c_23_2 (by decide)
                have e_23_3 := qn_ne c_23_3 (by decide)
                have e_23_4 := qn_ne c_23_4 (by decide)
                have e_23_5 := qn_ne c_23_5 (by decide)
                refine lv_tableOut (tgt := 94) hx hb dX5_postsRun_23 (by omega) (by decide) ?_
                refine lv_iload_n hx hb dX5_postsRun_94 rfl (lv_at hl 2 rfl) ?_
                exact W.iret (v := (g + lg) / (nI 3)) hx hb hr (fun t ht hW => ⟨_, rfl, hO.symm.trans hF, ht⟩) (fun _ h => by cases h) dX5_postsRun_95
  · rw [if_neg c_6] at hF ⊢
    refine lv_istore_n (lv' := [(3, .int (nI 4)), (0, .int k), (1, .int lg), (2, .int g)]) hx hb dX5_postsRun_9 rfl hl (by decide) rfl (fun ls hl => ?_)
    refine lv_iconst (v := nI 1) hx hb dX5_postsRun_10 (by decide) ?_
    refine lv_iload_n hx hb dX5_postsRun_11 rfl (lv_at hl 0 rfl) ?_
    refine va_mmin hx hb (hml.trans hl.1.symm) hown (hts (.methodLink RX5 136 Lib.Math.min.name) (by decide +kernel)) (hts (.static Lib.Math.min.name) (by decide +kernel)) (hts (.initialized "java/lang/Math") (by decide +kernel)) (hts (.code Lib.Math.min.name Lib.Math.min.code 2 (some .int)) (by decide +kernel)) (Nat.le_of_ble_eq_true rfl) (Nat.le_of_ble_eq_true rfl) (Nat.zero_le _) (Nat.zero_le _) dX5_postsRun_12 ?_
    by_cases c_12 : (nI 4) < (nI 1)
    · rw [if_pos c_12] at hF ⊢
      refine lv_istore (lv' := [(4, .int (nI 4)), (3, .int (nI 4)), (0, .int k), (1, .int lg), (2, .int g)]) hx hb dX5_postsRun_15 hl (by decide) rfl (fun ls hl => ?_)
      refine lv_iload_n hx hb dX5_postsRun_17 rfl (lv_at hl 1 rfl) ?_
      refine lv_iconst (v := nI 1) hx hb dX5_postsRun_18 (by decide) ?_
      refine qv_iadd hx hb (5) dX5_postsRun_19 (by omega) ?_
      refine lv_istore (lv' := [(5, .int (nI 5)), (4, .int (nI 4)), (3, .int (nI 4)), (0, .int k), (1, .int lg), (2, .int g)]) hx hb dX5_postsRun_20 hl (by decide) rfl (fun ls hl => ?_)
      refine lv_iload_n hx hb dX5_postsRun_22 rfl (lv_at hl 3 rfl) ?_
      by_cases c_23_1 : k = nI 1
      · rw [if_pos c_23_1] at hF
        refine lv_tableIn (off := 33) (tgt := 56) hx hb dX5_postsRun_23 (by rw [c_23_1]; decide) (by rw [c_23_1]; decide) (by rw [c_23_1]; rfl) (by decide) ?_
        refine lv_iload_n hx hb dX5_postsRun_56 rfl (lv_at hl 5 rfl) ?_
        refine lv_bipush (v := nI 6) hx hb dX5_postsRun_57 (by decide) ?_
        refine lv_icmp_lt (tgt := 68) hx hb dX5_postsRun_59 (by decide) (fun c_59 => ?_) (fun c_59 => ?_)
        · rw [if_pos c_59] at hF
          refine lv_iload_n hx hb dX5_postsRun_68 rfl (lv_at hl 2 rfl) ?_
          exact W.iret (v := nI 4) hx hb hr (fun t ht hW => ⟨_, rfl, hO.symm.trans hF, ht⟩) (fun _ h => by cases h) dX5_postsRun_69
        · rw [if_neg c_59] at hF
          refine lv_iload_n hx hb dX5_postsRun_62 rfl (lv_at hl 2 rfl) ?_
          refine lv_iconst (v := nI 1) hx hb dX5_postsRun_63 (by decide) ?_
          refine qv_iadd hx hb (5) dX5_postsRun_64 (by omega) ?_
          refine lv_goto (tgt := 69) hx hb dX5_postsRun_65 (by decide) ?_
          exact W.iret (v := nI 5) hx hb hr (fun t ht hW => ⟨_, rfl, hO.symm.trans hF, ht⟩) (fun _ h => by cases h) dX5_postsRun_69
      · rw [if_neg c_23_1] at hF
        by_cases c_23_2 : k = nI 2
        · rw [if_pos c_23_2] at hF
          refine lv_tableIn (off := 47) (tgt := 70) hx hb dX5_postsRun_23 (by rw [c_23_2]; decide) (by rw [c_23_2]; decide) (by rw [c_23_2]; rfl) (by decide) ?_
          refine lv_iload hx hb dX5_postsRun_70 (lv_at hl 1 rfl) ?_
          exact W.iret (v := nI 4) hx hb hr (fun t ht hW => ⟨_, rfl, hO.symm.trans hF, ht⟩) (fun _ h => by cases h) dX5_postsRun_72
        · rw [if_neg c_23_2] at hF
          by_cases c_23_3 : k = nI 3
          · rw [if_pos c_23_3] at hF
            refine lv_tableIn (off := 50) (tgt := 73) hx hb dX5_postsRun_23 (by rw [c_23_3]; decide) (by rw [c_23_3]; decide) (by rw [c_23_3]; rfl) (by decide) ?_
            refine lv_iload hx hb dX5_postsRun_73 (lv_at hl 0 rfl) ?_
            exact W.iret (v := nI 5) hx hb hr (fun t ht hW => ⟨_, rfl, hO.symm.trans hF, ht⟩) (fun _ h => by cases h) dX5_postsRun_75
          · rw [if_neg c_23_3] at hF
            by_cases c_23_4 : k = nI 4
            · rw [if_pos c_23_4] at hF
              refine lv_tableIn (off := 53) (tgt := 76) hx hb dX5_postsRun_23 (by rw [c_23_4]; decide) (by rw [c_23_4]; decide) (by rw [c_23_4]; rfl) (by decide) ?_
              refine lv_iload hx hb dX5_postsRun_76 (lv_at hl 0 rfl) ?_
              refine lv_iconst (v := nI 1) hx hb dX5_postsRun_78 (by decide) ?_
              refine qv_iadd hx hb (6) dX5_postsRun_79 (by omega) ?_
              exact W.iret (v := nI 6) hx hb hr (fun t ht hW => ⟨_, rfl, hO.symm.trans hF, ht⟩) (fun _ h => by cases h) dX5_postsRun_80
            · rw [if_neg c_23_4] at hF
              by_cases c_23_5 : k = nI 5
              · rw [if_pos c_23_5] at hF
                refine lv_tableIn (off := 58) (tgt := 81) hx hb dX5_postsRun_23 (by rw [c_23_5]; decide) (by rw [c_23_5]; decide) (by rw [c_23_5]; rfl) (by decide) ?_
                refine lv_iload_n hx hb dX5_postsRun_81 rfl (lv_at hl 5 rfl) ?_
                refine lv_iconst (v := nI 2) hx hb dX5_postsRun_82 (by decide) ?_
                refine lv_irem hx hb dX5_postsRun_83 (by decide) ?_
                refine lv_if_ne (tgt := 92) hx hb dX5_postsRun_84 (by decide) (fun c_84 => ?_) (fun c_84 => ?_)
                · rw [if_neg c_84] at hF
                  refine lv_iconst (v := nI 0) hx hb dX5_postsRun_92 (by decide) ?_
                  exact W.iret (v := nI 0) hx hb hr (fun t ht hW => ⟨_, rfl, hO.symm.trans hF, ht⟩) (fun _ h => by cases h) dX5_postsRun_93
                · rw [if_pos c_84] at hF
                  refine lv_iload hx hb dX5_postsRun_87 (lv_at hl 1 rfl) ?_
                  refine lv_goto (tgt := 93) hx hb dX5_postsRun_89 (by decide) ?_
                  exact W.iret (v := nI 4) hx hb hr (fun t ht hW => ⟨_, rfl, hO.symm.trans hF, ht⟩) (fun _ h => by cases h) dX5_postsRun_93
              · rw [if_neg c_23_5] at hF
                have e_23_1 := qn_ne c_23_1 (by decide)
                have e_23_2 := qn_ne c_23_2 (by decide)
                have e_23_3 := qn_ne c_23_3 (by decide)
                have e_23_4 := qn_ne c_23_4 (by decide)
                have e_23_5 := qn_ne c_23_5 (by decide)
                refine lv_tableOut (tgt := 94) hx hb dX5_postsRun_23 (by omega) (by decide) ?_
                refine lv_iload_n hx hb dX5_postsRun_94 rfl (lv_at hl 2 rfl) ?_
                exact W.iret (v := nI 4) hx hb hr (fun t ht hW => ⟨_, rfl, hO.symm.trans hF, ht⟩) (fun _ h => by cases h) dX5_postsRun_95
    · rw [if_neg c_12] at hF ⊢
      refine lv_istore (lv' := [(4, .int (nI 1)), (3, .int (nI 4)), (0, .int k), (1, .int lg), (2, .int g)]) hx hb dX5_postsRun_15 hl (by decide) rfl (fun ls hl => ?_)
      refine lv_iload_n hx hb dX5_postsRun_17 rfl (lv_at hl 1 rfl) ?_
      refine lv_iconst (v := nI 1) hx hb dX5_postsRun_18 (by decide) ?_
      refine qv_iadd hx hb (5) dX5_postsRun_19 (by omega) ?_
      refine lv_istore (lv' := [(5, .int (nI 5)), (4, .int (nI 1)), (3, .int (nI 4)), (0, .int k), (1, .int lg), (2, .int g)]) hx hb dX5_postsRun_20 hl (by decide) rfl (fun ls hl => ?_)
      refine lv_iload_n hx hb dX5_postsRun_22 rfl (lv_at hl 3 rfl) ?_
      by_cases c_23_1 : k = nI 1
      · rw [if_pos c_23_1] at hF
        refine lv_tableIn (off := 33) (tgt := 56) hx hb dX5_postsRun_23 (by rw [c_23_1]; decide) (by rw [c_23_1]; decide) (by rw [c_23_1]; rfl) (by decide) ?_
        refine lv_iload_n hx hb dX5_postsRun_56 rfl (lv_at hl 5 rfl) ?_
        refine lv_bipush (v := nI 6) hx hb dX5_postsRun_57 (by decide) ?_
        refine lv_icmp_lt (tgt := 68) hx hb dX5_postsRun_59 (by decide) (fun c_59 => ?_) (fun c_59 => ?_)
        · rw [if_pos c_59] at hF
          refine lv_iload_n hx hb dX5_postsRun_68 rfl (lv_at hl 2 rfl) ?_
          exact W.iret (v := nI 4) hx hb hr (fun t ht hW => ⟨_, rfl, hO.symm.trans hF, ht⟩) (fun _ h => by cases h) dX5_postsRun_69
        · rw [if_neg c_59] at hF
          refine lv_iload_n hx hb dX5_postsRun_62 rfl (lv_at hl 2 rfl) ?_
          refine lv_iconst (v := nI 1) hx hb dX5_postsRun_63 (by decide) ?_
          refine qv_iadd hx hb (5) dX5_postsRun_64 (by omega) ?_
          refine lv_goto (tgt := 69) hx hb dX5_postsRun_65 (by decide) ?_
          exact W.iret (v := nI 5) hx hb hr (fun t ht hW => ⟨_, rfl, hO.symm.trans hF, ht⟩) (fun _ h => by cases h) dX5_postsRun_69
      · rw [if_neg c_23_1] at hF
        by_cases c_23_2 : k = nI 2
        · rw [if_pos c_23_2] at hF
          refine lv_tableIn (off := 47) (tgt := 70) hx hb dX5_postsRun_23 (by rw [c_23_2]; decide) (by rw [c_23_2]; decide) (by rw [c_23_2]; rfl) (by decide) ?_
          refine lv_iload hx hb dX5_postsRun_70 (lv_at hl 1 rfl) ?_
          exact W.iret (v := nI 1) hx hb hr (fun t ht hW => ⟨_, rfl, hO.symm.trans hF, ht⟩) (fun _ h => by cases h) dX5_postsRun_72
        · rw [if_neg c_23_2] at hF
          by_cases c_23_3 : k = nI 3
          · rw [if_pos c_23_3] at hF
            refine lv_tableIn (off := 50) (tgt := 73) hx hb dX5_postsRun_23 (by rw [c_23_3]; decide) (by rw [c_23_3]; decide) (by rw [c_23_3]; rfl) (by decide) ?_
            refine lv_iload hx hb dX5_postsRun_73 (lv_at hl 0 rfl) ?_
            exact W.iret (v := nI 5) hx hb hr (fun t ht hW => ⟨_, rfl, hO.symm.trans hF, ht⟩) (fun _ h => by cases h) dX5_postsRun_75
          · rw [if_neg c_23_3] at hF
            by_cases c_23_4 : k = nI 4
            · rw [if_pos c_23_4] at hF
              refine lv_tableIn (off := 53) (tgt := 76) hx hb dX5_postsRun_23 (by rw [c_23_4]; decide) (by rw [c_23_4]; decide) (by rw [c_23_4]; rfl) (by decide) ?_
              refine lv_iload hx hb dX5_postsRun_76 (lv_at hl 0 rfl) ?_
              refine lv_iconst (v := nI 1) hx hb dX5_postsRun_78 (by decide) ?_
              refine qv_iadd hx hb (6) dX5_postsRun_79 (by omega) ?_
              exact W.iret (v := nI 6) hx hb hr (fun t ht hW => ⟨_, rfl, hO.symm.trans hF, ht⟩) (fun _ h => by cases h) dX5_postsRun_80
            · rw [if_neg c_23_4] at hF
              by_cases c_23_5 : k = nI 5
              · rw [if_pos c_23_5] at hF
                refine lv_tableIn (off := 58) (tgt := 81) hx hb dX5_postsRun_23 (by rw [c_23_5]; decide) (by rw [c_23_5]; decide) (by rw [c_23_5]; rfl) (by decide) ?_
                refine lv_iload_n hx hb dX5_postsRun_81 rfl (lv_at hl 5 rfl) ?_
                refine lv_iconst (v := nI 2) hx hb dX5_postsRun_82 (by decide) ?_
                refine lv_irem hx hb dX5_postsRun_83 (by decide) ?_
                refine lv_if_ne (tgt := 92) hx hb dX5_postsRun_84 (by decide) (fun c_84 => ?_) (fun c_84 => ?_)
                · rw [if_neg c_84] at hF
                  refine lv_iconst (v := nI 0) hx hb dX5_postsRun_92 (by decide) ?_
                  exact W.iret (v := nI 0) hx hb hr (fun t ht hW => ⟨_, rfl, hO.symm.trans hF, ht⟩) (fun _ h => by cases h) dX5_postsRun_93
                · rw [if_pos c_84] at hF
                  refine lv_iload hx hb dX5_postsRun_87 (lv_at hl 1 rfl) ?_
                  refine lv_goto (tgt := 93) hx hb dX5_postsRun_89 (by decide) ?_
                  exact W.iret (v := nI 1) hx hb hr (fun t ht hW => ⟨_, rfl, hO.symm.trans hF, ht⟩) (fun _ h => by cases h) dX5_postsRun_93
              · rw [if_neg c_23_5] at hF
                have e_23_1 := qn_ne c_23_1 (by decide)
                have e_23_2 := qn_ne c_23_2 (by decide)
                have e_23_3 := qn_ne c_23_3 (by decide)
                have e_23_4 := qn_ne c_23_4 (by decide)
                have e_23_5 := qn_ne c_23_5 (by decide)
                refine lv_tableOut (tgt := 94) hx hb dX5_postsRun_23 (by omega) (by decide) ?_
                refine lv_iload_n hx hb dX5_postsRun_94 rfl (lv_at hl 2 rfl) ?_
                exact W.iret (v := nI 4) hx hb hr (fun t ht hW => ⟨_, rfl, hO.symm.trans hF, ht⟩) (fun _ h => by cases h) dX5_postsRun_95
theorem within_iff {x a b : Int32} : F_X5_within x a b = true ↔ a ≤ x ∧ x ≤ b := by
  unfold F_X5_within
  have h1 : ¬ x < a ↔ a ≤ x := Int32.not_lt
  have h2 : ¬ b < x ↔ x ≤ b := Int32.not_lt
  by_cases c : x < a
  · rw [if_pos c]; exact ⟨fun h => absurd h (by decide), fun h => absurd c (h1.mpr h.1)⟩
  · rw [if_neg c]
    by_cases d : b < x
    · rw [if_pos d]; exact ⟨fun h => absurd h (by decide), fun h => absurd d (h2.mpr h.2)⟩
    · rw [if_neg d]; exact ⟨fun _ => ⟨h1.mp c, h2.mp d⟩, fun _ => rfl⟩
theorem within_nat {x : Int32} {lo hi : Nat} (hlo : lo < 2 ^ 31) (hhi : hi < 2 ^ 31) (h : F_X5_within x (nI lo) (nI hi) = true) : 0 ≤ x ∧ lo ≤ tN x ∧ tN x ≤ hi := by
  obtain ⟨h1, h2⟩ := within_iff.mp h
  have g1 := Int32.le_iff_toInt_le.mp h1
  have g2 := Int32.le_iff_toInt_le.mp h2
  rw [nI_toInt hlo] at g1
  rw [nI_toInt hhi] at g2
  refine ⟨Int32.le_iff_toInt_le.mpr (by rw [show (0 : Int32).toInt = 0 from rfl]; omega), ?_, ?_⟩
  · show lo ≤ x.toNatClampNeg
    unfold Int32.toNatClampNeg
    omega
  · show x.toNatClampNeg ≤ hi
    unfold Int32.toNatClampNeg
    omega
theorem within_sz {x : Int32} {n : Nat} (hn : n < 2 ^ 30) (h : F_X5_within x (nI 0) (nI n - nI 1) = true) : 0 ≤ x ∧ tN x < n := by
  obtain ⟨h1, h2⟩ := within_iff.mp h
  have g1 := Int32.le_iff_toInt_le.mp h1
  have g2 := Int32.le_iff_toInt_le.mp h2
  rw [pk_sub_toInt hn (by decide)] at g2
  rw [show (nI 0).toInt = 0 from rfl] at g1
  refine ⟨h1, ?_⟩
  show x.toNatClampNeg < n
  have : (x.toNatClampNeg : Int) = x.toInt := by unfold Int32.toNatClampNeg; omega
  omega
theorem isKind_nat {x : Int32} (h : F_X5_isKind x = true) : 0 ≤ x ∧ 0 ≤ tN x ∧ tN x ≤ 5 := within_nat (by decide) (by decide) h
theorem isHit_nat {x : Int32} (h : F_X5_isHit x = true) : 0 ≤ x ∧ 0 ≤ tN x ∧ tN x ≤ 9 := within_nat (by decide) (by decide) h
theorem isImage_nat {x : Int32} (h : F_X5_isImage x = true) : 0 ≤ x ∧ 0 ≤ tN x ∧ tN x ≤ 1 := within_nat (by decide) (by decide) h
def F_X2_begin (P : pS) (b : Int32) : (pS) := ((b, nI 0, Pkd P, Plg P, Pwh P, (-1), nI 0, nI 0))
set_option maxHeartbeats 4000000 in
set_option maxRecDepth 100000 in
theorem c_X2_begin (l : Launch) (dC : Nat → ClassId) (dI : Nat → Nat → Nat) (a : Nat → Nat) (cI : ClassId) (sz : Nat) (P : pS) (b : Int32) : Met l yX2_begin wsX2_begin { frames := 0, cells := 0, slots := 0, locals := 0 } (xPc (dC, dI) vwCl (xT cI) (pW a cI P) sz [.ref (a 0), .int b]) (va_Qv (fun (u : (pS)) => F_X2_begin P b = u) (mB (dC, dI) vwCl (xT cI) (va_A (pW a cI P) sz) (fun u => pW a cI u)) (va_A (pW a cI P) sz)) 0 0 (va_A (pW a cI P) sz) := by
  refine Met.ofW (cc := cX2_begin) (maxL := 2) (ret := none) (by decide) rfl ?_
  intro p e s m args below meth c s₁ B hml hv
  obtain ⟨rfl, hsz, hP, hK, hD0, hN⟩ := hv
  have hx := B.exec
  have hb := B.bytes
  have hr := B.returns
  have hts := atoms_spec (ws := wsX2_begin) B.pre
  have hown : s.vm.findClass RX2 = some m.cls := findClass_of_methodNamed B.named
  have hlocks := B.notSynchronized
  subst hsz
  have hD := hD0.self (sz := s.heap.size)
  generalize hAe : va_A (pW a cI P) s.heap.size = A at hD ⊢
  have hA : ∀ q : Nat, s.heap.size ≤ q → A q := fun q h => by rw [← hAe]; exact Or.inr h
  have hS : va_S A s.heap s.heap [] := va_S.rf
  have hin2 : ∀ w ∈ wsX20, w ∈ wsX2_begin := by decide +kernel
  have lk21 := hts (.fieldLink RX2 21 "PostRounders$Play" "next" "I") (by decide +kernel)
  have lk25 := hts (.fieldLink RX2 25 "PostRounders$Play" "bowler" "I") (by decide +kernel)
  have lk28 := hts (.fieldLink RX2 28 "PostRounders$Play" "size" "I") (by decide +kernel)
  have lk31 := hts (.fieldLink RX2 31 "PostRounders$Play" "points" "I") (by decide +kernel)
  have lk34 := hts (.fieldLink RX2 34 "PostRounders$Play" "balls" "I") (by decide +kernel)
  have hl := lv_entry ([.ref (a 0), .int b]) (n := 2) (Nat.le_of_ble_eq_true rfl)
  rw [lg_entry_eq]
  generalize (lg_sl ([.ref (a 0), .int b]) ++ List.replicate (2 - (lg_sl ([.ref (a 0), .int b])).length) Slot.unset).toArray = ls at hl ⊢
  have hl : lv_has ls 2 [(0, .ref (a 0)), (1, .int b)] := hl
  obtain ⟨OUT, hO⟩ : ∃ z, z = F_X2_begin P b := ⟨_, rfl⟩
  have hF := hO
  unfold F_X2_begin at hF
  refine lv_aload_n hx hb dX2_begin_0 rfl (lv_at hl 0 rfl) ?_
  refine lv_iload_n hx hb dX2_begin_1 rfl (lv_at hl 1 rfl) ?_
  refine va_put (D := (dC, dI)) (ci := 2) (v := .int b) (ty := .int) (C := RX2) (T := TX2) (N := 8) hx hb hts hin2 tyX2 tyX2_ok nmX2 hown hK hP hD hS 0 rfl rfl 0 (by decide) lk25 (fun _ h9 => h9) rfl (by decide +kernel) rfl rfl (Nat.le_of_ble_eq_true rfl) dX2_begin_2 (fun H locs hP hD hS => ?_)
  have hP : va_P (dC, dI) vwCl (pW a cI ((b, Psz P, Pkd P, Plg P, Pwh P, Pnx P, Ppt P, Pbl P))) H := hP
  have hD : va_D A (pW a cI ((b, Psz P, Pkd P, Plg P, Pwh P, Pnx P, Ppt P, Pbl P))) := hD
  refine lv_aload_n hx hb dX2_begin_5 rfl (lv_at hl 0 rfl) ?_
  refine lv_iconst (v := nI 0) hx hb dX2_begin_6 (by decide) ?_
  refine va_put (D := (dC, dI)) (ci := 2) (v := .int (nI 0)) (ty := .int) (C := RX2) (T := TX2) (N := 8) hx hb hts hin2 tyX2 tyX2_ok nmX2 hown hK hP hD hS 0 rfl rfl 1 (by decide) lk28 (fun _ h9 => h9) rfl (by decide +kernel) rfl rfl (Nat.le_of_ble_eq_true rfl) dX2_begin_7 (fun H locs hP hD hS => ?_)
  have hP : va_P (dC, dI) vwCl (pW a cI ((b, nI 0, Pkd P, Plg P, Pwh P, Pnx P, Ppt P, Pbl P))) H := hP
  have hD : va_D A (pW a cI ((b, nI 0, Pkd P, Plg P, Pwh P, Pnx P, Ppt P, Pbl P))) := hD
  refine lv_aload_n hx hb dX2_begin_10 rfl (lv_at hl 0 rfl) ?_
  refine lv_iconst (v := (-1)) hx hb dX2_begin_11 (by decide) ?_
  refine va_put (D := (dC, dI)) (ci := 2) (v := .int ((-1))) (ty := .int) (C := RX2) (T := TX2) (N := 8) hx hb hts hin2 tyX2 tyX2_ok nmX2 hown hK hP hD hS 0 rfl rfl 5 (by decide) lk21 (fun _ h9 => h9) rfl (by decide +kernel) rfl rfl (Nat.le_of_ble_eq_true rfl) dX2_begin_12 (fun H locs hP hD hS => ?_)
  have hP : va_P (dC, dI) vwCl (pW a cI ((b, nI 0, Pkd P, Plg P, Pwh P, (-1), Ppt P, Pbl P))) H := hP
  have hD : va_D A (pW a cI ((b, nI 0, Pkd P, Plg P, Pwh P, (-1), Ppt P, Pbl P))) := hD
  refine lv_aload_n hx hb dX2_begin_15 rfl (lv_at hl 0 rfl) ?_
  refine lv_iconst (v := nI 0) hx hb dX2_begin_16 (by decide) ?_
  refine va_put (D := (dC, dI)) (ci := 2) (v := .int (nI 0)) (ty := .int) (C := RX2) (T := TX2) (N := 8) hx hb hts hin2 tyX2 tyX2_ok nmX2 hown hK hP hD hS 0 rfl rfl 6 (by decide) lk31 (fun _ h9 => h9) rfl (by decide +kernel) rfl rfl (Nat.le_of_ble_eq_true rfl) dX2_begin_17 (fun H locs hP hD hS => ?_)
  have hP : va_P (dC, dI) vwCl (pW a cI ((b, nI 0, Pkd P, Plg P, Pwh P, (-1), nI 0, Pbl P))) H := hP
  have hD : va_D A (pW a cI ((b, nI 0, Pkd P, Plg P, Pwh P, (-1), nI 0, Pbl P))) := hD
  refine lv_aload_n hx hb dX2_begin_20 rfl (lv_at hl 0 rfl) ?_
  refine lv_iconst (v := nI 0) hx hb dX2_begin_21 (by decide) ?_
  refine va_put (D := (dC, dI)) (ci := 2) (v := .int (nI 0)) (ty := .int) (C := RX2) (T := TX2) (N := 8) hx hb hts hin2 tyX2 tyX2_ok nmX2 hown hK hP hD hS 0 rfl rfl 7 (by decide) lk34 (fun _ h9 => h9) rfl (by decide +kernel) rfl rfl (Nat.le_of_ble_eq_true rfl) dX2_begin_22 (fun H locs hP hD hS => ?_)
  have hP : va_P (dC, dI) vwCl (pW a cI ((b, nI 0, Pkd P, Plg P, Pwh P, (-1), nI 0, nI 0))) H := hP
  have hD : va_D A (pW a cI ((b, nI 0, Pkd P, Plg P, Pwh P, (-1), nI 0, nI 0))) := hD
  have hP9 : va_P (dC, dI) vwCl (pW a cI ((b, nI 0, Pkd P, Plg P, Pwh P, (-1), nI 0, nI 0))) H := hP
  exact W.vret hx hb hr (fun t ht hW => ⟨⟨((b, nI 0, Pkd P, Plg P, Pwh P, (-1), nI 0, nI 0)), rfl, hO.symm.trans hF, by rw [ht]; exact hP9, va_K.moved hW.alike hK, hD⟩, hS.F ht⟩) hS.2.2 dX2_begin_25
def F_X2_isDone (P : pS) : Bool := if (Pnx P) < 0 then true else (if (Pnx P) < (Psz P) then false else true)
set_option maxHeartbeats 4000000 in
set_option maxRecDepth 100000 in
theorem c_X2_isDone (l : Launch) (dC : Nat → ClassId) (dI : Nat → Nat → Nat) (a : Nat → Nat) (cI : ClassId) (sz : Nat) (P : pS) : Met l yX2_isDone wsX2_isDone { frames := 0, cells := 0, slots := 0, locals := 0 } (xPc (dC, dI) vwCl (xT cI) (pW a cI P) sz [.ref (a 0)]) (va_Qi (fun (r : Int32) (u : Unit) => ∃ z : Bool, F_X2_isDone P = z ∧ r = if z = true then 1 else 0) (mB (dC, dI) vwCl (xT cI) (va_A (pW a cI P) sz) (fun u => pW a cI P)) (va_A (pW a cI P) sz)) 0 0 (va_A (pW a cI P) sz) := by
  refine Met.ofW (cc := cX2_isDone) (maxL := 1) (ret := (some .boolean)) (by decide) rfl ?_
  intro p e s m args below meth c s₁ B hml hv
  obtain ⟨rfl, hsz, hP, hK, hD0, hN⟩ := hv
  have hx := B.exec
  have hb := B.bytes
  have hr := B.returns
  have hts := atoms_spec (ws := wsX2_isDone) B.pre
  have hown : s.vm.findClass RX2 = some m.cls := findClass_of_methodNamed B.named
  have hlocks := B.notSynchronized
  subst hsz
  have hD := hD0.self (sz := s.heap.size)
  generalize hAe : va_A (pW a cI P) s.heap.size = A at hD ⊢
  have hA : ∀ q : Nat, s.heap.size ≤ q → A q := fun q h => by rw [← hAe]; exact Or.inr h
  have hS : va_S A s.heap s.heap [] := va_S.rf
  have hin2 : ∀ w ∈ wsX20, w ∈ wsX2_isDone := by decide +kernel
  have lk21 := hts (.fieldLink RX2 21 "PostRounders$Play" "next" "I") (by decide +kernel)
  have lk28 := hts (.fieldLink RX2 28 "PostRounders$Play" "size" "I") (by decide +kernel)
  have hl := lv_entry ([.ref (a 0)]) (n := 1) (Nat.le_of_ble_eq_true rfl)
  rw [lg_entry_eq]
  generalize (lg_sl ([.ref (a 0)]) ++ List.replicate (1 - (lg_sl ([.ref (a 0)])).length) Slot.unset).toArray = ls at hl ⊢
  have hl : lv_has ls 1 [(0, .ref (a 0))] := hl
  obtain ⟨OUT, hO⟩ : ∃ z, z = F_X2_isDone P := ⟨_, rfl⟩
  have hF := hO
  unfold F_X2_isDone at hF
  refine lv_aload_n hx hb dX2_isDone_0 rfl (lv_at hl 0 rfl) ?_
  refine va_get (D := (dC, dI)) (ci := 2) (v := .int (Pnx P)) (C := RX2) (T := TX2) (N := 8) hx hb hts hin2 hown hK hP 0 rfl rfl 5 (by decide) lk21 (fun _ h9 => h9) rfl dX2_isDone_1 ?_
  refine lv_if_lt (tgt := 18) hx hb dX2_isDone_4 (by decide) (fun c_4 => ?_) (fun c_4 => ?_)
  · rw [if_pos c_4] at hF
    refine lv_iconst (v := nI 1) hx hb dX2_isDone_18 (by decide) ?_
    refine lv_goto (tgt := 23) hx hb dX2_isDone_19 (by decide) ?_
    have hP9 : va_P (dC, dI) vwCl (pW a cI P) s.heap := hP
    exact W.zret (v := nI 1) hx hb hr (by rfl) (fun t ht hW => ⟨⟨_, (()), rfl, ⟨true, hO.symm.trans hF, rfl⟩, by rw [ht]; exact hP9, va_K.moved hW.alike hK, hD⟩, hS.F ht⟩) hS.2.2 dX2_isDone_23
  · rw [if_neg c_4] at hF
    refine lv_aload_n hx hb dX2_isDone_7 rfl (lv_at hl 0 rfl) ?_
    refine va_get (D := (dC, dI)) (ci := 2) (v := .int (Pnx P)) (C := RX2) (T := TX2) (N := 8) hx hb hts hin2 hown hK hP 0 rfl rfl 5 (by decide) lk21 (fun _ h9 => h9) rfl dX2_isDone_8 ?_
    refine lv_aload_n hx hb dX2_isDone_11 rfl (lv_at hl 0 rfl) ?_
    refine va_get (D := (dC, dI)) (ci := 2) (v := .int (Psz P)) (C := RX2) (T := TX2) (N := 8) hx hb hts hin2 hown hK hP 0 rfl rfl 1 (by decide) lk28 (fun _ h9 => h9) rfl dX2_isDone_12 ?_
    refine lv_icmp_lt (tgt := 22) hx hb dX2_isDone_15 (by decide) (fun c_15 => ?_) (fun c_15 => ?_)
    · rw [if_pos c_15] at hF
      refine lv_iconst (v := nI 0) hx hb dX2_isDone_22 (by decide) ?_
      have hP9 : va_P (dC, dI) vwCl (pW a cI P) s.heap := hP
      exact W.zret (v := nI 0) hx hb hr (by rfl) (fun t ht hW => ⟨⟨_, (()), rfl, ⟨false, hO.symm.trans hF, rfl⟩, by rw [ht]; exact hP9, va_K.moved hW.alike hK, hD⟩, hS.F ht⟩) hS.2.2 dX2_isDone_23
    · rw [if_neg c_15] at hF
      refine lv_iconst (v := nI 1) hx hb dX2_isDone_18 (by decide) ?_
      refine lv_goto (tgt := 23) hx hb dX2_isDone_19 (by decide) ?_
      have hP9 : va_P (dC, dI) vwCl (pW a cI P) s.heap := hP
      exact W.zret (v := nI 1) hx hb hr (by rfl) (fun t ht hW => ⟨⟨_, (()), rfl, ⟨true, hO.symm.trans hF, rfl⟩, by rw [ht]; exact hP9, va_K.moved hW.alike hK, hD⟩, hS.F ht⟩) hS.2.2 dX2_isDone_23
theorem isDone2 {P : pS} {z : Bool} (e : F_X2_isDone P = z) (c : ¬ z = true) (pS_ : inB (Psz P) 6) : inB (Pnx P) 5 ∧ tN (Pnx P) < tN (Psz P) := by
  unfold F_X2_isDone at e
  by_cases a : Pnx P < 0
  · rw [if_pos a] at e; exact absurd e.symm c
  · rw [if_neg a] at e
    by_cases b : Pnx P < Psz P
    · have h0 : (0 : Int32) ≤ Pnx P := Int32.not_lt.mp a
      have e1 := tN_eq h0
      have e2 := tN_eq pS_.1
      have hb := pS_.2
      rw [e1, e2, nI_ltI (tN_lt _) (tN_lt _)] at b
      exact ⟨⟨h0, by omega⟩, b⟩
    · rw [if_neg b] at e; exact absurd e.symm c
def F_X2_copy (P : pS) (O : pS) : (pS) := ((Pbo O, Psz O, va_cpy (Pkd O) (Pkd P) 0 0 6, va_cpy (Plg O) (Plg P) 0 0 6, va_cpy (Pwh O) (Pwh P) 0 0 6, Pnx O, Ppt O, Pbl O))
set_option maxHeartbeats 4000000 in
set_option maxRecDepth 100000 in
theorem c_X2_copy (l : Launch) (dC : Nat → ClassId) (dI : Nat → Nat → Nat) (a : Nat → Nat) (b : Nat → Nat) (cI : ClassId) (sz : Nat) (P : pS) (O : pS) : Met l yX2_copy wsX2_copy { frames := 1, cells := 0, slots := 0, locals := 60 } (xPc (dC, dI) vwCl (xT cI) ((pW a cI P) ++ (pW b cI O)) sz [.ref (a 0), .ref (b 0)]) (va_Qv (fun (u : (pS)) => F_X2_copy P O = u) (mB (dC, dI) vwCl (xT cI) (va_A ((pW a cI P) ++ (pW b cI O)) sz) (fun u => (pW a cI u) ++ (pW b cI O))) (va_A ((pW a cI P) ++ (pW b cI O)) sz)) 0 0 (va_A ((pW a cI P) ++ (pW b cI O)) sz) := by
  refine Met.ofW (cc := cX2_copy) (maxL := 2) (ret := none) (by decide) rfl ?_
  intro p e s m args below meth c s₁ B hml hv
  obtain ⟨rfl, hsz, hP, hK, hD0, hN⟩ := hv
  have hx := B.exec
  have hb := B.bytes
  have hr := B.returns
  have hts := atoms_spec (ws := wsX2_copy) B.pre
  have hown : s.vm.findClass RX2 = some m.cls := findClass_of_methodNamed B.named
  have hlocks := B.notSynchronized
  subst hsz
  have hD := hD0.self (sz := s.heap.size)
  generalize hAe : va_A ((pW a cI P) ++ (pW b cI O)) s.heap.size = A at hD ⊢
  have hA : ∀ q : Nat, s.heap.size ≤ q → A q := fun q h => by rw [← hAe]; exact Or.inr h
  have hS : va_S A s.heap s.heap [] := va_S.rf
  have hin2 : ∀ w ∈ wsX20, w ∈ wsX2_copy := by decide +kernel
  have lk9 := hts (.fieldLink RX2 9 "PostRounders$Play" "kind" "[I") (by decide +kernel)
  have lk15 := hts (.fieldLink RX2 15 "PostRounders$Play" "legs" "[I") (by decide +kernel)
  have lk18 := hts (.fieldLink RX2 18 "PostRounders$Play" "where" "[I") (by decide +kernel)
  have lk21 := hts (.fieldLink RX2 21 "PostRounders$Play" "next" "I") (by decide +kernel)
  have lk25 := hts (.fieldLink RX2 25 "PostRounders$Play" "bowler" "I") (by decide +kernel)
  have lk28 := hts (.fieldLink RX2 28 "PostRounders$Play" "size" "I") (by decide +kernel)
  have lk31 := hts (.fieldLink RX2 31 "PostRounders$Play" "points" "I") (by decide +kernel)
  have lk34 := hts (.fieldLink RX2 34 "PostRounders$Play" "balls" "I") (by decide +kernel)
  have hl := lv_entry ([.ref (a 0), .ref (b 0)]) (n := 2) (Nat.le_of_ble_eq_true rfl)
  rw [lg_entry_eq]
  generalize (lg_sl ([.ref (a 0), .ref (b 0)]) ++ List.replicate (2 - (lg_sl ([.ref (a 0), .ref (b 0)])).length) Slot.unset).toArray = ls at hl ⊢
  have hl : lv_has ls 2 [(0, .ref (a 0)), (1, .ref (b 0))] := hl
  obtain ⟨OUT, hO⟩ : ∃ z, z = F_X2_copy P O := ⟨_, rfl⟩
  have hF := hO
  unfold F_X2_copy at hF
  refine lv_aload_n hx hb dX2_copy_0 rfl (lv_at hl 0 rfl) ?_
  refine lv_aload_n hx hb dX2_copy_1 rfl (lv_at hl 1 rfl) ?_
  refine va_get (D := (dC, dI)) (ci := 2) (v := .int (Pbo O)) (C := RX2) (T := TX2) (N := 8) hx hb hts hin2 hown hK hP 4 rfl rfl 0 (by decide) lk25 (fun _ h9 => h9) rfl dX2_copy_2 ?_
  refine va_put (D := (dC, dI)) (ci := 2) (v := .int (Pbo O)) (ty := .int) (C := RX2) (T := TX2) (N := 8) hx hb hts hin2 tyX2 tyX2_ok nmX2 hown hK hP hD hS 0 rfl rfl 0 (by decide) lk25 (fun _ h9 => h9) rfl (by decide +kernel) rfl rfl (Nat.le_of_ble_eq_true rfl) dX2_copy_5 (fun H locs hP hD hS => ?_)
  have hP : va_P (dC, dI) vwCl ((pW a cI ((Pbo O, Psz P, Pkd P, Plg P, Pwh P, Pnx P, Ppt P, Pbl P))) ++ (pW b cI O)) H := hP
  have hD : va_D A ((pW a cI ((Pbo O, Psz P, Pkd P, Plg P, Pwh P, Pnx P, Ppt P, Pbl P))) ++ (pW b cI O)) := hD
  refine lv_aload_n hx hb dX2_copy_8 rfl (lv_at hl 0 rfl) ?_
  refine lv_aload_n hx hb dX2_copy_9 rfl (lv_at hl 1 rfl) ?_
  refine va_get (D := (dC, dI)) (ci := 2) (v := .int (Psz O)) (C := RX2) (T := TX2) (N := 8) hx hb hts hin2 hown hK hP 4 rfl rfl 1 (by decide) lk28 (fun _ h9 => h9) rfl dX2_copy_10 ?_
  refine va_put (D := (dC, dI)) (ci := 2) (v := .int (Psz O)) (ty := .int) (C := RX2) (T := TX2) (N := 8) hx hb hts hin2 tyX2 tyX2_ok nmX2 hown hK hP hD hS 0 rfl rfl 1 (by decide) lk28 (fun _ h9 => h9) rfl (by decide +kernel) rfl rfl (Nat.le_of_ble_eq_true rfl) dX2_copy_13 (fun H locs hP hD hS => ?_)
  have hP : va_P (dC, dI) vwCl ((pW a cI ((Pbo O, Psz O, Pkd P, Plg P, Pwh P, Pnx P, Ppt P, Pbl P))) ++ (pW b cI O)) H := hP
  have hD : va_D A ((pW a cI ((Pbo O, Psz O, Pkd P, Plg P, Pwh P, Pnx P, Ppt P, Pbl P))) ++ (pW b cI O)) := hD
  refine lv_aload_n hx hb dX2_copy_16 rfl (lv_at hl 0 rfl) ?_
  refine lv_aload_n hx hb dX2_copy_17 rfl (lv_at hl 1 rfl) ?_
  refine va_get (D := (dC, dI)) (ci := 2) (v := .int (Pnx O)) (C := RX2) (T := TX2) (N := 8) hx hb hts hin2 hown hK hP 4 rfl rfl 5 (by decide) lk21 (fun _ h9 => h9) rfl dX2_copy_18 ?_
  refine va_put (D := (dC, dI)) (ci := 2) (v := .int (Pnx O)) (ty := .int) (C := RX2) (T := TX2) (N := 8) hx hb hts hin2 tyX2 tyX2_ok nmX2 hown hK hP hD hS 0 rfl rfl 5 (by decide) lk21 (fun _ h9 => h9) rfl (by decide +kernel) rfl rfl (Nat.le_of_ble_eq_true rfl) dX2_copy_21 (fun H locs hP hD hS => ?_)
  have hP : va_P (dC, dI) vwCl ((pW a cI ((Pbo O, Psz O, Pkd P, Plg P, Pwh P, Pnx O, Ppt P, Pbl P))) ++ (pW b cI O)) H := hP
  have hD : va_D A ((pW a cI ((Pbo O, Psz O, Pkd P, Plg P, Pwh P, Pnx O, Ppt P, Pbl P))) ++ (pW b cI O)) := hD
  refine lv_aload_n hx hb dX2_copy_24 rfl (lv_at hl 0 rfl) ?_
  refine lv_aload_n hx hb dX2_copy_25 rfl (lv_at hl 1 rfl) ?_
  refine va_get (D := (dC, dI)) (ci := 2) (v := .int (Ppt O)) (C := RX2) (T := TX2) (N := 8) hx hb hts hin2 hown hK hP 4 rfl rfl 6 (by decide) lk31 (fun _ h9 => h9) rfl dX2_copy_26 ?_
  refine va_put (D := (dC, dI)) (ci := 2) (v := .int (Ppt O)) (ty := .int) (C := RX2) (T := TX2) (N := 8) hx hb hts hin2 tyX2 tyX2_ok nmX2 hown hK hP hD hS 0 rfl rfl 6 (by decide) lk31 (fun _ h9 => h9) rfl (by decide +kernel) rfl rfl (Nat.le_of_ble_eq_true rfl) dX2_copy_29 (fun H locs hP hD hS => ?_)
  have hP : va_P (dC, dI) vwCl ((pW a cI ((Pbo O, Psz O, Pkd P, Plg P, Pwh P, Pnx O, Ppt O, Pbl P))) ++ (pW b cI O)) H := hP
  have hD : va_D A ((pW a cI ((Pbo O, Psz O, Pkd P, Plg P, Pwh P, Pnx O, Ppt O, Pbl P))) ++ (pW b cI O)) := hD
  refine lv_aload_n hx hb dX2_copy_32 rfl (lv_at hl 0 rfl) ?_
  refine lv_aload_n hx hb dX2_copy_33 rfl (lv_at hl 1 rfl) ?_
  refine va_get (D := (dC, dI)) (ci := 2) (v := .int (Pbl O)) (C := RX2) (T := TX2) (N := 8) hx hb hts hin2 hown hK hP 4 rfl rfl 7 (by decide) lk34 (fun _ h9 => h9) rfl dX2_copy_34 ?_
  refine va_put (D := (dC, dI)) (ci := 2) (v := .int (Pbl O)) (ty := .int) (C := RX2) (T := TX2) (N := 8) hx hb hts hin2 tyX2 tyX2_ok nmX2 hown hK hP hD hS 0 rfl rfl 7 (by decide) lk34 (fun _ h9 => h9) rfl (by decide +kernel) rfl rfl (Nat.le_of_ble_eq_true rfl) dX2_copy_37 (fun H locs hP hD hS => ?_)
  have hP : va_P (dC, dI) vwCl ((pW a cI ((Pbo O, Psz O, Pkd P, Plg P, Pwh P, Pnx O, Ppt O, Pbl O))) ++ (pW b cI O)) H := hP
  have hD : va_D A ((pW a cI ((Pbo O, Psz O, Pkd P, Plg P, Pwh P, Pnx O, Ppt O, Pbl O))) ++ (pW b cI O)) := hD
  refine lv_aload_n hx hb dX2_copy_40 rfl (lv_at hl 1 rfl) ?_
  refine va_get (D := (dC, dI)) (ci := 2) (v := .ref (b 1)) (C := RX2) (T := TX2) (N := 8) hx hb hts hin2 hown hK hP 4 rfl rfl 2 (by decide) lk9 (fun _ h9 => h9) rfl dX2_copy_41 ?_
  refine lv_iconst (v := nI 0) hx hb dX2_copy_44 (by decide) ?_
  refine lv_aload_n hx hb dX2_copy_45 rfl (lv_at hl 0 rfl) ?_
  refine va_get (D := (dC, dI)) (ci := 2) (v := .ref (a 1)) (C := RX2) (T := TX2) (N := 8) hx hb hts hin2 hown hK hP 0 rfl rfl 2 (by decide) lk9 (fun _ h9 => h9) rfl dX2_copy_46 ?_
  refine lv_iconst (v := nI 0) hx hb dX2_copy_49 (by decide) ?_
  refine lv_bipush (v := nI 6) hx hb dX2_copy_50 (by decide) ?_
  refine qv_cpy (ws' := (pW a cI ((Pbo O, Psz O, va_cpy (Pkd O) (Pkd P) 0 0 6, Plg P, Pwh P, Pnx O, Ppt O, Pbl O))) ++ (pW b cI O)) hx hb (hml.trans hl.1.symm) hown (hts (.methodLink RX2 37 arraycopyName) (by decide +kernel)) (hts (.native arraycopyName) (by decide +kernel)) (hts (.static arraycopyName) (by decide +kernel)) (hts (.initialized "java/lang/System") (by decide +kernel)) hK hP hD hS 5 1 0 rfl rfl rfl (by omega) (by omega) (by decide) (by decide) (Nat.le_of_ble_eq_true rfl) (Nat.le_of_ble_eq_true rfl) dX2_copy_52 rfl (fun H locs hP hD hS => ?_)
  refine lv_aload_n hx hb dX2_copy_55 rfl (lv_at hl 1 rfl) ?_
  refine va_get (D := (dC, dI)) (ci := 2) (v := .ref (b 2)) (C := RX2) (T := TX2) (N := 8) hx hb hts hin2 hown hK hP 4 rfl rfl 3 (by decide) lk15 (fun _ h9 => h9) rfl dX2_copy_56 ?_
  refine lv_iconst (v := nI 0) hx hb dX2_copy_59 (by decide) ?_
  refine lv_aload_n hx hb dX2_copy_60 rfl (lv_at hl 0 rfl) ?_
  refine va_get (D := (dC, dI)) (ci := 2) (v := .ref (a 2)) (C := RX2) (T := TX2) (N := 8) hx hb hts hin2 hown hK hP 0 rfl rfl 3 (by decide) lk15 (fun _ h9 => h9) rfl dX2_copy_61 ?_
  refine lv_iconst (v := nI 0) hx hb dX2_copy_64 (by decide) ?_
  refine lv_bipush (v := nI 6) hx hb dX2_copy_65 (by decide) ?_
  refine qv_cpy (ws' := (pW a cI ((Pbo O, Psz O, va_cpy (Pkd O) (Pkd P) 0 0 6, va_cpy (Plg O) (Plg P) 0 0 6, Pwh P, Pnx O, Ppt O, Pbl O))) ++ (pW b cI O)) hx hb (hml.trans hl.1.symm) hown (hts (.methodLink RX2 37 arraycopyName) (by decide +kernel)) (hts (.native arraycopyName) (by decide +kernel)) (hts (.static arraycopyName) (by decide +kernel)) (hts (.initialized "java/lang/System") (by decide +kernel)) hK hP hD hS 6 2 0 rfl rfl rfl (by omega) (by omega) (by decide) (by decide) (Nat.le_of_ble_eq_true rfl) (Nat.le_of_ble_eq_true rfl) dX2_copy_67 rfl (fun H locs hP hD hS => ?_)
  refine lv_aload_n hx hb dX2_copy_70 rfl (lv_at hl 1 rfl) ?_
  refine va_get (D := (dC, dI)) (ci := 2) (v := .ref (b 3)) (C := RX2) (T := TX2) (N := 8) hx hb hts hin2 hown hK hP 4 rfl rfl 4 (by decide) lk18 (fun _ h9 => h9) rfl dX2_copy_71 ?_
  refine lv_iconst (v := nI 0) hx hb dX2_copy_74 (by decide) ?_
  refine lv_aload_n hx hb dX2_copy_75 rfl (lv_at hl 0 rfl) ?_
  refine va_get (D := (dC, dI)) (ci := 2) (v := .ref (a 3)) (C := RX2) (T := TX2) (N := 8) hx hb hts hin2 hown hK hP 0 rfl rfl 4 (by decide) lk18 (fun _ h9 => h9) rfl dX2_copy_76 ?_
  refine lv_iconst (v := nI 0) hx hb dX2_copy_79 (by decide) ?_
  refine lv_bipush (v := nI 6) hx hb dX2_copy_80 (by decide) ?_
  refine qv_cpy (ws' := (pW a cI ((Pbo O, Psz O, va_cpy (Pkd O) (Pkd P) 0 0 6, va_cpy (Plg O) (Plg P) 0 0 6, va_cpy (Pwh O) (Pwh P) 0 0 6, Pnx O, Ppt O, Pbl O))) ++ (pW b cI O)) hx hb (hml.trans hl.1.symm) hown (hts (.methodLink RX2 37 arraycopyName) (by decide +kernel)) (hts (.native arraycopyName) (by decide +kernel)) (hts (.static arraycopyName) (by decide +kernel)) (hts (.initialized "java/lang/System") (by decide +kernel)) hK hP hD hS 7 3 0 rfl rfl rfl (by omega) (by omega) (by decide) (by decide) (Nat.le_of_ble_eq_true rfl) (Nat.le_of_ble_eq_true rfl) dX2_copy_82 rfl (fun H locs hP hD hS => ?_)
  have hP9 : va_P (dC, dI) vwCl ((pW a cI ((Pbo O, Psz O, va_cpy (Pkd O) (Pkd P) 0 0 6, va_cpy (Plg O) (Plg P) 0 0 6, va_cpy (Pwh O) (Pwh P) 0 0 6, Pnx O, Ppt O, Pbl O))) ++ (pW b cI O)) H := hP
  exact W.vret hx hb hr (fun t ht hW => ⟨⟨((Pbo O, Psz O, va_cpy (Pkd O) (Pkd P) 0 0 6, va_cpy (Plg O) (Plg P) 0 0 6, va_cpy (Pwh O) (Pwh P) 0 0 6, Pnx O, Ppt O, Pbl O)), rfl, hO.symm.trans hF, by rw [ht]; exact hP9, va_K.moved hW.alike hK, hD⟩, hS.F ht⟩) hS.2.2 dX2_copy_85
def F_X2_join (P : pS) (k : Int32) (lg : Int32) : Int32 × (pS) := if tN (Psz P) < 6 then (if 0 ≤ (Pnx P) then (nI (tN (Psz P)), ((Pbo P, nI (tN (Psz P) + 1), upd (Pkd P) (tN (Psz P)) k, upd (Plg P) (tN (Psz P)) lg, upd (Pwh P) (tN (Psz P)) (nI 0), Pnx P, Ppt P, Pbl P))) else (nI (tN (Psz P)), ((Pbo P, nI (tN (Psz P) + 1), upd (Pkd P) (tN (Psz P)) k, upd (Plg P) (tN (Psz P)) lg, upd (Pwh P) (tN (Psz P)) (nI 0), nI (tN (Psz P)), Ppt P, Pbl P)))) else ((-1), P)
set_option maxHeartbeats 4000000 in
set_option maxRecDepth 100000 in
theorem c_X2_join (l : Launch) (dC : Nat → ClassId) (dI : Nat → Nat → Nat) (a : Nat → Nat) (cI : ClassId) (sz : Nat) (P : pS) (k : Int32) (lg : Int32) (pz : inB (Psz P) 6) : Met l yX2_join wsX2_join { frames := 0, cells := 0, slots := 0, locals := 0 } (xPc (dC, dI) vwCl (xT cI) (pW a cI P) sz [.ref (a 0), .int k, .int lg]) (va_Qi (fun (r : Int32) (u : (pS)) => F_X2_join P k lg = (r, u)) (mB (dC, dI) vwCl (xT cI) (va_A (pW a cI P) sz) (fun u => pW a cI u)) (va_A (pW a cI P) sz)) 0 0 (va_A (pW a cI P) sz) := by
  refine Met.ofW (cc := cX2_join) (maxL := 4) (ret := (some .int)) (by decide) rfl ?_
  intro p e s m args below meth c s₁ B hml hv
  obtain ⟨rfl, hsz, hP, hK, hD0, hN⟩ := hv
  have hx := B.exec
  have hb := B.bytes
  have hr := B.returns
  have hts := atoms_spec (ws := wsX2_join) B.pre
  have hown : s.vm.findClass RX2 = some m.cls := findClass_of_methodNamed B.named
  have hlocks := B.notSynchronized
  subst hsz
  have hD := hD0.self (sz := s.heap.size)
  generalize hAe : va_A (pW a cI P) s.heap.size = A at hD ⊢
  have hA : ∀ q : Nat, s.heap.size ≤ q → A q := fun q h => by rw [← hAe]; exact Or.inr h
  have hS : va_S A s.heap s.heap [] := va_S.rf
  have hin2 : ∀ w ∈ wsX20, w ∈ wsX2_join := by decide +kernel
  have lk9 := hts (.fieldLink RX2 9 "PostRounders$Play" "kind" "[I") (by decide +kernel)
  have lk15 := hts (.fieldLink RX2 15 "PostRounders$Play" "legs" "[I") (by decide +kernel)
  have lk18 := hts (.fieldLink RX2 18 "PostRounders$Play" "where" "[I") (by decide +kernel)
  have lk21 := hts (.fieldLink RX2 21 "PostRounders$Play" "next" "I") (by decide +kernel)
  have lk28 := hts (.fieldLink RX2 28 "PostRounders$Play" "size" "I") (by decide +kernel)
  have hl := lv_entry ([.ref (a 0), .int k, .int lg]) (n := 4) (Nat.le_of_ble_eq_true rfl)
  rw [lg_entry_eq]
  generalize (lg_sl ([.ref (a 0), .int k, .int lg]) ++ List.replicate (4 - (lg_sl ([.ref (a 0), .int k, .int lg])).length) Slot.unset).toArray = ls at hl ⊢
  have hl : lv_has ls 4 [(0, .ref (a 0)), (1, .int k), (2, .int lg)] := hl
  obtain ⟨OUT, hO⟩ : ∃ z, z = F_X2_join P k lg := ⟨_, rfl⟩
  have hF := hO
  unfold F_X2_join at hF
  have e_pz := tN_eq pz.1
  have b_pz := pz.2
  refine lv_aload_n hx hb dX2_join_0 rfl (lv_at hl 0 rfl) ?_
  refine va_get (D := (dC, dI)) (ci := 2) (v := .int (Psz P)) (C := RX2) (T := TX2) (N := 8) hx hb hts hin2 hown hK hP 0 rfl rfl 1 (by decide) lk28 (fun _ h9 => h9) rfl dX2_join_1 ?_
  refine qv_top (e_pz) ?_
  refine lv_bipush (v := nI 6) hx hb dX2_join_4 (by decide) ?_
  refine qv_icmp_lt (tgt := 11) hx hb dX2_join_6 (by decide) (by omega) (by omega) (fun c_6 => ?_) (fun c_6 => ?_)
  · rw [if_pos c_6] at hF
    refine lv_aload_n hx hb dX2_join_11 rfl (lv_at hl 0 rfl) ?_
    refine va_get (D := (dC, dI)) (ci := 2) (v := .int (Psz P)) (C := RX2) (T := TX2) (N := 8) hx hb hts hin2 hown hK hP 0 rfl rfl 1 (by decide) lk28 (fun _ h9 => h9) rfl dX2_join_12 ?_
    refine qv_top (e_pz) ?_
    refine lv_istore_n (lv' := [(3, .int (nI (tN (Psz P)))), (0, .ref (a 0)), (1, .int k), (2, .int lg)]) hx hb dX2_join_15 rfl hl (by decide) rfl (fun ls hl => ?_)
    refine lv_aload_n hx hb dX2_join_16 rfl (lv_at hl 1 rfl) ?_
    refine va_get (D := (dC, dI)) (ci := 2) (v := .ref (a 1)) (C := RX2) (T := TX2) (N := 8) hx hb hts hin2 hown hK hP 0 rfl rfl 2 (by decide) lk9 (fun _ h9 => h9) rfl dX2_join_17 ?_
    refine lv_iload_n hx hb dX2_join_20 rfl (lv_at hl 0 rfl) ?_
    refine lv_iload_n hx hb dX2_join_21 rfl (lv_at hl 2 rfl) ?_
    refine qv_ast (ws' := pW a cI ((Pbo P, Psz P, upd (Pkd P) (tN (Psz P)) k, Plg P, Pwh P, Pnx P, Ppt P, Pbl P))) hx hb hK hP hD hS 1 0 rfl rfl (by omega) (by decide) dX2_join_22 rfl (fun H locs hP hD hS => ?_)
    refine lv_aload_n hx hb dX2_join_23 rfl (lv_at hl 1 rfl) ?_
    refine va_get (D := (dC, dI)) (ci := 2) (v := .ref (a 2)) (C := RX2) (T := TX2) (N := 8) hx hb hts hin2 hown hK hP 0 rfl rfl 3 (by decide) lk15 (fun _ h9 => h9) rfl dX2_join_24 ?_
    refine lv_iload_n hx hb dX2_join_27 rfl (lv_at hl 0 rfl) ?_
    refine lv_iload_n hx hb dX2_join_28 rfl (lv_at hl 3 rfl) ?_
    refine qv_ast (ws' := pW a cI ((Pbo P, Psz P, upd (Pkd P) (tN (Psz P)) k, upd (Plg P) (tN (Psz P)) lg, Pwh P, Pnx P, Ppt P, Pbl P))) hx hb hK hP hD hS 2 0 rfl rfl (by omega) (by decide) dX2_join_29 rfl (fun H locs hP hD hS => ?_)
    refine lv_aload_n hx hb dX2_join_30 rfl (lv_at hl 1 rfl) ?_
    refine va_get (D := (dC, dI)) (ci := 2) (v := .ref (a 3)) (C := RX2) (T := TX2) (N := 8) hx hb hts hin2 hown hK hP 0 rfl rfl 4 (by decide) lk18 (fun _ h9 => h9) rfl dX2_join_31 ?_
    refine lv_iload_n hx hb dX2_join_34 rfl (lv_at hl 0 rfl) ?_
    refine lv_iconst (v := nI 0) hx hb dX2_join_35 (by decide) ?_
    refine qv_ast (ws' := pW a cI ((Pbo P, Psz P, upd (Pkd P) (tN (Psz P)) k, upd (Plg P) (tN (Psz P)) lg, upd (Pwh P) (tN (Psz P)) (nI 0), Pnx P, Ppt P, Pbl P))) hx hb hK hP hD hS 3 0 rfl rfl (by omega) (by decide) dX2_join_36 rfl (fun H locs hP hD hS => ?_)
    refine lv_aload_n hx hb dX2_join_37 rfl (lv_at hl 1 rfl) ?_
    refine lv_dup hx hb dX2_join_38 rfl ?_
    refine va_get (D := (dC, dI)) (ci := 2) (v := .int (Psz P)) (C := RX2) (T := TX2) (N := 8) hx hb hts hin2 hown hK hP 0 rfl rfl 1 (by decide) lk28 (fun _ h9 => h9) rfl dX2_join_39 ?_
    refine qv_top (e_pz) ?_
    refine lv_iconst (v := nI 1) hx hb dX2_join_42 (by decide) ?_
    refine qv_iadd hx hb (tN (Psz P) + 1) dX2_join_43 (by omega) ?_
    refine va_put (D := (dC, dI)) (ci := 2) (v := .int (nI (tN (Psz P) + 1))) (ty := .int) (C := RX2) (T := TX2) (N := 8) hx hb hts hin2 tyX2 tyX2_ok nmX2 hown hK hP hD hS 0 rfl rfl 1 (by decide) lk28 (fun _ h9 => h9) rfl (by decide +kernel) rfl rfl (Nat.le_of_ble_eq_true rfl) dX2_join_44 (fun H locs hP hD hS => ?_)
    have hP : va_P (dC, dI) vwCl (pW a cI ((Pbo P, nI (tN (Psz P) + 1), upd (Pkd P) (tN (Psz P)) k, upd (Plg P) (tN (Psz P)) lg, upd (Pwh P) (tN (Psz P)) (nI 0), Pnx P, Ppt P, Pbl P))) H := hP
    have hD : va_D A (pW a cI ((Pbo P, nI (tN (Psz P) + 1), upd (Pkd P) (tN (Psz P)) k, upd (Plg P) (tN (Psz P)) lg, upd (Pwh P) (tN (Psz P)) (nI 0), Pnx P, Ppt P, Pbl P))) := hD
    refine lv_aload_n hx hb dX2_join_47 rfl (lv_at hl 1 rfl) ?_
    refine va_get (D := (dC, dI)) (ci := 2) (v := .int (Pnx P)) (C := RX2) (T := TX2) (N := 8) hx hb hts hin2 hown hK hP 0 rfl rfl 5 (by decide) lk21 (fun _ h9 => h9) rfl dX2_join_48 ?_
    refine lv_if_ge (tgt := 59) hx hb dX2_join_51 (by decide) (fun c_51 => ?_) (fun c_51 => ?_)
    · rw [if_pos c_51] at hF
      refine lv_iload_n hx hb dX2_join_59 rfl (lv_at hl 0 rfl) ?_
      have hP9 : va_P (dC, dI) vwCl (pW a cI ((Pbo P, nI (tN (Psz P) + 1), upd (Pkd P) (tN (Psz P)) k, upd (Plg P) (tN (Psz P)) lg, upd (Pwh P) (tN (Psz P)) (nI 0), Pnx P, Ppt P, Pbl P))) H := hP
      exact W.iret (v := nI (tN (Psz P))) hx hb hr (fun t ht hW => ⟨⟨_, ((Pbo P, nI (tN (Psz P) + 1), upd (Pkd P) (tN (Psz P)) k, upd (Plg P) (tN (Psz P)) lg, upd (Pwh P) (tN (Psz P)) (nI 0), Pnx P, Ppt P, Pbl P)), rfl, hO.symm.trans hF, by rw [ht]; exact hP9, va_K.moved hW.alike hK, hD⟩, hS.F ht⟩) hS.2.2 dX2_join_60
    · rw [if_neg c_51] at hF
      refine lv_aload_n hx hb dX2_join_54 rfl (lv_at hl 1 rfl) ?_
      refine lv_iload_n hx hb dX2_join_55 rfl (lv_at hl 0 rfl) ?_
      refine va_put (D := (dC, dI)) (ci := 2) (v := .int (nI (tN (Psz P)))) (ty := .int) (C := RX2) (T := TX2) (N := 8) hx hb hts hin2 tyX2 tyX2_ok nmX2 hown hK hP hD hS 0 rfl rfl 5 (by decide) lk21 (fun _ h9 => h9) rfl (by decide +kernel) rfl rfl (Nat.le_of_ble_eq_true rfl) dX2_join_56 (fun H locs hP hD hS => ?_)
      have hP : va_P (dC, dI) vwCl (pW a cI ((Pbo P, nI (tN (Psz P) + 1), upd (Pkd P) (tN (Psz P)) k, upd (Plg P) (tN (Psz P)) lg, upd (Pwh P) (tN (Psz P)) (nI 0), nI (tN (Psz P)), Ppt P, Pbl P))) H := hP
      have hD : va_D A (pW a cI ((Pbo P, nI (tN (Psz P) + 1), upd (Pkd P) (tN (Psz P)) k, upd (Plg P) (tN (Psz P)) lg, upd (Pwh P) (tN (Psz P)) (nI 0), nI (tN (Psz P)), Ppt P, Pbl P))) := hD
      refine lv_iload_n hx hb dX2_join_59 rfl (lv_at hl 0 rfl) ?_
      have hP9 : va_P (dC, dI) vwCl (pW a cI ((Pbo P, nI (tN (Psz P) + 1), upd (Pkd P) (tN (Psz P)) k, upd (Plg P) (tN (Psz P)) lg, upd (Pwh P) (tN (Psz P)) (nI 0), nI (tN (Psz P)), Ppt P, Pbl P))) H := hP
      exact W.iret (v := nI (tN (Psz P))) hx hb hr (fun t ht hW => ⟨⟨_, ((Pbo P, nI (tN (Psz P) + 1), upd (Pkd P) (tN (Psz P)) k, upd (Plg P) (tN (Psz P)) lg, upd (Pwh P) (tN (Psz P)) (nI 0), nI (tN (Psz P)), Ppt P, Pbl P)), rfl, hO.symm.trans hF, by rw [ht]; exact hP9, va_K.moved hW.alike hK, hD⟩, hS.F ht⟩) hS.2.2 dX2_join_60
  · rw [if_neg c_6] at hF
    refine lv_iconst (v := (-1)) hx hb dX2_join_9 (by decide) ?_
    have hP9 : va_P (dC, dI) vwCl (pW a cI P) s.heap := hP
    exact W.iret (v := (-1)) hx hb hr (fun t ht hW => ⟨⟨_, (P), rfl, hO.symm.trans hF, by rw [ht]; exact hP9, va_K.moved hW.alike hK, hD⟩, hS.F ht⟩) hS.2.2 dX2_join_10
def F_X2_told (P : pS) (i : Int32) (wh : Int32) : Int32 := if (F_X5_within i (nI 0) ((nI (tN (Psz P))) - (nI 1))) = true then (if wh = 0 then (Pkd P) (tN i) else (if wh = (nI 1) then (Plg P) (tN i) else (Pwh P) (tN i))) else (-1)
set_option maxHeartbeats 4000000 in
set_option maxRecDepth 100000 in
theorem c_X2_told (l : Launch) (dC : Nat → ClassId) (dI : Nat → Nat → Nat) (a : Nat → Nat) (cI : ClassId) (sz : Nat) (P : pS) (i : Int32) (wh : Int32) (pz : inB (Psz P) 6) : Met l yX2_told wsX2_told { frames := 1, cells := 0, slots := 0, locals := 22 } (xPc (dC, dI) vwCl (xT cI) (pW a cI P) sz [.ref (a 0), .int i, .int wh]) (va_Qi (fun (r : Int32) (u : Unit) => F_X2_told P i wh = r) (mB (dC, dI) vwCl (xT cI) (va_A (pW a cI P) sz) (fun u => pW a cI P)) (va_A (pW a cI P) sz)) 0 0 (va_A (pW a cI P) sz) := by
  refine Met.ofW (cc := cX2_told) (maxL := 3) (ret := (some .int)) (by decide) rfl ?_
  intro p e s m args below meth c s₁ B hml hv
  obtain ⟨rfl, hsz, hP, hK, hD0, hN⟩ := hv
  have hx := B.exec
  have hb := B.bytes
  have hr := B.returns
  have hts := atoms_spec (ws := wsX2_told) B.pre
  have hown : s.vm.findClass RX2 = some m.cls := findClass_of_methodNamed B.named
  have hlocks := B.notSynchronized
  subst hsz
  have hD := hD0.self (sz := s.heap.size)
  generalize hAe : va_A (pW a cI P) s.heap.size = A at hD ⊢
  have hA : ∀ q : Nat, s.heap.size ≤ q → A q := fun q h => by rw [← hAe]; exact Or.inr h
  have hS : va_S A s.heap s.heap [] := va_S.rf
  have hin2 : ∀ w ∈ wsX20, w ∈ wsX2_told := by decide +kernel
  have lk9 := hts (.fieldLink RX2 9 "PostRounders$Play" "kind" "[I") (by decide +kernel)
  have lk15 := hts (.fieldLink RX2 15 "PostRounders$Play" "legs" "[I") (by decide +kernel)
  have lk18 := hts (.fieldLink RX2 18 "PostRounders$Play" "where" "[I") (by decide +kernel)
  have lk28 := hts (.fieldLink RX2 28 "PostRounders$Play" "size" "I") (by decide +kernel)
  have hN47 := xN_47 hN
  have hl := lv_entry ([.ref (a 0), .int i, .int wh]) (n := 3) (Nat.le_of_ble_eq_true rfl)
  rw [lg_entry_eq]
  generalize (lg_sl ([.ref (a 0), .int i, .int wh]) ++ List.replicate (3 - (lg_sl ([.ref (a 0), .int i, .int wh])).length) Slot.unset).toArray = ls at hl ⊢
  have hl : lv_has ls 3 [(0, .ref (a 0)), (1, .int i), (2, .int wh)] := hl
  obtain ⟨OUT, hO⟩ : ∃ z, z = F_X2_told P i wh := ⟨_, rfl⟩
  have hF := hO
  unfold F_X2_told at hF
  have e_pz := tN_eq pz.1
  have b_pz := pz.2
  refine lv_iload_n hx hb dX2_told_0 rfl (lv_at hl 1 rfl) ?_
  refine lv_iconst (v := nI 0) hx hb dX2_told_1 (by decide) ?_
  refine lv_aload_n hx hb dX2_told_2 rfl (lv_at hl 0 rfl) ?_
  refine va_get (D := (dC, dI)) (ci := 2) (v := .int (Psz P)) (C := RX2) (T := TX2) (N := 8) hx hb hts hin2 hown hK hP 0 rfl rfl 1 (by decide) lk28 (fun _ h9 => h9) rfl dX2_told_3 ?_
  refine qv_top (e_pz) ?_
  refine lv_iconst (v := nI 1) hx hb dX2_told_6 (by decide) ?_
  refine lv_isub hx hb dX2_told_7 ?_
  refine qc_SiN (As := [.int i, .int (nI 0), .int ((nI (tN (Psz P))) - (nI 1))]) (rest := []) ⟨hx, hb, hml, hown, hts⟩ (c_X5_within l i (nI 0) ((nI (tN (Psz P))) - (nI 1))) (va_cnB 3 hts gX2_told_X5_within_n47 rfl rfl rfl hN47 (hts (.initialized RX5) (by decide +kernel)) (by decide +kernel) ⟨Nat.le_of_ble_eq_true rfl, Nat.le_of_ble_eq_true rfl⟩) (hts (.static yX5_within) (by decide +kernel)) rfl hl.1 rfl (Nat.le_of_ble_eq_true rfl) dX2_told_8 ⟨Nat.zero_le _, Nat.zero_le _⟩ (fun r_8 hw_8 => ?_)
  subst hw_8
  refine qv_zif_ne (tgt := 16) hx hb dX2_told_11 (by decide) (fun c_11 => ?_) (fun c_11 => ?_)
  · rw [if_pos c_11] at hF
    obtain ⟨f_i, fb_i⟩ := within_sz (by omega) c_11
    have e_i := tN_eq f_i
    refine lv_iload_n hx hb dX2_told_16 rfl (lv_at hl 2 rfl) ?_
    refine lv_if_ne (tgt := 27) hx hb dX2_told_17 (by decide) (fun c_17 => ?_) (fun c_17 => ?_)
    · rw [if_neg c_17] at hF
      refine lv_iload_n hx hb dX2_told_27 rfl (lv_at hl 2 rfl) ?_
      refine lv_iconst (v := nI 1) hx hb dX2_told_28 (by decide) ?_
      refine lv_icmp_ne (tgt := 41) hx hb dX2_told_29 (by decide) (fun c_29 => ?_) (fun c_29 => ?_)
      · rw [if_neg c_29] at hF
        refine lv_aload_n hx hb dX2_told_41 rfl (lv_at hl 0 rfl) ?_
        refine va_get (D := (dC, dI)) (ci := 2) (v := .ref (a 3)) (C := RX2) (T := TX2) (N := 8) hx hb hts hin2 hown hK hP 0 rfl rfl 4 (by decide) lk18 (fun _ h9 => h9) rfl dX2_told_42 ?_
        refine lv_iload_n hx hb dX2_told_45 rfl (lv_at hl 1 rfl) ?_
        refine qv_top (e_i) ?_
        refine qv_ald (v := (Pwh P) (tN i)) hx hb hK hP 3 0 rfl rfl (by omega) (by decide) (rfl) dX2_told_46 ?_
        have hP9 : va_P (dC, dI) vwCl (pW a cI P) s.heap := hP
        exact W.iret (v := (Pwh P) (tN i)) hx hb hr (fun t ht hW => ⟨⟨_, (()), rfl, hO.symm.trans hF, by rw [ht]; exact hP9, va_K.moved hW.alike hK, hD⟩, hS.F ht⟩) hS.2.2 dX2_told_47
      · rw [if_pos c_29] at hF
        refine lv_aload_n hx hb dX2_told_32 rfl (lv_at hl 0 rfl) ?_
        refine va_get (D := (dC, dI)) (ci := 2) (v := .ref (a 2)) (C := RX2) (T := TX2) (N := 8) hx hb hts hin2 hown hK hP 0 rfl rfl 3 (by decide) lk15 (fun _ h9 => h9) rfl dX2_told_33 ?_
        refine lv_iload_n hx hb dX2_told_36 rfl (lv_at hl 1 rfl) ?_
        refine qv_top (e_i) ?_
        refine qv_ald (v := (Plg P) (tN i)) hx hb hK hP 2 0 rfl rfl (by omega) (by decide) (rfl) dX2_told_37 ?_
        refine lv_goto (tgt := 47) hx hb dX2_told_38 (by decide) ?_
        have hP9 : va_P (dC, dI) vwCl (pW a cI P) s.heap := hP
        exact W.iret (v := (Plg P) (tN i)) hx hb hr (fun t ht hW => ⟨⟨_, (()), rfl, hO.symm.trans hF, by rw [ht]; exact hP9, va_K.moved hW.alike hK, hD⟩, hS.F ht⟩) hS.2.2 dX2_told_47
    · rw [if_pos c_17] at hF
      refine lv_aload_n hx hb dX2_told_20 rfl (lv_at hl 0 rfl) ?_
      refine va_get (D := (dC, dI)) (ci := 2) (v := .ref (a 1)) (C := RX2) (T := TX2) (N := 8) hx hb hts hin2 hown hK hP 0 rfl rfl 2 (by decide) lk9 (fun _ h9 => h9) rfl dX2_told_21 ?_
      refine lv_iload_n hx hb dX2_told_24 rfl (lv_at hl 1 rfl) ?_
      refine qv_top (e_i) ?_
      refine qv_ald (v := (Pkd P) (tN i)) hx hb hK hP 1 0 rfl rfl (by omega) (by decide) (rfl) dX2_told_25 ?_
      have hP9 : va_P (dC, dI) vwCl (pW a cI P) s.heap := hP
      exact W.iret (v := (Pkd P) (tN i)) hx hb hr (fun t ht hW => ⟨⟨_, (()), rfl, hO.symm.trans hF, by rw [ht]; exact hP9, va_K.moved hW.alike hK, hD⟩, hS.F ht⟩) hS.2.2 dX2_told_26
  · rw [if_neg c_11] at hF
    refine lv_iconst (v := (-1)) hx hb dX2_told_14 (by decide) ?_
    have hP9 : va_P (dC, dI) vwCl (pW a cI P) s.heap := hP
    exact W.iret (v := (-1)) hx hb hr (fun t ht hW => ⟨⟨_, (()), rfl, hO.symm.trans hF, by rw [ht]; exact hP9, va_K.moved hW.alike hK, hD⟩, hS.F ht⟩) hS.2.2 dX2_told_15
def F_X2_howManyAt_L5 : Nat → (Int32) → (Int32) → (pS) → (Nat) → (Nat) → (Nat) × (Nat)
  | 0, _, _, _, k, c0 => (k, c0)
  | n_5 + 1, lo, hi, P, k, c0 => if tN (Psz P) ≤ k then (k, c0) else (if (F_X5_within ((Pwh P) k) lo hi) = true then F_X2_howManyAt_L5 n_5 lo hi P (k + 1) (c0 + 1) else F_X2_howManyAt_L5 n_5 lo hi P (k + 1) c0)
def F_X2_howManyAt (P : pS) (lo : Int32) (hi : Int32) : Int32 := let2 (F_X2_howManyAt_L5 7 lo hi P 0 0) (fun k c0 => nI c0)
set_option maxHeartbeats 4000000 in
set_option maxRecDepth 100000 in
theorem c_X2_howManyAt (l : Launch) (dC : Nat → ClassId) (dI : Nat → Nat → Nat) (a : Nat → Nat) (cI : ClassId) (sz : Nat) (P : pS) (lo : Int32) (hi : Int32) (pz : inB (Psz P) 6) : Met l yX2_howManyAt wsX2_howManyAt { frames := 1, cells := 0, slots := 0, locals := 22 } (xPc (dC, dI) vwCl (xT cI) (pW a cI P) sz [.ref (a 0), .int lo, .int hi]) (va_Qi (fun (r : Int32) (u : Unit) => F_X2_howManyAt P lo hi = r) (mB (dC, dI) vwCl (xT cI) (va_A (pW a cI P) sz) (fun u => pW a cI P)) (va_A (pW a cI P) sz)) 0 0 (va_A (pW a cI P) sz) := by
  refine Met.ofW (cc := cX2_howManyAt) (maxL := 5) (ret := (some .int)) (by decide) rfl ?_
  intro p e s m args below meth c s₁ B hml hv
  obtain ⟨rfl, hsz, hP, hK, hD0, hN⟩ := hv
  have hx := B.exec
  have hb := B.bytes
  have hr := B.returns
  have hts := atoms_spec (ws := wsX2_howManyAt) B.pre
  have hown : s.vm.findClass RX2 = some m.cls := findClass_of_methodNamed B.named
  have hlocks := B.notSynchronized
  subst hsz
  have hD := hD0.self (sz := s.heap.size)
  generalize hAe : va_A (pW a cI P) s.heap.size = A at hD ⊢
  have hA : ∀ q : Nat, s.heap.size ≤ q → A q := fun q h => by rw [← hAe]; exact Or.inr h
  have hS : va_S A s.heap s.heap [] := va_S.rf
  have hin2 : ∀ w ∈ wsX20, w ∈ wsX2_howManyAt := by decide +kernel
  have lk18 := hts (.fieldLink RX2 18 "PostRounders$Play" "where" "[I") (by decide +kernel)
  have lk28 := hts (.fieldLink RX2 28 "PostRounders$Play" "size" "I") (by decide +kernel)
  have hN47 := xN_47 hN
  have hl := lv_entry ([.ref (a 0), .int lo, .int hi]) (n := 5) (Nat.le_of_ble_eq_true rfl)
  rw [lg_entry_eq]
  generalize (lg_sl ([.ref (a 0), .int lo, .int hi]) ++ List.replicate (5 - (lg_sl ([.ref (a 0), .int lo, .int hi])).length) Slot.unset).toArray = ls at hl ⊢
  have hl : lv_has ls 5 [(0, .ref (a 0)), (1, .int lo), (2, .int hi)] := hl
  obtain ⟨OUT, hO⟩ : ∃ z, z = F_X2_howManyAt P lo hi := ⟨_, rfl⟩
  have hF := hO
  unfold F_X2_howManyAt at hF
  have e_pz := tN_eq pz.1
  have b_pz := pz.2
  refine lv_iconst (v := nI 0) hx hb dX2_howManyAt_0 (by decide) ?_
  refine lv_istore_n (lv' := [(3, .int (nI 0)), (0, .ref (a 0)), (1, .int lo), (2, .int hi)]) hx hb dX2_howManyAt_1 rfl hl (by decide) rfl (fun ls hl => ?_)
  refine lv_iconst (v := nI 0) hx hb dX2_howManyAt_2 (by decide) ?_
  refine lv_istore (lv' := [(4, .int (nI 0)), (3, .int (nI 0)), (0, .ref (a 0)), (1, .int lo), (2, .int hi)]) hx hb dX2_howManyAt_3 hl (by decide) rfl (fun ls hl => ?_)
  have L_5 : ∀ (n_5 : Nat) (k : Nat) (c0 : Nat) (H : Heap) (locs : List Loc), k ≤ tN (Psz P) → tN (Psz P) - k < n_5 → va_P (dC, dI) vwCl (pW a cI P) H → va_D A (pW a cI P) → va_S A s.heap H locs → ∀ (ls : Array Slot), lv_has ls 5 [(4, .int (nI k)), (3, .int (nI c0)), (0, .ref (a 0)), (1, .int lo), (2, .int hi)] → OUT = let2 (F_X2_howManyAt_L5 n_5 lo hi P k c0) (fun k c0 => nI c0) → W p l e (headSpec wsX2_howManyAt { frames := 1, cells := 0, slots := 0, locals := 22 }).room s m ([.ref (a 0), .int lo, .int hi] : List Value).toArray below meth c H locs 0 0 (MQ below (va_Qi (fun (r : Int32) (u : Unit) => F_X2_howManyAt P lo hi = r) (mB (dC, dI) vwCl (xT cI) A (fun u => pW a cI P)) A) ([.ref (a 0), .int lo, .int hi] : List Value).toArray s 0 0 A) (F0 m 5 ls []) := by
    intro n_5
    induction n_5 with
    | zero => intro k c0 H locs i0 hmu; exact absurd hmu (Nat.not_lt_zero _)
    | succ n_5 ih_5 =>
      intro k c0 H locs i0 hmu_5 hP hD hS ls hl hF
      rw [F_X2_howManyAt_L5] at hF
      refine lv_iload hx hb dX2_howManyAt_5 (lv_at hl 0 rfl) ?_
      refine lv_aload_n hx hb dX2_howManyAt_7 rfl (lv_at hl 2 rfl) ?_
      refine va_get (D := (dC, dI)) (ci := 2) (v := .int (Psz P)) (C := RX2) (T := TX2) (N := 8) hx hb hts hin2 hown hK hP 0 rfl rfl 1 (by decide) lk28 (fun _ h9 => h9) rfl dX2_howManyAt_8 ?_
      refine qv_top (e_pz) ?_
      refine qv_icmp_ge (tgt := 38) hx hb dX2_howManyAt_11 (by decide) (by omega) (by omega) (fun c_11 => ?_) (fun c_11 => ?_)
      · rw [if_pos c_11] at hF
        rw [let2_mk (k : Nat) (c0 : Nat)] at hF
        refine lv_iload_n hx hb dX2_howManyAt_38 rfl (lv_at hl 1 rfl) ?_
        have hP9 : va_P (dC, dI) vwCl (pW a cI P) H := hP
        exact W.iret (v := nI c0) hx hb hr (fun t ht hW => ⟨⟨_, (()), rfl, hO.symm.trans hF, by rw [ht]; exact hP9, va_K.moved hW.alike hK, hD⟩, hS.F ht⟩) hS.2.2 dX2_howManyAt_39
      · rw [if_neg c_11] at hF
        refine lv_aload_n hx hb dX2_howManyAt_14 rfl (lv_at hl 2 rfl) ?_
        refine va_get (D := (dC, dI)) (ci := 2) (v := .ref (a 3)) (C := RX2) (T := TX2) (N := 8) hx hb hts hin2 hown hK hP 0 rfl rfl 4 (by decide) lk18 (fun _ h9 => h9) rfl dX2_howManyAt_15 ?_
        refine lv_iload hx hb dX2_howManyAt_18 (lv_at hl 0 rfl) ?_
        refine qv_ald (v := (Pwh P) k) hx hb hK hP 3 0 rfl rfl (by omega) (by decide) (rfl) dX2_howManyAt_20 ?_
        refine lv_iload_n hx hb dX2_howManyAt_21 rfl (lv_at hl 3 rfl) ?_
        refine lv_iload_n hx hb dX2_howManyAt_22 rfl (lv_at hl 4 rfl) ?_
        refine qc_SiN (As := [.int ((Pwh P) k), .int lo, .int hi]) (rest := []) ⟨hx, hb, hml, hown, hts⟩ (c_X5_within l ((Pwh P) k) lo hi) (va_cnB 3 hts gX2_howManyAt_X5_within_n47 rfl rfl rfl hN47 (hts (.initialized RX5) (by decide +kernel)) (by decide +kernel) ⟨Nat.le_of_ble_eq_true rfl, Nat.le_of_ble_eq_true rfl⟩) (hts (.static yX5_within) (by decide +kernel)) rfl hl.1 rfl (Nat.le_of_ble_eq_true rfl) dX2_howManyAt_23 ⟨Nat.zero_le _, Nat.zero_le _⟩ (fun r_23 hw_23 => ?_)
        subst hw_23
        refine qv_zif_eq (tgt := 32) hx hb dX2_howManyAt_26 (by decide) (fun c_26 => ?_) (fun c_26 => ?_)
        · rw [if_neg c_26] at hF
          refine lv_iinc (v := nI (k + 1)) (lv' := [(4, .int (nI (k + 1))), (3, .int (nI c0)), (0, .ref (a 0)), (1, .int lo), (2, .int hi)]) hx hb dX2_howManyAt_32 hl (k := 0) rfl (qn_inc (c := 1) rfl (by omega)) (by decide) rfl (fun ls hl => ?_)
          refine lv_goto (tgt := 5) hx hb dX2_howManyAt_35 (by decide) ?_
          exact ih_5 (k + 1) c0 H locs (by omega) (by omega) hP hD hS ls (lv_sub hl [0, 1, 2, 3, 4] rfl) hF
        · rw [if_pos c_26] at hF
          refine lv_iinc (v := nI (c0 + 1)) (lv' := [(3, .int (nI (c0 + 1))), (4, .int (nI k)), (0, .ref (a 0)), (1, .int lo), (2, .int hi)]) hx hb dX2_howManyAt_29 hl (k := 1) rfl (qn_inc (c := 1) rfl (by omega)) (by decide) rfl (fun ls hl => ?_)
          refine lv_iinc (v := nI (k + 1)) (lv' := [(4, .int (nI (k + 1))), (3, .int (nI (c0 + 1))), (0, .ref (a 0)), (1, .int lo), (2, .int hi)]) hx hb dX2_howManyAt_32 hl (k := 1) rfl (qn_inc (c := 1) rfl (by omega)) (by decide) rfl (fun ls hl => ?_)
          refine lv_goto (tgt := 5) hx hb dX2_howManyAt_35 (by decide) ?_
          exact ih_5 (k + 1) (c0 + 1) H locs (by omega) (by omega) hP hD hS ls (lv_sub hl [0, 1, 2, 3, 4] rfl) hF
  exact L_5 7 0 0 s.heap [] (by omega) (by omega) hP hD hS ls (lv_sub hl [0, 1, 2, 3, 4] rfl) hF
def F_X2_comesTo (P : pS) (h : Int32) : Int32 := F_X5_hitWorth (Pbo P) h ((Pbl P) + (nI 1))
set_option maxHeartbeats 4000000 in
set_option maxRecDepth 100000 in
theorem c_X2_comesTo (l : Launch) (dC : Nat → ClassId) (dI : Nat → Nat → Nat) (a : Nat → Nat) (cI : ClassId) (sz : Nat) (P : pS) (h : Int32) : Met l yX2_comesTo wsX2_comesTo { frames := 2, cells := 0, slots := 0, locals := 38 } (xPc (dC, dI) vwCl (xT cI) (pW a cI P) sz [.ref (a 0), .int h]) (va_Qi (fun (r : Int32) (u : Unit) => F_X2_comesTo P h = r) (mB (dC, dI) vwCl (xT cI) (va_A (pW a cI P) sz) (fun u => pW a cI P)) (va_A (pW a cI P) sz)) 0 0 (va_A (pW a cI P) sz) := by
  refine Met.ofW (cc := cX2_comesTo) (maxL := 2) (ret := (some .int)) (by decide) rfl ?_
  intro p e s m args below meth c s₁ B hml hv
  obtain ⟨rfl, hsz, hP, hK, hD0, hN⟩ := hv
  have hx := B.exec
  have hb := B.bytes
  have hr := B.returns
  have hts := atoms_spec (ws := wsX2_comesTo) B.pre
  have hown : s.vm.findClass RX2 = some m.cls := findClass_of_methodNamed B.named
  have hlocks := B.notSynchronized
  subst hsz
  have hD := hD0.self (sz := s.heap.size)
  generalize hAe : va_A (pW a cI P) s.heap.size = A at hD ⊢
  have hA : ∀ q : Nat, s.heap.size ≤ q → A q := fun q h => by rw [← hAe]; exact Or.inr h
  have hS : va_S A s.heap s.heap [] := va_S.rf
  have hin2 : ∀ w ∈ wsX20, w ∈ wsX2_comesTo := by decide +kernel
  have lk25 := hts (.fieldLink RX2 25 "PostRounders$Play" "bowler" "I") (by decide +kernel)
  have lk34 := hts (.fieldLink RX2 34 "PostRounders$Play" "balls" "I") (by decide +kernel)
  have hN55 := xN_55 hN
  have hl := lv_entry ([.ref (a 0), .int h]) (n := 2) (Nat.le_of_ble_eq_true rfl)
  rw [lg_entry_eq]
  generalize (lg_sl ([.ref (a 0), .int h]) ++ List.replicate (2 - (lg_sl ([.ref (a 0), .int h])).length) Slot.unset).toArray = ls at hl ⊢
  have hl : lv_has ls 2 [(0, .ref (a 0)), (1, .int h)] := hl
  obtain ⟨OUT, hO⟩ : ∃ z, z = F_X2_comesTo P h := ⟨_, rfl⟩
  have hF := hO
  unfold F_X2_comesTo at hF
  refine lv_aload_n hx hb dX2_comesTo_0 rfl (lv_at hl 0 rfl) ?_
  refine va_get (D := (dC, dI)) (ci := 2) (v := .int (Pbo P)) (C := RX2) (T := TX2) (N := 8) hx hb hts hin2 hown hK hP 0 rfl rfl 0 (by decide) lk25 (fun _ h9 => h9) rfl dX2_comesTo_1 ?_
  refine lv_iload_n hx hb dX2_comesTo_4 rfl (lv_at hl 1 rfl) ?_
  refine lv_aload_n hx hb dX2_comesTo_5 rfl (lv_at hl 0 rfl) ?_
  refine va_get (D := (dC, dI)) (ci := 2) (v := .int (Pbl P)) (C := RX2) (T := TX2) (N := 8) hx hb hts hin2 hown hK hP 0 rfl rfl 7 (by decide) lk34 (fun _ h9 => h9) rfl dX2_comesTo_6 ?_
  refine lv_iconst (v := nI 1) hx hb dX2_comesTo_9 (by decide) ?_
  refine lv_iadd hx hb dX2_comesTo_10 ?_
  refine qc_SiN (As := [.int (Pbo P), .int h, .int ((Pbl P) + (nI 1))]) (rest := []) ⟨hx, hb, hml, hown, hts⟩ (c_X5_hitWorth l (Pbo P) h ((Pbl P) + (nI 1))) (va_cnB 3 hts gX2_comesTo_X5_hitWorth_n55 rfl rfl rfl hN55 (hts (.initialized RX5) (by decide +kernel)) (by decide +kernel) ⟨Nat.le_of_ble_eq_true rfl, Nat.le_of_ble_eq_true rfl⟩) (hts (.static yX5_hitWorth) (by decide +kernel)) rfl hl.1 rfl (Nat.le_of_ble_eq_true rfl) dX2_comesTo_11 ⟨Nat.zero_le _, Nat.zero_le _⟩ (fun r_11 hw_11 => ?_)
  subst hw_11
  have hP9 : va_P (dC, dI) vwCl (pW a cI P) s.heap := hP
  exact W.iret (v := F_X5_hitWorth (Pbo P) h ((Pbl P) + (nI 1))) hx hb hr (fun t ht hW => ⟨⟨_, (()), rfl, hO.symm.trans hF, by rw [ht]; exact hP9, va_K.moved hW.alike hK, hD⟩, hS.F ht⟩) hS.2.2 dX2_comesTo_14
def F_X2_postsBy (P : pS) (h : Int32) : Int32 := let1 (F_X2_isDone P) (fun z_1 => if z_1 = true then (-1) else (if (F_X5_hitWorth (Pbo P) h ((Pbl P) + (nI 1))) = 0 then (-1) else F_X5_postsRun ((Pkd P) (tN (Pnx P))) ((Plg P) (tN (Pnx P))) (F_X5_hitWorth (Pbo P) h ((Pbl P) + (nI 1)))))
set_option maxHeartbeats 4000000 in
set_option maxRecDepth 100000 in
theorem c_X2_postsBy (l : Launch) (dC : Nat → ClassId) (dI : Nat → Nat → Nat) (a : Nat → Nat) (cI : ClassId) (sz : Nat) (P : pS) (h : Int32) (pz : inB (Psz P) 6) : Met l yX2_postsBy wsX2_postsBy { frames := 2, cells := 0, slots := 0, locals := 38 } (xPc (dC, dI) vwCl (xT cI) (pW a cI P) sz [.ref (a 0), .int h]) (va_Qi (fun (r : Int32) (u : Unit) => F_X2_postsBy P h = r) (mB (dC, dI) vwCl (xT cI) (va_A (pW a cI P) sz) (fun u => pW a cI P)) (va_A (pW a cI P) sz)) 0 0 (va_A (pW a cI P) sz) := by
  refine Met.ofW (cc := cX2_postsBy) (maxL := 3) (ret := (some .int)) (by decide) rfl ?_
  intro p e s m args below meth c s₁ B hml hv
  obtain ⟨rfl, hsz, hP, hK, hD0, hN⟩ := hv
  have hx := B.exec
  have hb := B.bytes
  have hr := B.returns
  have hts := atoms_spec (ws := wsX2_postsBy) B.pre
  have hown : s.vm.findClass RX2 = some m.cls := findClass_of_methodNamed B.named
  have hlocks := B.notSynchronized
  subst hsz
  have hD := hD0.self (sz := s.heap.size)
  generalize hAe : va_A (pW a cI P) s.heap.size = A at hD ⊢
  have hA : ∀ q : Nat, s.heap.size ≤ q → A q := fun q h => by rw [← hAe]; exact Or.inr h
  have hS : va_S A s.heap s.heap [] := va_S.rf
  have hin2 : ∀ w ∈ wsX20, w ∈ wsX2_postsBy := by decide +kernel
  have lk9 := hts (.fieldLink RX2 9 "PostRounders$Play" "kind" "[I") (by decide +kernel)
  have lk15 := hts (.fieldLink RX2 15 "PostRounders$Play" "legs" "[I") (by decide +kernel)
  have lk21 := hts (.fieldLink RX2 21 "PostRounders$Play" "next" "I") (by decide +kernel)
  have lk25 := hts (.fieldLink RX2 25 "PostRounders$Play" "bowler" "I") (by decide +kernel)
  have lk34 := hts (.fieldLink RX2 34 "PostRounders$Play" "balls" "I") (by decide +kernel)
  have hN55 := xN_55 hN
  have hN63 := xN_63 hN
  have hl := lv_entry ([.ref (a 0), .int h]) (n := 3) (Nat.le_of_ble_eq_true rfl)
  rw [lg_entry_eq]
  generalize (lg_sl ([.ref (a 0), .int h]) ++ List.replicate (3 - (lg_sl ([.ref (a 0), .int h])).length) Slot.unset).toArray = ls at hl ⊢
  have hl : lv_has ls 3 [(0, .ref (a 0)), (1, .int h)] := hl
  obtain ⟨OUT, hO⟩ : ∃ z, z = F_X2_postsBy P h := ⟨_, rfl⟩
  have hF := hO
  unfold F_X2_postsBy at hF
  have e_pz := tN_eq pz.1
  have b_pz := pz.2
  refine lv_aload_n hx hb dX2_postsBy_0 rfl (lv_at hl 0 rfl) ?_
  refine qx_Vi (C := RX2) (As := []) (rest := []) (ci := 2) (k0 := 0) (wr := []) (ws2 := fun u => pW a cI P) [0, 1, 2, 3] [] [0, 1, 2, 3] ⟨hx, hb, hml, hown, hts⟩ (c_X2_isDone l dC dI a cI s.heap.size P  ) (cwV 0 hts gX2_postsBy_X2_isDone rfl rfl rfl (by decide +kernel) ⟨Nat.le_of_ble_eq_true rfl, Nat.le_of_ble_eq_true rfl⟩) (hK.sub [0] rfl) hK hP hD hS hA hN rfl rfl (by decide) (by decide) (by decide) (by decide) (fun _ => rfl) rfl rfl rfl rfl hl.1 rfl (Nat.le_of_ble_eq_true rfl) dX2_postsBy_1 ⟨Nat.zero_le _, Nat.zero_le _⟩ (fun r_1 u_1 H locs hw_1 hP hD hS => ?_)
  have hP : va_P (dC, dI) vwCl (pW a cI P) H := hP
  have hD : va_D A (pW a cI P) := hD
  obtain ⟨z_1, hw_1, rfl⟩ := hw_1
  rw [hw_1, let1_mk z_1] at hF
  refine qv_zif_eq (tgt := 9) hx hb dX2_postsBy_4 (by decide) (fun c_4 => ?_) (fun c_4 => ?_)
  · rw [if_neg c_4] at hF
    have k_d := isDone2 hw_1 c_4 pz
    have k_e := tN_eq k_d.1.1
    have k_b := k_d.1.2
    have k_l := k_d.2
    refine lv_aload_n hx hb dX2_postsBy_9 rfl (lv_at hl 0 rfl) ?_
    refine va_get (D := (dC, dI)) (ci := 2) (v := .int (Pbo P)) (C := RX2) (T := TX2) (N := 8) hx hb hts hin2 hown hK hP 0 rfl rfl 0 (by decide) lk25 (fun _ h9 => h9) rfl dX2_postsBy_10 ?_
    refine lv_iload_n hx hb dX2_postsBy_13 rfl (lv_at hl 1 rfl) ?_
    refine lv_aload_n hx hb dX2_postsBy_14 rfl (lv_at hl 0 rfl) ?_
    refine va_get (D := (dC, dI)) (ci := 2) (v := .int (Pbl P)) (C := RX2) (T := TX2) (N := 8) hx hb hts hin2 hown hK hP 0 rfl rfl 7 (by decide) lk34 (fun _ h9 => h9) rfl dX2_postsBy_15 ?_
    refine lv_iconst (v := nI 1) hx hb dX2_postsBy_18 (by decide) ?_
    refine lv_iadd hx hb dX2_postsBy_19 ?_
    refine qc_SiN (As := [.int (Pbo P), .int h, .int ((Pbl P) + (nI 1))]) (rest := []) ⟨hx, hb, hml, hown, hts⟩ (c_X5_hitWorth l (Pbo P) h ((Pbl P) + (nI 1))) (va_cnB 3 hts gX2_postsBy_X5_hitWorth_n55 rfl rfl rfl hN55 (hts (.initialized RX5) (by decide +kernel)) (by decide +kernel) ⟨Nat.le_of_ble_eq_true rfl, Nat.le_of_ble_eq_true rfl⟩) (hts (.static yX5_hitWorth) (by decide +kernel)) rfl hl.1 rfl (Nat.le_of_ble_eq_true rfl) dX2_postsBy_20 ⟨Nat.zero_le _, Nat.zero_le _⟩ (fun r_20 hw_20 => ?_)
    subst hw_20
    refine lv_istore_n (lv' := [(2, .int (F_X5_hitWorth (Pbo P) h ((Pbl P) + (nI 1)))), (0, .ref (a 0)), (1, .int h)]) hx hb dX2_postsBy_23 rfl hl (by decide) rfl (fun ls hl => ?_)
    refine lv_iload_n hx hb dX2_postsBy_24 rfl (lv_at hl 0 rfl) ?_
    refine lv_if_ne (tgt := 32) hx hb dX2_postsBy_25 (by decide) (fun c_25 => ?_) (fun c_25 => ?_)
    · rw [if_neg c_25] at hF
      refine lv_aload_n hx hb dX2_postsBy_32 rfl (lv_at hl 1 rfl) ?_
      refine va_get (D := (dC, dI)) (ci := 2) (v := .ref (a 1)) (C := RX2) (T := TX2) (N := 8) hx hb hts hin2 hown hK hP 0 rfl rfl 2 (by decide) lk9 (fun _ h9 => h9) rfl dX2_postsBy_33 ?_
      refine lv_aload_n hx hb dX2_postsBy_36 rfl (lv_at hl 1 rfl) ?_
      refine va_get (D := (dC, dI)) (ci := 2) (v := .int (Pnx P)) (C := RX2) (T := TX2) (N := 8) hx hb hts hin2 hown hK hP 0 rfl rfl 5 (by decide) lk21 (fun _ h9 => h9) rfl dX2_postsBy_37 ?_
      refine qv_top (k_e) ?_
      refine qv_ald (v := (Pkd P) (tN (Pnx P))) hx hb hK hP 1 0 rfl rfl (by omega) (by decide) (rfl) dX2_postsBy_40 ?_
      refine lv_aload_n hx hb dX2_postsBy_41 rfl (lv_at hl 1 rfl) ?_
      refine va_get (D := (dC, dI)) (ci := 2) (v := .ref (a 2)) (C := RX2) (T := TX2) (N := 8) hx hb hts hin2 hown hK hP 0 rfl rfl 3 (by decide) lk15 (fun _ h9 => h9) rfl dX2_postsBy_42 ?_
      refine lv_aload_n hx hb dX2_postsBy_45 rfl (lv_at hl 1 rfl) ?_
      refine va_get (D := (dC, dI)) (ci := 2) (v := .int (Pnx P)) (C := RX2) (T := TX2) (N := 8) hx hb hts hin2 hown hK hP 0 rfl rfl 5 (by decide) lk21 (fun _ h9 => h9) rfl dX2_postsBy_46 ?_
      refine qv_top (k_e) ?_
      refine qv_ald (v := (Plg P) (tN (Pnx P))) hx hb hK hP 2 0 rfl rfl (by omega) (by decide) (rfl) dX2_postsBy_49 ?_
      refine lv_iload_n hx hb dX2_postsBy_50 rfl (lv_at hl 0 rfl) ?_
      refine qc_SiN (As := [.int ((Pkd P) (tN (Pnx P))), .int ((Plg P) (tN (Pnx P))), .int (F_X5_hitWorth (Pbo P) h ((Pbl P) + (nI 1)))]) (rest := []) ⟨hx, hb, hml, hown, hts⟩ (c_X5_postsRun l ((Pkd P) (tN (Pnx P))) ((Plg P) (tN (Pnx P))) (F_X5_hitWorth (Pbo P) h ((Pbl P) + (nI 1)))) (va_cnB 3 hts gX2_postsBy_X5_postsRun_n63 rfl rfl rfl hN63 (hts (.initialized RX5) (by decide +kernel)) (by decide +kernel) ⟨Nat.le_of_ble_eq_true rfl, Nat.le_of_ble_eq_true rfl⟩) (hts (.static yX5_postsRun) (by decide +kernel)) rfl hl.1 rfl (Nat.le_of_ble_eq_true rfl) dX2_postsBy_51 ⟨Nat.zero_le _, Nat.zero_le _⟩ (fun r_51 hw_51 => ?_)
      subst hw_51
      have hP9 : va_P (dC, dI) vwCl (pW a cI P) H := hP
      exact W.iret (v := F_X5_postsRun ((Pkd P) (tN (Pnx P))) ((Plg P) (tN (Pnx P))) (F_X5_hitWorth (Pbo P) h ((Pbl P) + (nI 1)))) hx hb hr (fun t ht hW => ⟨⟨_, (()), rfl, hO.symm.trans hF, by rw [ht]; exact hP9, va_K.moved hW.alike hK, hD⟩, hS.F ht⟩) hS.2.2 dX2_postsBy_54
    · rw [if_pos c_25] at hF
      refine lv_iconst (v := (-1)) hx hb dX2_postsBy_28 (by decide) ?_
      refine lv_goto (tgt := 54) hx hb dX2_postsBy_29 (by decide) ?_
      have hP9 : va_P (dC, dI) vwCl (pW a cI P) H := hP
      exact W.iret (v := (-1)) hx hb hr (fun t ht hW => ⟨⟨_, (()), rfl, hO.symm.trans hF, by rw [ht]; exact hP9, va_K.moved hW.alike hK, hD⟩, hS.F ht⟩) hS.2.2 dX2_postsBy_54
  · rw [if_pos c_4] at hF
    refine lv_iconst (v := (-1)) hx hb dX2_postsBy_7 (by decide) ?_
    have hP9 : va_P (dC, dI) vwCl (pW a cI P) H := hP
    exact W.iret (v := (-1)) hx hb hr (fun t ht hW => ⟨⟨_, (()), rfl, hO.symm.trans hF, by rw [ht]; exact hP9, va_K.moved hW.alike hK, hD⟩, hS.F ht⟩) hS.2.2 dX2_postsBy_8
def F_X2_runAll_L4 : Nat → (Int32) → (pS) → (Nat) → (Nat) → (Nat → Int32) → (Nat) × (Nat) × (Nat → Int32)
  | 0, _, _, k, gn, w1 => (k, gn, w1)
  | n_4 + 1, n, P, k, gn, w1 => if tN (Psz P) ≤ k then (k, gn, w1) else (if (F_X5_within (w1 k) (nI 1) (nI 3)) = true then (if ((w1 k) + n) < (nI 4) then F_X2_runAll_L4 n_4 n P (k + 1) gn (upd w1 k ((w1 k) + n)) else F_X2_runAll_L4 n_4 n P (k + 1) (gn + 1) (upd (upd w1 k ((w1 k) + n)) k (nI 0))) else F_X2_runAll_L4 n_4 n P (k + 1) gn w1)
def F_X2_runAll (P : pS) (n : Int32) : Int32 × (pS) := let3 (F_X2_runAll_L4 7 n P 0 0 (Pwh P)) (fun k gn w1 => if n < (nI 4) then (nI gn, ((Pbo P, Psz P, Pkd P, Plg P, upd w1 (tN (Pnx P)) n, Pnx P, Ppt P, Pbl P))) else (nI (gn + 2), ((Pbo P, Psz P, Pkd P, Plg P, w1, Pnx P, Ppt P, Pbl P))))
set_option maxHeartbeats 4000000 in
set_option maxRecDepth 100000 in
theorem c_X2_runAll (l : Launch) (dC : Nat → ClassId) (dI : Nat → Nat → Nat) (a : Nat → Nat) (cI : ClassId) (sz : Nat) (P : pS) (n : Int32) (pz : inB (Psz P) 6) (pN : inB (Pnx P) 5) : Met l yX2_runAll wsX2_runAll { frames := 1, cells := 0, slots := 0, locals := 22 } (xPc (dC, dI) vwCl (xT cI) (pW a cI P) sz [.ref (a 0), .int n]) (va_Qi (fun (r : Int32) (u : (pS)) => F_X2_runAll P n = (r, u)) (mB (dC, dI) vwCl (xT cI) (va_A (pW a cI P) sz) (fun u => pW a cI u)) (va_A (pW a cI P) sz)) 0 0 (va_A (pW a cI P) sz) := by
  refine Met.ofW (cc := cX2_runAll) (maxL := 4) (ret := (some .int)) (by decide) rfl ?_
  intro p e s m args below meth c s₁ B hml hv
  obtain ⟨rfl, hsz, hP, hK, hD0, hN⟩ := hv
  have hx := B.exec
  have hb := B.bytes
  have hr := B.returns
  have hts := atoms_spec (ws := wsX2_runAll) B.pre
  have hown : s.vm.findClass RX2 = some m.cls := findClass_of_methodNamed B.named
  have hlocks := B.notSynchronized
  subst hsz
  have hD := hD0.self (sz := s.heap.size)
  generalize hAe : va_A (pW a cI P) s.heap.size = A at hD ⊢
  have hA : ∀ q : Nat, s.heap.size ≤ q → A q := fun q h => by rw [← hAe]; exact Or.inr h
  have hS : va_S A s.heap s.heap [] := va_S.rf
  have hin2 : ∀ w ∈ wsX20, w ∈ wsX2_runAll := by decide +kernel
  have lk18 := hts (.fieldLink RX2 18 "PostRounders$Play" "where" "[I") (by decide +kernel)
  have lk21 := hts (.fieldLink RX2 21 "PostRounders$Play" "next" "I") (by decide +kernel)
  have lk28 := hts (.fieldLink RX2 28 "PostRounders$Play" "size" "I") (by decide +kernel)
  have hN47 := xN_47 hN
  have hl := lv_entry ([.ref (a 0), .int n]) (n := 4) (Nat.le_of_ble_eq_true rfl)
  rw [lg_entry_eq]
  generalize (lg_sl ([.ref (a 0), .int n]) ++ List.replicate (4 - (lg_sl ([.ref (a 0), .int n])).length) Slot.unset).toArray = ls at hl ⊢
  have hl : lv_has ls 4 [(0, .ref (a 0)), (1, .int n)] := hl
  obtain ⟨OUT, hO⟩ : ∃ z, z = F_X2_runAll P n := ⟨_, rfl⟩
  have hF := hO
  unfold F_X2_runAll at hF
  have e_pz := tN_eq pz.1
  have b_pz := pz.2
  have e_pN := tN_eq pN.1
  have b_pN := pN.2
  refine lv_iconst (v := nI 0) hx hb dX2_runAll_0 (by decide) ?_
  refine lv_istore_n (lv' := [(2, .int (nI 0)), (0, .ref (a 0)), (1, .int n)]) hx hb dX2_runAll_1 rfl hl (by decide) rfl (fun ls hl => ?_)
  refine lv_iconst (v := nI 0) hx hb dX2_runAll_2 (by decide) ?_
  refine lv_istore_n (lv' := [(3, .int (nI 0)), (2, .int (nI 0)), (0, .ref (a 0)), (1, .int n)]) hx hb dX2_runAll_3 rfl hl (by decide) rfl (fun ls hl => ?_)
  have L_4 : ∀ (n_4 : Nat) (k : Nat) (gn : Nat) (w1 : Nat → Int32) (H : Heap) (locs : List Loc), k ≤ tN (Psz P) → tN (Psz P) - k < n_4 → va_P (dC, dI) vwCl (pW a cI ((Pbo P, Psz P, Pkd P, Plg P, w1, Pnx P, Ppt P, Pbl P))) H → va_D A (pW a cI ((Pbo P, Psz P, Pkd P, Plg P, w1, Pnx P, Ppt P, Pbl P))) → va_S A s.heap H locs → ∀ (ls : Array Slot), lv_has ls 4 [(3, .int (nI k)), (2, .int (nI gn)), (0, .ref (a 0)), (1, .int n)] → OUT = let3 (F_X2_runAll_L4 n_4 n P k gn w1) (fun k gn w1 => if n < (nI 4) then (nI gn, ((Pbo P, Psz P, Pkd P, Plg P, upd w1 (tN (Pnx P)) n, Pnx P, Ppt P, Pbl P))) else (nI (gn + 2), ((Pbo P, Psz P, Pkd P, Plg P, w1, Pnx P, Ppt P, Pbl P)))) → W p l e (headSpec wsX2_runAll { frames := 1, cells := 0, slots := 0, locals := 22 }).room s m ([.ref (a 0), .int n] : List Value).toArray below meth c H locs 0 0 (MQ below (va_Qi (fun (r : Int32) (u : (pS)) => F_X2_runAll P n = (r, u)) (mB (dC, dI) vwCl (xT cI) A (fun u => pW a cI u)) A) ([.ref (a 0), .int n] : List Value).toArray s 0 0 A) (F0 m 4 ls []) := by
    intro n_4
    induction n_4 with
    | zero => intro k gn w1 H locs i0 hmu; exact absurd hmu (Nat.not_lt_zero _)
    | succ n_4 ih_4 =>
      intro k gn w1 H locs i0 hmu_4 hP hD hS ls hl hF
      rw [F_X2_runAll_L4] at hF
      refine lv_iload_n hx hb dX2_runAll_4 rfl (lv_at hl 0 rfl) ?_
      refine lv_aload_n hx hb dX2_runAll_5 rfl (lv_at hl 2 rfl) ?_
      refine va_get (D := (dC, dI)) (ci := 2) (v := .int (Psz P)) (C := RX2) (T := TX2) (N := 8) hx hb hts hin2 hown hK hP 0 rfl rfl 1 (by decide) lk28 (fun _ h9 => h9) rfl dX2_runAll_6 ?_
      refine qv_top (e_pz) ?_
      refine qv_icmp_ge (tgt := 62) hx hb dX2_runAll_9 (by decide) (by omega) (by omega) (fun c_9 => ?_) (fun c_9 => ?_)
      · rw [if_pos c_9] at hF
        rw [let3_mk (k : Nat) (gn : Nat) (w1 : Nat → Int32)] at hF
        refine lv_iload_n hx hb dX2_runAll_62 rfl (lv_at hl 3 rfl) ?_
        refine lv_iconst (v := nI 4) hx hb dX2_runAll_63 (by decide) ?_
        refine lv_icmp_lt (tgt := 71) hx hb dX2_runAll_64 (by decide) (fun c_64 => ?_) (fun c_64 => ?_)
        · rw [if_pos c_64] at hF
          refine lv_aload_n hx hb dX2_runAll_71 rfl (lv_at hl 2 rfl) ?_
          refine va_get (D := (dC, dI)) (ci := 2) (v := .ref (a 3)) (C := RX2) (T := TX2) (N := 8) hx hb hts hin2 hown hK hP 0 rfl rfl 4 (by decide) lk18 (fun _ h9 => h9) rfl dX2_runAll_72 ?_
          refine lv_aload_n hx hb dX2_runAll_75 rfl (lv_at hl 2 rfl) ?_
          refine va_get (D := (dC, dI)) (ci := 2) (v := .int (Pnx P)) (C := RX2) (T := TX2) (N := 8) hx hb hts hin2 hown hK hP 0 rfl rfl 5 (by decide) lk21 (fun _ h9 => h9) rfl dX2_runAll_76 ?_
          refine qv_top (e_pN) ?_
          refine lv_iload_n hx hb dX2_runAll_79 rfl (lv_at hl 3 rfl) ?_
          refine qv_ast (ws' := pW a cI ((Pbo P, Psz P, Pkd P, Plg P, upd w1 (tN (Pnx P)) n, Pnx P, Ppt P, Pbl P))) hx hb hK hP hD hS 3 0 rfl rfl (by omega) (by decide) dX2_runAll_80 rfl (fun H locs hP hD hS => ?_)
          refine lv_iload_n hx hb dX2_runAll_81 rfl (lv_at hl 1 rfl) ?_
          have hP9 : va_P (dC, dI) vwCl (pW a cI ((Pbo P, Psz P, Pkd P, Plg P, upd w1 (tN (Pnx P)) n, Pnx P, Ppt P, Pbl P))) H := hP
          exact W.iret (v := nI gn) hx hb hr (fun t ht hW => ⟨⟨_, ((Pbo P, Psz P, Pkd P, Plg P, upd w1 (tN (Pnx P)) n, Pnx P, Ppt P, Pbl P)), rfl, hO.symm.trans hF, by rw [ht]; exact hP9, va_K.moved hW.alike hK, hD⟩, hS.F ht⟩) hS.2.2 dX2_runAll_82
        · rw [if_neg c_64] at hF
          refine lv_iload_n hx hb dX2_runAll_67 rfl (lv_at hl 1 rfl) ?_
          refine lv_iconst (v := nI 2) hx hb dX2_runAll_68 (by decide) ?_
          refine qv_iadd hx hb (gn + 2) dX2_runAll_69 (by omega) ?_
          have hP9 : va_P (dC, dI) vwCl (pW a cI ((Pbo P, Psz P, Pkd P, Plg P, w1, Pnx P, Ppt P, Pbl P))) H := hP
          exact W.iret (v := nI (gn + 2)) hx hb hr (fun t ht hW => ⟨⟨_, ((Pbo P, Psz P, Pkd P, Plg P, w1, Pnx P, Ppt P, Pbl P)), rfl, hO.symm.trans hF, by rw [ht]; exact hP9, va_K.moved hW.alike hK, hD⟩, hS.F ht⟩) hS.2.2 dX2_runAll_70
      · rw [if_neg c_9] at hF
        refine lv_aload_n hx hb dX2_runAll_12 rfl (lv_at hl 2 rfl) ?_
        refine va_get (D := (dC, dI)) (ci := 2) (v := .ref (a 3)) (C := RX2) (T := TX2) (N := 8) hx hb hts hin2 hown hK hP 0 rfl rfl 4 (by decide) lk18 (fun _ h9 => h9) rfl dX2_runAll_13 ?_
        refine lv_iload_n hx hb dX2_runAll_16 rfl (lv_at hl 0 rfl) ?_
        refine qv_ald (v := w1 k) hx hb hK hP 3 0 rfl rfl (by omega) (by decide) (rfl) dX2_runAll_17 ?_
        refine lv_iconst (v := nI 1) hx hb dX2_runAll_18 (by decide) ?_
        refine lv_iconst (v := nI 3) hx hb dX2_runAll_19 (by decide) ?_
        refine qc_SiN (As := [.int (w1 k), .int (nI 1), .int (nI 3)]) (rest := []) ⟨hx, hb, hml, hown, hts⟩ (c_X5_within l (w1 k) (nI 1) (nI 3)) (va_cnB 3 hts gX2_runAll_X5_within_n47 rfl rfl rfl hN47 (hts (.initialized RX5) (by decide +kernel)) (by decide +kernel) ⟨Nat.le_of_ble_eq_true rfl, Nat.le_of_ble_eq_true rfl⟩) (hts (.static yX5_within) (by decide +kernel)) rfl hl.1 rfl (Nat.le_of_ble_eq_true rfl) dX2_runAll_20 ⟨Nat.zero_le _, Nat.zero_le _⟩ (fun r_20 hw_20 => ?_)
        subst hw_20
        refine qv_zif_eq (tgt := 56) hx hb dX2_runAll_23 (by decide) (fun c_23 => ?_) (fun c_23 => ?_)
        · rw [if_neg c_23] at hF
          refine lv_iinc (v := nI (k + 1)) (lv' := [(3, .int (nI (k + 1))), (2, .int (nI gn)), (0, .ref (a 0)), (1, .int n)]) hx hb dX2_runAll_56 hl (k := 0) rfl (qn_inc (c := 1) rfl (by omega)) (by decide) rfl (fun ls hl => ?_)
          refine lv_goto (tgt := 4) hx hb dX2_runAll_59 (by decide) ?_
          exact ih_4 (k + 1) gn w1 H locs (by omega) (by omega) hP hD hS ls (lv_sub hl [0, 1, 2, 3] rfl) hF
        · rw [if_pos c_23] at hF
          refine lv_aload_n hx hb dX2_runAll_26 rfl (lv_at hl 2 rfl) ?_
          refine va_get (D := (dC, dI)) (ci := 2) (v := .ref (a 3)) (C := RX2) (T := TX2) (N := 8) hx hb hts hin2 hown hK hP 0 rfl rfl 4 (by decide) lk18 (fun _ h9 => h9) rfl dX2_runAll_27 ?_
          refine lv_iload_n hx hb dX2_runAll_30 rfl (lv_at hl 0 rfl) ?_
          refine lv_dup2_11 hx hb dX2_runAll_31 rfl rfl ?_
          refine qv_ald (v := w1 k) hx hb hK hP 3 0 rfl rfl (by omega) (by decide) (rfl) dX2_runAll_32 ?_
          refine lv_iload_n hx hb dX2_runAll_33 rfl (lv_at hl 3 rfl) ?_
          refine lv_iadd hx hb dX2_runAll_34 ?_
          refine qv_ast (ws' := pW a cI ((Pbo P, Psz P, Pkd P, Plg P, upd w1 k ((w1 k) + n), Pnx P, Ppt P, Pbl P))) hx hb hK hP hD hS 3 0 rfl rfl (by omega) (by decide) dX2_runAll_35 rfl (fun H locs hP hD hS => ?_)
          refine lv_aload_n hx hb dX2_runAll_36 rfl (lv_at hl 2 rfl) ?_
          refine va_get (D := (dC, dI)) (ci := 2) (v := .ref (a 3)) (C := RX2) (T := TX2) (N := 8) hx hb hts hin2 hown hK hP 0 rfl rfl 4 (by decide) lk18 (fun _ h9 => h9) rfl dX2_runAll_37 ?_
          refine lv_iload_n hx hb dX2_runAll_40 rfl (lv_at hl 0 rfl) ?_
          refine qv_ald (v := (w1 k) + n) hx hb hK hP 3 0 rfl rfl (by omega) (by decide) (pk_us) dX2_runAll_41 ?_
          refine lv_iconst (v := nI 4) hx hb dX2_runAll_42 (by decide) ?_
          refine lv_icmp_lt (tgt := 56) hx hb dX2_runAll_43 (by decide) (fun c_43 => ?_) (fun c_43 => ?_)
          · rw [if_pos c_43] at hF
            refine lv_iinc (v := nI (k + 1)) (lv' := [(3, .int (nI (k + 1))), (2, .int (nI gn)), (0, .ref (a 0)), (1, .int n)]) hx hb dX2_runAll_56 hl (k := 0) rfl (qn_inc (c := 1) rfl (by omega)) (by decide) rfl (fun ls hl => ?_)
            refine lv_goto (tgt := 4) hx hb dX2_runAll_59 (by decide) ?_
            exact ih_4 (k + 1) gn (upd w1 k ((w1 k) + n)) H locs (by omega) (by omega) hP hD hS ls (lv_sub hl [0, 1, 2, 3] rfl) hF
          · rw [if_neg c_43] at hF
            refine lv_aload_n hx hb dX2_runAll_46 rfl (lv_at hl 2 rfl) ?_
            refine va_get (D := (dC, dI)) (ci := 2) (v := .ref (a 3)) (C := RX2) (T := TX2) (N := 8) hx hb hts hin2 hown hK hP 0 rfl rfl 4 (by decide) lk18 (fun _ h9 => h9) rfl dX2_runAll_47 ?_
            refine lv_iload_n hx hb dX2_runAll_50 rfl (lv_at hl 0 rfl) ?_
            refine lv_iconst (v := nI 0) hx hb dX2_runAll_51 (by decide) ?_
            refine qv_ast (ws' := pW a cI ((Pbo P, Psz P, Pkd P, Plg P, upd (upd w1 k ((w1 k) + n)) k (nI 0), Pnx P, Ppt P, Pbl P))) hx hb hK hP hD hS 3 0 rfl rfl (by omega) (by decide) dX2_runAll_52 rfl (fun H locs hP hD hS => ?_)
            refine lv_iinc (v := nI (gn + 1)) (lv' := [(2, .int (nI (gn + 1))), (3, .int (nI k)), (0, .ref (a 0)), (1, .int n)]) hx hb dX2_runAll_53 hl (k := 1) rfl (qn_inc (c := 1) rfl (by omega)) (by decide) rfl (fun ls hl => ?_)
            refine lv_iinc (v := nI (k + 1)) (lv' := [(3, .int (nI (k + 1))), (2, .int (nI (gn + 1))), (0, .ref (a 0)), (1, .int n)]) hx hb dX2_runAll_56 hl (k := 1) rfl (qn_inc (c := 1) rfl (by omega)) (by decide) rfl (fun ls hl => ?_)
            refine lv_goto (tgt := 4) hx hb dX2_runAll_59 (by decide) ?_
            exact ih_4 (k + 1) (gn + 1) (upd (upd w1 k ((w1 k) + n)) k (nI 0)) H locs (by omega) (by omega) hP hD hS ls (lv_sub hl [0, 1, 2, 3] rfl) hF
  exact L_4 7 0 0 (Pwh P) s.heap [] (by omega) (by omega) hP hD hS ls (lv_sub hl [0, 1, 2, 3] rfl) hF
def F_X2_passBat_L7 : Nat → (pS) → (Nat) → (Nat) → ((Nat) × (Nat)) ⊕ ((pS))
  | 0, _, k, i => .inl (k, i)
  | n_7 + 1, P, k, i => if tN (Psz P) ≤ k then .inl (k, i) else (if tN (Psz P) ≤ i + 1 then (if ((Pwh P) 0) = 0 then .inr (((Pbo P, Psz P, Pkd P, Plg P, Pwh P, nI 0, Ppt P, Pbl P))) else F_X2_passBat_L7 n_7 P (k + 1) 0) else (if ((Pwh P) (i + 1)) = 0 then .inr (((Pbo P, Psz P, Pkd P, Plg P, Pwh P, nI (i + 1), Ppt P, Pbl P))) else F_X2_passBat_L7 n_7 P (k + 1) (i + 1)))
def F_X2_passBat (P : pS) : (pS) := sel2 (F_X2_passBat_L7 7 P 0 (tN (Pnx P))) (fun k i => ((Pbo P, Psz P, Pkd P, Plg P, Pwh P, (-1), Ppt P, Pbl P))) (fun r => r)
set_option maxHeartbeats 4000000 in
set_option maxRecDepth 100000 in
theorem c_X2_passBat (l : Launch) (dC : Nat → ClassId) (dI : Nat → Nat → Nat) (a : Nat → Nat) (cI : ClassId) (sz : Nat) (P : pS) (pz : inB (Psz P) 6) (pN : inB (Pnx P) 5) (hlt : tN (Pnx P) < tN (Psz P)) : Met l yX2_passBat wsX2_passBat { frames := 0, cells := 0, slots := 0, locals := 0 } (xPc (dC, dI) vwCl (xT cI) (pW a cI P) sz [.ref (a 0)]) (va_Qv (fun (u : (pS)) => F_X2_passBat P = u) (mB (dC, dI) vwCl (xT cI) (va_A (pW a cI P) sz) (fun u => pW a cI u)) (va_A (pW a cI P) sz)) 0 0 (va_A (pW a cI P) sz) := by
  refine Met.ofW (cc := cX2_passBat) (maxL := 3) (ret := none) (by decide) rfl ?_
  intro p e s m args below meth c s₁ B hml hv
  obtain ⟨rfl, hsz, hP, hK, hD0, hN⟩ := hv
  have hx := B.exec
  have hb := B.bytes
  have hr := B.returns
  have hts := atoms_spec (ws := wsX2_passBat) B.pre
  have hown : s.vm.findClass RX2 = some m.cls := findClass_of_methodNamed B.named
  have hlocks := B.notSynchronized
  subst hsz
  have hD := hD0.self (sz := s.heap.size)
  generalize hAe : va_A (pW a cI P) s.heap.size = A at hD ⊢
  have hA : ∀ q : Nat, s.heap.size ≤ q → A q := fun q h => by rw [← hAe]; exact Or.inr h
  have hS : va_S A s.heap s.heap [] := va_S.rf
  have hin2 : ∀ w ∈ wsX20, w ∈ wsX2_passBat := by decide +kernel
  have lk18 := hts (.fieldLink RX2 18 "PostRounders$Play" "where" "[I") (by decide +kernel)
  have lk21 := hts (.fieldLink RX2 21 "PostRounders$Play" "next" "I") (by decide +kernel)
  have lk28 := hts (.fieldLink RX2 28 "PostRounders$Play" "size" "I") (by decide +kernel)
  have hl := lv_entry ([.ref (a 0)]) (n := 3) (Nat.le_of_ble_eq_true rfl)
  rw [lg_entry_eq]
  generalize (lg_sl ([.ref (a 0)]) ++ List.replicate (3 - (lg_sl ([.ref (a 0)])).length) Slot.unset).toArray = ls at hl ⊢
  have hl : lv_has ls 3 [(0, .ref (a 0))] := hl
  obtain ⟨OUT, hO⟩ : ∃ z, z = F_X2_passBat P := ⟨_, rfl⟩
  have hF := hO
  unfold F_X2_passBat at hF
  have e_pz := tN_eq pz.1
  have b_pz := pz.2
  have e_pN := tN_eq pN.1
  have b_pN := pN.2
  refine lv_aload_n hx hb dX2_passBat_0 rfl (lv_at hl 0 rfl) ?_
  refine va_get (D := (dC, dI)) (ci := 2) (v := .int (Pnx P)) (C := RX2) (T := TX2) (N := 8) hx hb hts hin2 hown hK hP 0 rfl rfl 5 (by decide) lk21 (fun _ h9 => h9) rfl dX2_passBat_1 ?_
  refine qv_top (e_pN) ?_
  refine lv_istore_n (lv' := [(1, .int (nI (tN (Pnx P)))), (0, .ref (a 0))]) hx hb dX2_passBat_4 rfl hl (by decide) rfl (fun ls hl => ?_)
  refine lv_iconst (v := nI 0) hx hb dX2_passBat_5 (by decide) ?_
  refine lv_istore_n (lv' := [(2, .int (nI 0)), (1, .int (nI (tN (Pnx P)))), (0, .ref (a 0))]) hx hb dX2_passBat_6 rfl hl (by decide) rfl (fun ls hl => ?_)
  have L_7 : ∀ (n_7 : Nat) (k : Nat) (i : Nat) (H : Heap) (locs : List Loc), k ≤ tN (Psz P) → i < tN (Psz P) → tN (Psz P) - k < n_7 → va_P (dC, dI) vwCl (pW a cI P) H → va_D A (pW a cI P) → va_S A s.heap H locs → ∀ (ls : Array Slot), lv_has ls 3 [(2, .int (nI k)), (1, .int (nI i)), (0, .ref (a 0))] → OUT = sel2 (F_X2_passBat_L7 n_7 P k i) (fun k i => ((Pbo P, Psz P, Pkd P, Plg P, Pwh P, (-1), Ppt P, Pbl P))) (fun r => r) → W p l e (headSpec wsX2_passBat { frames := 0, cells := 0, slots := 0, locals := 0 }).room s m ([.ref (a 0)] : List Value).toArray below meth c H locs 0 0 (MQ below (va_Qv (fun (u : (pS)) => F_X2_passBat P = u) (mB (dC, dI) vwCl (xT cI) A (fun u => pW a cI u)) A) ([.ref (a 0)] : List Value).toArray s 0 0 A) (F0 m 7 ls []) := by
    intro n_7
    induction n_7 with
    | zero => intro k i H locs i0 i1 hmu; exact absurd hmu (Nat.not_lt_zero _)
    | succ n_7 ih_7 =>
      intro k i H locs i0 i1 hmu_7 hP hD hS ls hl hF
      rw [F_X2_passBat_L7] at hF
      refine lv_iload_n hx hb dX2_passBat_7 rfl (lv_at hl 0 rfl) ?_
      refine lv_aload_n hx hb dX2_passBat_8 rfl (lv_at hl 2 rfl) ?_
      refine va_get (D := (dC, dI)) (ci := 2) (v := .int (Psz P)) (C := RX2) (T := TX2) (N := 8) hx hb hts hin2 hown hK hP 0 rfl rfl 1 (by decide) lk28 (fun _ h9 => h9) rfl dX2_passBat_9 ?_
      refine qv_top (e_pz) ?_
      refine qv_icmp_ge (tgt := 54) hx hb dX2_passBat_12 (by decide) (by omega) (by omega) (fun c_12 => ?_) (fun c_12 => ?_)
      · rw [if_pos c_12] at hF
        rw [sel2_inl (k : Nat) (i : Nat)] at hF
        refine lv_aload_n hx hb dX2_passBat_54 rfl (lv_at hl 2 rfl) ?_
        refine lv_iconst (v := (-1)) hx hb dX2_passBat_55 (by decide) ?_
        refine va_put (D := (dC, dI)) (ci := 2) (v := .int ((-1))) (ty := .int) (C := RX2) (T := TX2) (N := 8) hx hb hts hin2 tyX2 tyX2_ok nmX2 hown hK hP hD hS 0 rfl rfl 5 (by decide) lk21 (fun _ h9 => h9) rfl (by decide +kernel) rfl rfl (Nat.le_of_ble_eq_true rfl) dX2_passBat_56 (fun H locs hP hD hS => ?_)
        have hP : va_P (dC, dI) vwCl (pW a cI ((Pbo P, Psz P, Pkd P, Plg P, Pwh P, (-1), Ppt P, Pbl P))) H := hP
        have hD : va_D A (pW a cI ((Pbo P, Psz P, Pkd P, Plg P, Pwh P, (-1), Ppt P, Pbl P))) := hD
        have hP9 : va_P (dC, dI) vwCl (pW a cI ((Pbo P, Psz P, Pkd P, Plg P, Pwh P, (-1), Ppt P, Pbl P))) H := hP
        exact W.vret hx hb hr (fun t ht hW => ⟨⟨((Pbo P, Psz P, Pkd P, Plg P, Pwh P, (-1), Ppt P, Pbl P)), rfl, hO.symm.trans hF, by rw [ht]; exact hP9, va_K.moved hW.alike hK, hD⟩, hS.F ht⟩) hS.2.2 dX2_passBat_59
      · rw [if_neg c_12] at hF
        refine lv_iload_n hx hb dX2_passBat_15 rfl (lv_at hl 1 rfl) ?_
        refine lv_iconst (v := nI 1) hx hb dX2_passBat_16 (by decide) ?_
        refine qv_iadd hx hb (i + 1) dX2_passBat_17 (by omega) ?_
        refine lv_aload_n hx hb dX2_passBat_18 rfl (lv_at hl 2 rfl) ?_
        refine va_get (D := (dC, dI)) (ci := 2) (v := .int (Psz P)) (C := RX2) (T := TX2) (N := 8) hx hb hts hin2 hown hK hP 0 rfl rfl 1 (by decide) lk28 (fun _ h9 => h9) rfl dX2_passBat_19 ?_
        refine qv_top (e_pz) ?_
        refine qv_icmp_ge (tgt := 31) hx hb dX2_passBat_22 (by decide) (by omega) (by omega) (fun c_22 => ?_) (fun c_22 => ?_)
        · rw [if_pos c_22] at hF
          refine lv_iconst (v := nI 0) hx hb dX2_passBat_31 (by decide) ?_
          refine lv_istore_n (lv' := [(1, .int (nI 0)), (2, .int (nI k)), (0, .ref (a 0))]) hx hb dX2_passBat_32 rfl hl (by decide) rfl (fun ls hl => ?_)
          refine lv_aload_n hx hb dX2_passBat_33 rfl (lv_at hl 2 rfl) ?_
          refine va_get (D := (dC, dI)) (ci := 2) (v := .ref (a 3)) (C := RX2) (T := TX2) (N := 8) hx hb hts hin2 hown hK hP 0 rfl rfl 4 (by decide) lk18 (fun _ h9 => h9) rfl dX2_passBat_34 ?_
          refine lv_iload_n hx hb dX2_passBat_37 rfl (lv_at hl 0 rfl) ?_
          refine qv_ald (v := (Pwh P) 0) hx hb hK hP 3 0 rfl rfl (by omega) (by decide) (rfl) dX2_passBat_38 ?_
          refine lv_if_ne (tgt := 48) hx hb dX2_passBat_39 (by decide) (fun c_39 => ?_) (fun c_39 => ?_)
          · rw [if_neg c_39] at hF
            refine lv_iinc (v := nI (k + 1)) (lv' := [(2, .int (nI (k + 1))), (1, .int (nI 0)), (0, .ref (a 0))]) hx hb dX2_passBat_48 hl (k := 1) rfl (qn_inc (c := 1) rfl (by omega)) (by decide) rfl (fun ls hl => ?_)
            refine lv_goto (tgt := 7) hx hb dX2_passBat_51 (by decide) ?_
            exact ih_7 (k + 1) 0 H locs (by omega) (by omega) (by omega) hP hD hS ls (lv_sub hl [0, 1, 2] rfl) hF
          · rw [if_pos c_39] at hF
            refine lv_aload_n hx hb dX2_passBat_42 rfl (lv_at hl 2 rfl) ?_
            refine lv_iload_n hx hb dX2_passBat_43 rfl (lv_at hl 0 rfl) ?_
            refine va_put (D := (dC, dI)) (ci := 2) (v := .int (nI 0)) (ty := .int) (C := RX2) (T := TX2) (N := 8) hx hb hts hin2 tyX2 tyX2_ok nmX2 hown hK hP hD hS 0 rfl rfl 5 (by decide) lk21 (fun _ h9 => h9) rfl (by decide +kernel) rfl rfl (Nat.le_of_ble_eq_true rfl) dX2_passBat_44 (fun H locs hP hD hS => ?_)
            have hP : va_P (dC, dI) vwCl (pW a cI ((Pbo P, Psz P, Pkd P, Plg P, Pwh P, nI 0, Ppt P, Pbl P))) H := hP
            have hD : va_D A (pW a cI ((Pbo P, Psz P, Pkd P, Plg P, Pwh P, nI 0, Ppt P, Pbl P))) := hD
            rw [sel2_inr] at hF
            have hP9 : va_P (dC, dI) vwCl (pW a cI ((Pbo P, Psz P, Pkd P, Plg P, Pwh P, nI 0, Ppt P, Pbl P))) H := hP
            exact W.vret hx hb hr (fun t ht hW => ⟨⟨((Pbo P, Psz P, Pkd P, Plg P, Pwh P, nI 0, Ppt P, Pbl P)), rfl, hO.symm.trans hF, by rw [ht]; exact hP9, va_K.moved hW.alike hK, hD⟩, hS.F ht⟩) hS.2.2 dX2_passBat_47
        · rw [if_neg c_22] at hF
          refine lv_iload_n hx hb dX2_passBat_25 rfl (lv_at hl 1 rfl) ?_
          refine lv_iconst (v := nI 1) hx hb dX2_passBat_26 (by decide) ?_
          refine qv_iadd hx hb (i + 1) dX2_passBat_27 (by omega) ?_
          refine lv_goto (tgt := 32) hx hb dX2_passBat_28 (by decide) ?_
          refine lv_istore_n (lv' := [(1, .int (nI (i + 1))), (2, .int (nI k)), (0, .ref (a 0))]) hx hb dX2_passBat_32 rfl hl (by decide) rfl (fun ls hl => ?_)
          refine lv_aload_n hx hb dX2_passBat_33 rfl (lv_at hl 2 rfl) ?_
          refine va_get (D := (dC, dI)) (ci := 2) (v := .ref (a 3)) (C := RX2) (T := TX2) (N := 8) hx hb hts hin2 hown hK hP 0 rfl rfl 4 (by decide) lk18 (fun _ h9 => h9) rfl dX2_passBat_34 ?_
          refine lv_iload_n hx hb dX2_passBat_37 rfl (lv_at hl 0 rfl) ?_
          refine qv_ald (v := (Pwh P) (i + 1)) hx hb hK hP 3 0 rfl rfl (by omega) (by decide) (rfl) dX2_passBat_38 ?_
          refine lv_if_ne (tgt := 48) hx hb dX2_passBat_39 (by decide) (fun c_39 => ?_) (fun c_39 => ?_)
          · rw [if_neg c_39] at hF
            refine lv_iinc (v := nI (k + 1)) (lv' := [(2, .int (nI (k + 1))), (1, .int (nI (i + 1))), (0, .ref (a 0))]) hx hb dX2_passBat_48 hl (k := 1) rfl (qn_inc (c := 1) rfl (by omega)) (by decide) rfl (fun ls hl => ?_)
            refine lv_goto (tgt := 7) hx hb dX2_passBat_51 (by decide) ?_
            exact ih_7 (k + 1) (i + 1) H locs (by omega) (by omega) (by omega) hP hD hS ls (lv_sub hl [0, 1, 2] rfl) hF
          · rw [if_pos c_39] at hF
            refine lv_aload_n hx hb dX2_passBat_42 rfl (lv_at hl 2 rfl) ?_
            refine lv_iload_n hx hb dX2_passBat_43 rfl (lv_at hl 0 rfl) ?_
            refine va_put (D := (dC, dI)) (ci := 2) (v := .int (nI (i + 1))) (ty := .int) (C := RX2) (T := TX2) (N := 8) hx hb hts hin2 tyX2 tyX2_ok nmX2 hown hK hP hD hS 0 rfl rfl 5 (by decide) lk21 (fun _ h9 => h9) rfl (by decide +kernel) rfl rfl (Nat.le_of_ble_eq_true rfl) dX2_passBat_44 (fun H locs hP hD hS => ?_)
            have hP : va_P (dC, dI) vwCl (pW a cI ((Pbo P, Psz P, Pkd P, Plg P, Pwh P, nI (i + 1), Ppt P, Pbl P))) H := hP
            have hD : va_D A (pW a cI ((Pbo P, Psz P, Pkd P, Plg P, Pwh P, nI (i + 1), Ppt P, Pbl P))) := hD
            rw [sel2_inr] at hF
            have hP9 : va_P (dC, dI) vwCl (pW a cI ((Pbo P, Psz P, Pkd P, Plg P, Pwh P, nI (i + 1), Ppt P, Pbl P))) H := hP
            exact W.vret hx hb hr (fun t ht hW => ⟨⟨((Pbo P, Psz P, Pkd P, Plg P, Pwh P, nI (i + 1), Ppt P, Pbl P)), rfl, hO.symm.trans hF, by rw [ht]; exact hP9, va_K.moved hW.alike hK, hD⟩, hS.F ht⟩) hS.2.2 dX2_passBat_47
  exact L_7 7 0 (tN (Pnx P)) s.heap [] (by omega) (by omega) (by omega) hP hD hS ls (lv_sub hl [0, 1, 2] rfl) hF
theorem runAll_at {P P' : pS} {n r : Int32} (e : F_X2_runAll P n = (r, P')) : Psz P' = Psz P ∧ Pnx P' = Pnx P ∧ Pkd P' = Pkd P ∧ Plg P' = Plg P ∧ Pbo P' = Pbo P ∧ Ppt P' = Ppt P ∧ Pbl P' = Pbl P := by
  unfold F_X2_runAll at e
  simp only [let3] at e
  split at e
  · rw [← (Prod.mk.inj e).2]; exact ⟨rfl, rfl, rfl, rfl, rfl, rfl, rfl⟩
  · rw [← (Prod.mk.inj e).2]; exact ⟨rfl, rfl, rfl, rfl, rfl, rfl, rfl⟩
def passQ (P : pS) (x : ((Nat) × (Nat)) ⊕ ((pS))) : Prop := match x with
  | .inl _ => True
  | .inr P' => Psz P' = Psz P ∧ Pwh P' = Pwh P ∧ Pkd P' = Pkd P ∧ Plg P' = Plg P ∧ Pbo P' = Pbo P ∧ Ppt P' = Ppt P ∧ Pbl P' = Pbl P
theorem L_passBat (P : pS) : ∀ (f k i : Nat), passQ P (F_X2_passBat_L7 f P k i)
  | 0, _, _ => trivial
  | f + 1, k, i => by
    rw [F_X2_passBat_L7]
    by_cases c : tN (Psz P) ≤ k
    · rw [if_pos c]; trivial
    · rw [if_neg c]
      by_cases d : tN (Psz P) ≤ i + 1
      · rw [if_pos d]
        by_cases g : Pwh P 0 = 0
        · rw [if_pos g]; exact ⟨rfl, rfl, rfl, rfl, rfl, rfl, rfl⟩
        · rw [if_neg g]; exact L_passBat P f (k + 1) 0
      · rw [if_neg d]
        by_cases g : Pwh P (i + 1) = 0
        · rw [if_pos g]; exact ⟨rfl, rfl, rfl, rfl, rfl, rfl, rfl⟩
        · rw [if_neg g]; exact L_passBat P f (k + 1) (i + 1)
theorem passBat_at {P P' : pS} (e : F_X2_passBat P = P') : Psz P' = Psz P ∧ Pwh P' = Pwh P ∧ Pkd P' = Pkd P ∧ Plg P' = Plg P ∧ Pbo P' = Pbo P ∧ Ppt P' = Ppt P ∧ Pbl P' = Pbl P := by
  rw [← e]
  unfold F_X2_passBat
  have h := L_passBat P 7 0 (tN (Pnx P))
  rcases hx : F_X2_passBat_L7 7 P 0 (tN (Pnx P)) with ⟨k, i⟩ | P2
  · rw [sel2_inl k i]; exact ⟨rfl, rfl, rfl, rfl, rfl, rfl, rfl⟩
  · rw [hx] at h; rw [sel2_inr]; exact h
def F_X2_runBall (P : pS) (n : Int32) : Int32 × (pS) := let1 (F_X2_isDone P) (fun z_1 => if z_1 = true then (nI 0, P) else (if 0 ≤ n then (if n ≤ 0 then let1 (F_X2_passBat ((Pbo P, Psz P, Pkd P, Plg P, Pwh P, Pnx P, (Ppt P) + (nI 0), (Pbl P) + (nI 1)))) (fun P_59 => (nI 0, P_59)) else let2 (F_X2_runAll ((Pbo P, Psz P, Pkd P, Plg P, Pwh P, Pnx P, Ppt P, (Pbl P) + (nI 1))) n) (fun r_44 P_44 => let1 (F_X2_passBat ((Pbo P_44, Psz P_44, Pkd P_44, Plg P_44, Pwh P_44, Pnx P_44, (Ppt P_44) + r_44, Pbl P_44))) (fun P_59 => (r_44, P_59)))) else let1 (F_X2_passBat ((Pbo P, Psz P, Pkd P, Plg P, upd (Pwh P) (tN (Pnx P)) (nI 4), Pnx P, (Ppt P) + (nI 0), (Pbl P) + (nI 1)))) (fun P_59 => (nI 0, P_59))))
set_option maxHeartbeats 4000000 in
set_option maxRecDepth 100000 in
theorem c_X2_runBall (l : Launch) (dC : Nat → ClassId) (dI : Nat → Nat → Nat) (a : Nat → Nat) (cI : ClassId) (sz : Nat) (P : pS) (n : Int32) (pz : inB (Psz P) 6) : Met l yX2_runBall wsX2_runBall { frames := 2, cells := 0, slots := 0, locals := 45 } (xPc (dC, dI) vwCl (xT cI) (pW a cI P) sz [.ref (a 0), .int n]) (va_Qi (fun (r : Int32) (u : (pS)) => F_X2_runBall P n = (r, u)) (mB (dC, dI) vwCl (xT cI) (va_A (pW a cI P) sz) (fun u => pW a cI u)) (va_A (pW a cI P) sz)) 0 0 (va_A (pW a cI P) sz) := by
  refine Met.ofW (cc := cX2_runBall) (maxL := 3) (ret := (some .int)) (by decide) rfl ?_
  intro p e s m args below meth c s₁ B hml hv
  obtain ⟨rfl, hsz, hP, hK, hD0, hN⟩ := hv
  have hx := B.exec
  have hb := B.bytes
  have hr := B.returns
  have hts := atoms_spec (ws := wsX2_runBall) B.pre
  have hown : s.vm.findClass RX2 = some m.cls := findClass_of_methodNamed B.named
  have hlocks := B.notSynchronized
  subst hsz
  have hD := hD0.self (sz := s.heap.size)
  generalize hAe : va_A (pW a cI P) s.heap.size = A at hD ⊢
  have hA : ∀ q : Nat, s.heap.size ≤ q → A q := fun q h => by rw [← hAe]; exact Or.inr h
  have hS : va_S A s.heap s.heap [] := va_S.rf
  have hin2 : ∀ w ∈ wsX20, w ∈ wsX2_runBall := by decide +kernel
  have lk18 := hts (.fieldLink RX2 18 "PostRounders$Play" "where" "[I") (by decide +kernel)
  have lk21 := hts (.fieldLink RX2 21 "PostRounders$Play" "next" "I") (by decide +kernel)
  have lk31 := hts (.fieldLink RX2 31 "PostRounders$Play" "points" "I") (by decide +kernel)
  have lk34 := hts (.fieldLink RX2 34 "PostRounders$Play" "balls" "I") (by decide +kernel)
  have hl := lv_entry ([.ref (a 0), .int n]) (n := 3) (Nat.le_of_ble_eq_true rfl)
  rw [lg_entry_eq]
  generalize (lg_sl ([.ref (a 0), .int n]) ++ List.replicate (3 - (lg_sl ([.ref (a 0), .int n])).length) Slot.unset).toArray = ls at hl ⊢
  have hl : lv_has ls 3 [(0, .ref (a 0)), (1, .int n)] := hl
  obtain ⟨OUT, hO⟩ : ∃ z, z = F_X2_runBall P n := ⟨_, rfl⟩
  have hF := hO
  unfold F_X2_runBall at hF
  have e_pz := tN_eq pz.1
  have b_pz := pz.2
  refine lv_aload_n hx hb dX2_runBall_0 rfl (lv_at hl 0 rfl) ?_
  refine qx_Vi (C := RX2) (As := []) (rest := []) (ci := 2) (k0 := 0) (wr := []) (ws2 := fun u => pW a cI P) [0, 1, 2, 3] [] [0, 1, 2, 3] ⟨hx, hb, hml, hown, hts⟩ (c_X2_isDone l dC dI a cI s.heap.size P  ) (cwV 0 hts gX2_runBall_X2_isDone rfl rfl rfl (by decide +kernel) ⟨Nat.le_of_ble_eq_true rfl, Nat.le_of_ble_eq_true rfl⟩) (hK.sub [0] rfl) hK hP hD hS hA hN rfl rfl (by decide) (by decide) (by decide) (by decide) (fun _ => rfl) rfl rfl rfl rfl hl.1 rfl (Nat.le_of_ble_eq_true rfl) dX2_runBall_1 ⟨Nat.zero_le _, Nat.zero_le _⟩ (fun r_1 u_1 H locs hw_1 hP hD hS => ?_)
  have hP : va_P (dC, dI) vwCl (pW a cI P) H := hP
  have hD : va_D A (pW a cI P) := hD
  obtain ⟨z_1, hw_1, rfl⟩ := hw_1
  rw [hw_1, let1_mk z_1] at hF
  refine qv_zif_eq (tgt := 9) hx hb dX2_runBall_4 (by decide) (fun c_4 => ?_) (fun c_4 => ?_)
  · rw [if_neg c_4] at hF
    have k_d := isDone2 hw_1 c_4 pz
    have k_e := tN_eq k_d.1.1
    have k_b := k_d.1.2
    have k_l := k_d.2
    refine lv_aload_n hx hb dX2_runBall_9 rfl (lv_at hl 0 rfl) ?_
    refine lv_dup hx hb dX2_runBall_10 rfl ?_
    refine va_get (D := (dC, dI)) (ci := 2) (v := .int (Pbl P)) (C := RX2) (T := TX2) (N := 8) hx hb hts hin2 hown hK hP 0 rfl rfl 7 (by decide) lk34 (fun _ h9 => h9) rfl dX2_runBall_11 ?_
    refine lv_iconst (v := nI 1) hx hb dX2_runBall_14 (by decide) ?_
    refine lv_iadd hx hb dX2_runBall_15 ?_
    refine va_put (D := (dC, dI)) (ci := 2) (v := .int ((Pbl P) + (nI 1))) (ty := .int) (C := RX2) (T := TX2) (N := 8) hx hb hts hin2 tyX2 tyX2_ok nmX2 hown hK hP hD hS 0 rfl rfl 7 (by decide) lk34 (fun _ h9 => h9) rfl (by decide +kernel) rfl rfl (Nat.le_of_ble_eq_true rfl) dX2_runBall_16 (fun H locs hP hD hS => ?_)
    have hP : va_P (dC, dI) vwCl (pW a cI ((Pbo P, Psz P, Pkd P, Plg P, Pwh P, Pnx P, Ppt P, (Pbl P) + (nI 1)))) H := hP
    have hD : va_D A (pW a cI ((Pbo P, Psz P, Pkd P, Plg P, Pwh P, Pnx P, Ppt P, (Pbl P) + (nI 1)))) := hD
    refine lv_iconst (v := nI 0) hx hb dX2_runBall_19 (by decide) ?_
    refine lv_istore_n (lv' := [(2, .int (nI 0)), (0, .ref (a 0)), (1, .int n)]) hx hb dX2_runBall_20 rfl hl (by decide) rfl (fun ls hl => ?_)
    refine lv_iload_n hx hb dX2_runBall_21 rfl (lv_at hl 2 rfl) ?_
    refine lv_if_ge (tgt := 38) hx hb dX2_runBall_22 (by decide) (fun c_22 => ?_) (fun c_22 => ?_)
    · rw [if_pos c_22] at hF
      refine lv_iload_n hx hb dX2_runBall_38 rfl (lv_at hl 2 rfl) ?_
      refine lv_if_le (tgt := 48) hx hb dX2_runBall_39 (by decide) (fun c_39 => ?_) (fun c_39 => ?_)
      · rw [if_pos c_39] at hF
        refine lv_aload_n hx hb dX2_runBall_48 rfl (lv_at hl 1 rfl) ?_
        refine lv_dup hx hb dX2_runBall_49 rfl ?_
        refine va_get (D := (dC, dI)) (ci := 2) (v := .int (Ppt P)) (C := RX2) (T := TX2) (N := 8) hx hb hts hin2 hown hK hP 0 rfl rfl 6 (by decide) lk31 (fun _ h9 => h9) rfl dX2_runBall_50 ?_
        refine lv_iload_n hx hb dX2_runBall_53 rfl (lv_at hl 0 rfl) ?_
        refine lv_iadd hx hb dX2_runBall_54 ?_
        refine va_put (D := (dC, dI)) (ci := 2) (v := .int ((Ppt P) + (nI 0))) (ty := .int) (C := RX2) (T := TX2) (N := 8) hx hb hts hin2 tyX2 tyX2_ok nmX2 hown hK hP hD hS 0 rfl rfl 6 (by decide) lk31 (fun _ h9 => h9) rfl (by decide +kernel) rfl rfl (Nat.le_of_ble_eq_true rfl) dX2_runBall_55 (fun H locs hP hD hS => ?_)
        have hP : va_P (dC, dI) vwCl (pW a cI ((Pbo P, Psz P, Pkd P, Plg P, Pwh P, Pnx P, (Ppt P) + (nI 0), (Pbl P) + (nI 1)))) H := hP
        have hD : va_D A (pW a cI ((Pbo P, Psz P, Pkd P, Plg P, Pwh P, Pnx P, (Ppt P) + (nI 0), (Pbl P) + (nI 1)))) := hD
        have k_l2 := k_l
        refine lv_aload_n hx hb dX2_runBall_58 rfl (lv_at hl 1 rfl) ?_
        refine qx_Vv (C := RX2) (As := []) (rest := []) (ci := 2) (k0 := 0) (wr := []) (ws2 := fun u => pW a cI u) [0, 1, 2, 3] [] [0, 1, 2, 3] ⟨hx, hb, hml, hown, hts⟩ (c_X2_passBat l dC dI a cI H.size ((Pbo P, Psz P, Pkd P, Plg P, Pwh P, Pnx P, (Ppt P) + (nI 0), (Pbl P) + (nI 1)))  (pz : inB (Psz P) 6) (k_d.1 : inB (Pnx P) 5) (by omega)) (cwV 0 hts gX2_runBall_X2_passBat rfl rfl rfl (by decide +kernel) ⟨Nat.le_of_ble_eq_true rfl, Nat.le_of_ble_eq_true rfl⟩) (hK.sub [0] rfl) hK hP hD hS hA hN rfl rfl (by decide) (by decide) (by decide) (by decide) (fun _ => rfl) rfl rfl rfl rfl hl.1 rfl (Nat.le_of_ble_eq_true rfl) dX2_runBall_59 ⟨Nat.zero_le _, Nat.zero_le _⟩ (fun u_59 H locs hw_59 hP hD hS => ?_)
        obtain ⟨P_59, rfl⟩ : ∃ z, z = u_59 := ⟨_, rfl⟩
        have hP : va_P (dC, dI) vwCl (pW a cI P_59) H := hP
        have hD : va_D A (pW a cI P_59) := hD
        rw [hw_59, let1_mk P_59] at hF
        refine lv_iload_n hx hb dX2_runBall_62 rfl (lv_at hl 0 rfl) ?_
        have hP9 : va_P (dC, dI) vwCl (pW a cI P_59) H := hP
        exact W.iret (v := nI 0) hx hb hr (fun t ht hW => ⟨⟨_, (P_59), rfl, hO.symm.trans hF, by rw [ht]; exact hP9, va_K.moved hW.alike hK, hD⟩, hS.F ht⟩) hS.2.2 dX2_runBall_63
      · rw [if_neg c_39] at hF
        refine lv_aload_n hx hb dX2_runBall_42 rfl (lv_at hl 1 rfl) ?_
        refine lv_iload_n hx hb dX2_runBall_43 rfl (lv_at hl 2 rfl) ?_
        refine qx_Vi (C := RX2) (As := [.int n]) (rest := []) (ci := 2) (k0 := 0) (wr := []) (ws2 := fun u => pW a cI u) [0, 1, 2, 3] [] [0, 1, 2, 3] ⟨hx, hb, hml, hown, hts⟩ (c_X2_runAll l dC dI a cI H.size ((Pbo P, Psz P, Pkd P, Plg P, Pwh P, Pnx P, Ppt P, (Pbl P) + (nI 1))) n (pz : inB (Psz P) 6) (k_d.1 : inB (Pnx P) 5)) (cwV 1 hts gX2_runBall_X2_runAll rfl rfl rfl (by decide +kernel) ⟨Nat.le_of_ble_eq_true rfl, Nat.le_of_ble_eq_true rfl⟩) (hK.sub [0] rfl) hK hP hD hS hA hN rfl rfl (by decide) (by decide) (by decide) (by decide) (fun _ => rfl) rfl rfl rfl rfl hl.1 rfl (Nat.le_of_ble_eq_true rfl) dX2_runBall_44 ⟨Nat.zero_le _, Nat.zero_le _⟩ (fun r_44 u_44 H locs hw_44 hP hD hS => ?_)
        obtain ⟨P_44, rfl⟩ : ∃ z, z = u_44 := ⟨_, rfl⟩
        have hP : va_P (dC, dI) vwCl (pW a cI P_44) H := hP
        have hD : va_D A (pW a cI P_44) := hD
        have a_44 := runAll_at hw_44
        rw [hw_44, let2_mk r_44 P_44] at hF
        refine lv_istore_n (lv' := [(2, .int r_44), (0, .ref (a 0)), (1, .int n)]) hx hb dX2_runBall_47 rfl hl (by decide) rfl (fun ls hl => ?_)
        refine lv_aload_n hx hb dX2_runBall_48 rfl (lv_at hl 1 rfl) ?_
        refine lv_dup hx hb dX2_runBall_49 rfl ?_
        refine va_get (D := (dC, dI)) (ci := 2) (v := .int (Ppt P_44)) (C := RX2) (T := TX2) (N := 8) hx hb hts hin2 hown hK hP 0 rfl rfl 6 (by decide) lk31 (fun _ h9 => h9) rfl dX2_runBall_50 ?_
        refine lv_iload_n hx hb dX2_runBall_53 rfl (lv_at hl 0 rfl) ?_
        refine lv_iadd hx hb dX2_runBall_54 ?_
        refine va_put (D := (dC, dI)) (ci := 2) (v := .int ((Ppt P_44) + r_44)) (ty := .int) (C := RX2) (T := TX2) (N := 8) hx hb hts hin2 tyX2 tyX2_ok nmX2 hown hK hP hD hS 0 rfl rfl 6 (by decide) lk31 (fun _ h9 => h9) rfl (by decide +kernel) rfl rfl (Nat.le_of_ble_eq_true rfl) dX2_runBall_55 (fun H locs hP hD hS => ?_)
        have hP : va_P (dC, dI) vwCl (pW a cI ((Pbo P_44, Psz P_44, Pkd P_44, Plg P_44, Pwh P_44, Pnx P_44, (Ppt P_44) + r_44, Pbl P_44))) H := hP
        have hD : va_D A (pW a cI ((Pbo P_44, Psz P_44, Pkd P_44, Plg P_44, Pwh P_44, Pnx P_44, (Ppt P_44) + r_44, Pbl P_44))) := hD
        have k_l2 : tN (Pnx P_44) < tN (Psz P_44) := by rw [a_44.1, a_44.2.1]; exact k_l
        refine lv_aload_n hx hb dX2_runBall_58 rfl (lv_at hl 1 rfl) ?_
        refine qx_Vv (C := RX2) (As := []) (rest := []) (ci := 2) (k0 := 0) (wr := []) (ws2 := fun u => pW a cI u) [0, 1, 2, 3] [] [0, 1, 2, 3] ⟨hx, hb, hml, hown, hts⟩ (c_X2_passBat l dC dI a cI H.size ((Pbo P_44, Psz P_44, Pkd P_44, Plg P_44, Pwh P_44, Pnx P_44, (Ppt P_44) + r_44, Pbl P_44))  (by rw [show Psz P_44 = Psz P from a_44.1]; exact (pz : inB (Psz P) 6)) (by rw [show Pnx P_44 = Pnx P from a_44.2.1]; exact (k_d.1 : inB (Pnx P) 5)) (by omega)) (cwV 0 hts gX2_runBall_X2_passBat rfl rfl rfl (by decide +kernel) ⟨Nat.le_of_ble_eq_true rfl, Nat.le_of_ble_eq_true rfl⟩) (hK.sub [0] rfl) hK hP hD hS hA hN rfl rfl (by decide) (by decide) (by decide) (by decide) (fun _ => rfl) rfl rfl rfl rfl hl.1 rfl (Nat.le_of_ble_eq_true rfl) dX2_runBall_59 ⟨Nat.zero_le _, Nat.zero_le _⟩ (fun u_59 H locs hw_59 hP hD hS => ?_)
        obtain ⟨P_59, rfl⟩ : ∃ z, z = u_59 := ⟨_, rfl⟩
        have hP : va_P (dC, dI) vwCl (pW a cI P_59) H := hP
        have hD : va_D A (pW a cI P_59) := hD
        rw [hw_59, let1_mk P_59] at hF
        refine lv_iload_n hx hb dX2_runBall_62 rfl (lv_at hl 0 rfl) ?_
        have hP9 : va_P (dC, dI) vwCl (pW a cI P_59) H := hP
        exact W.iret (v := r_44) hx hb hr (fun t ht hW => ⟨⟨_, (P_59), rfl, hO.symm.trans hF, by rw [ht]; exact hP9, va_K.moved hW.alike hK, hD⟩, hS.F ht⟩) hS.2.2 dX2_runBall_63
    · rw [if_neg c_22] at hF
      refine lv_aload_n hx hb dX2_runBall_25 rfl (lv_at hl 1 rfl) ?_
      refine va_get (D := (dC, dI)) (ci := 2) (v := .ref (a 3)) (C := RX2) (T := TX2) (N := 8) hx hb hts hin2 hown hK hP 0 rfl rfl 4 (by decide) lk18 (fun _ h9 => h9) rfl dX2_runBall_26 ?_
      refine lv_aload_n hx hb dX2_runBall_29 rfl (lv_at hl 1 rfl) ?_
      refine va_get (D := (dC, dI)) (ci := 2) (v := .int (Pnx P)) (C := RX2) (T := TX2) (N := 8) hx hb hts hin2 hown hK hP 0 rfl rfl 5 (by decide) lk21 (fun _ h9 => h9) rfl dX2_runBall_30 ?_
      refine qv_top (k_e) ?_
      refine lv_iconst (v := nI 4) hx hb dX2_runBall_33 (by decide) ?_
      refine qv_ast (ws' := pW a cI ((Pbo P, Psz P, Pkd P, Plg P, upd (Pwh P) (tN (Pnx P)) (nI 4), Pnx P, Ppt P, (Pbl P) + (nI 1)))) hx hb hK hP hD hS 3 0 rfl rfl (by omega) (by decide) dX2_runBall_34 rfl (fun H locs hP hD hS => ?_)
      refine lv_goto (tgt := 48) hx hb dX2_runBall_35 (by decide) ?_
      refine lv_aload_n hx hb dX2_runBall_48 rfl (lv_at hl 1 rfl) ?_
      refine lv_dup hx hb dX2_runBall_49 rfl ?_
      refine va_get (D := (dC, dI)) (ci := 2) (v := .int (Ppt P)) (C := RX2) (T := TX2) (N := 8) hx hb hts hin2 hown hK hP 0 rfl rfl 6 (by decide) lk31 (fun _ h9 => h9) rfl dX2_runBall_50 ?_
      refine lv_iload_n hx hb dX2_runBall_53 rfl (lv_at hl 0 rfl) ?_
      refine lv_iadd hx hb dX2_runBall_54 ?_
      refine va_put (D := (dC, dI)) (ci := 2) (v := .int ((Ppt P) + (nI 0))) (ty := .int) (C := RX2) (T := TX2) (N := 8) hx hb hts hin2 tyX2 tyX2_ok nmX2 hown hK hP hD hS 0 rfl rfl 6 (by decide) lk31 (fun _ h9 => h9) rfl (by decide +kernel) rfl rfl (Nat.le_of_ble_eq_true rfl) dX2_runBall_55 (fun H locs hP hD hS => ?_)
      have hP : va_P (dC, dI) vwCl (pW a cI ((Pbo P, Psz P, Pkd P, Plg P, upd (Pwh P) (tN (Pnx P)) (nI 4), Pnx P, (Ppt P) + (nI 0), (Pbl P) + (nI 1)))) H := hP
      have hD : va_D A (pW a cI ((Pbo P, Psz P, Pkd P, Plg P, upd (Pwh P) (tN (Pnx P)) (nI 4), Pnx P, (Ppt P) + (nI 0), (Pbl P) + (nI 1)))) := hD
      have k_l2 := k_l
      refine lv_aload_n hx hb dX2_runBall_58 rfl (lv_at hl 1 rfl) ?_
      refine qx_Vv (C := RX2) (As := []) (rest := []) (ci := 2) (k0 := 0) (wr := []) (ws2 := fun u => pW a cI u) [0, 1, 2, 3] [] [0, 1, 2, 3] ⟨hx, hb, hml, hown, hts⟩ (c_X2_passBat l dC dI a cI H.size ((Pbo P, Psz P, Pkd P, Plg P, upd (Pwh P) (tN (Pnx P)) (nI 4), Pnx P, (Ppt P) + (nI 0), (Pbl P) + (nI 1)))  (pz : inB (Psz P) 6) (k_d.1 : inB (Pnx P) 5) (by omega)) (cwV 0 hts gX2_runBall_X2_passBat rfl rfl rfl (by decide +kernel) ⟨Nat.le_of_ble_eq_true rfl, Nat.le_of_ble_eq_true rfl⟩) (hK.sub [0] rfl) hK hP hD hS hA hN rfl rfl (by decide) (by decide) (by decide) (by decide) (fun _ => rfl) rfl rfl rfl rfl hl.1 rfl (Nat.le_of_ble_eq_true rfl) dX2_runBall_59 ⟨Nat.zero_le _, Nat.zero_le _⟩ (fun u_59 H locs hw_59 hP hD hS => ?_)
      obtain ⟨P_59, rfl⟩ : ∃ z, z = u_59 := ⟨_, rfl⟩
      have hP : va_P (dC, dI) vwCl (pW a cI P_59) H := hP
      have hD : va_D A (pW a cI P_59) := hD
      rw [hw_59, let1_mk P_59] at hF
      refine lv_iload_n hx hb dX2_runBall_62 rfl (lv_at hl 0 rfl) ?_
      have hP9 : va_P (dC, dI) vwCl (pW a cI P_59) H := hP
      exact W.iret (v := nI 0) hx hb hr (fun t ht hW => ⟨⟨_, (P_59), rfl, hO.symm.trans hF, by rw [ht]; exact hP9, va_K.moved hW.alike hK, hD⟩, hS.F ht⟩) hS.2.2 dX2_runBall_63
  · rw [if_pos c_4] at hF
    refine lv_iconst (v := nI 0) hx hb dX2_runBall_7 (by decide) ?_
    have hP9 : va_P (dC, dI) vwCl (pW a cI P) H := hP
    exact W.iret (v := nI 0) hx hb hr (fun t ht hW => ⟨⟨_, (P), rfl, hO.symm.trans hF, by rw [ht]; exact hP9, va_K.moved hW.alike hK, hD⟩, hS.F ht⟩) hS.2.2 dX2_runBall_8
theorem runBall_at {P P' : pS} {n r : Int32} (e : F_X2_runBall P n = (r, P')) : Psz P' = Psz P ∧ Pkd P' = Pkd P ∧ Plg P' = Plg P ∧ Pbo P' = Pbo P := by
  unfold F_X2_runBall at e
  simp only [let1, let2] at e
  split at e
  · rw [← (Prod.mk.inj e).2]; exact ⟨rfl, rfl, rfl, rfl⟩
  · have fin : ∀ {Q : pS} {q : Int32}, (Psz Q = Psz P ∧ Pkd Q = Pkd P ∧ Plg Q = Plg P ∧ Pbo Q = Pbo P) → (q, F_X2_passBat Q) = (r, P') → Psz P' = Psz P ∧ Pkd P' = Pkd P ∧ Plg P' = Plg P ∧ Pbo P' = Pbo P := by
      intro Q q hQ e
      obtain ⟨g1, g2, g3, g4, g5, -⟩ := passBat_at (P := Q) rfl
      rw [← (Prod.mk.inj e).2]
      exact ⟨g1.trans hQ.1, g3.trans hQ.2.1, g4.trans hQ.2.2.1, g5.trans hQ.2.2.2⟩
    split at e
    · split at e
      · exact fin (by exact ⟨rfl, rfl, rfl, rfl⟩) e
      · have g := runAll_at (P := (Pbo P, Psz P, Pkd P, Plg P, Pwh P, Pnx P, Ppt P, Pbl P + nI 1)) (n := n) (r := (F_X2_runAll (Pbo P, Psz P, Pkd P, Plg P, Pwh P, Pnx P, Ppt P, Pbl P + nI 1) n).1) (P' := (F_X2_runAll (Pbo P, Psz P, Pkd P, Plg P, Pwh P, Pnx P, Ppt P, Pbl P + nI 1) n).2) rfl
        generalize F_X2_runAll (Pbo P, Psz P, Pkd P, Plg P, Pwh P, Pnx P, Ppt P, Pbl P + nI 1) n = Y at g e
        obtain ⟨g1, g2, g3, g4, g5, -⟩ := g
        exact fin (by exact ⟨g1, g3, g4, g5⟩) e
    · exact fin (by exact ⟨rfl, rfl, rfl, rfl⟩) e
def F_X2_ball (P : pS) (h : Int32) : Int32 × (pS) := let1 (F_X2_postsBy P h) (fun r_3 => let2 (F_X2_runBall P r_3) (fun r_6 P_6 => (r_6, P_6)))
set_option maxHeartbeats 4000000 in
set_option maxRecDepth 100000 in
theorem c_X2_ball (l : Launch) (dC : Nat → ClassId) (dI : Nat → Nat → Nat) (a : Nat → Nat) (cI : ClassId) (sz : Nat) (P : pS) (h : Int32) (pz : inB (Psz P) 6) : Met l yX2_ball wsX2_ball { frames := 3, cells := 0, slots := 0, locals := 67 } (xPc (dC, dI) vwCl (xT cI) (pW a cI P) sz [.ref (a 0), .int h]) (va_Qi (fun (r : Int32) (u : (pS)) => F_X2_ball P h = (r, u)) (mB (dC, dI) vwCl (xT cI) (va_A (pW a cI P) sz) (fun u => pW a cI u)) (va_A (pW a cI P) sz)) 0 0 (va_A (pW a cI P) sz) := by
  refine Met.ofW (cc := cX2_ball) (maxL := 2) (ret := (some .int)) (by decide) rfl ?_
  intro p e s m args below meth c s₁ B hml hv
  obtain ⟨rfl, hsz, hP, hK, hD0, hN⟩ := hv
  have hx := B.exec
  have hb := B.bytes
  have hr := B.returns
  have hts := atoms_spec (ws := wsX2_ball) B.pre
  have hown : s.vm.findClass RX2 = some m.cls := findClass_of_methodNamed B.named
  have hlocks := B.notSynchronized
  subst hsz
  have hD := hD0.self (sz := s.heap.size)
  generalize hAe : va_A (pW a cI P) s.heap.size = A at hD ⊢
  have hA : ∀ q : Nat, s.heap.size ≤ q → A q := fun q h => by rw [← hAe]; exact Or.inr h
  have hS : va_S A s.heap s.heap [] := va_S.rf
  have hl := lv_entry ([.ref (a 0), .int h]) (n := 2) (Nat.le_of_ble_eq_true rfl)
  rw [lg_entry_eq]
  generalize (lg_sl ([.ref (a 0), .int h]) ++ List.replicate (2 - (lg_sl ([.ref (a 0), .int h])).length) Slot.unset).toArray = ls at hl ⊢
  have hl : lv_has ls 2 [(0, .ref (a 0)), (1, .int h)] := hl
  obtain ⟨OUT, hO⟩ : ∃ z, z = F_X2_ball P h := ⟨_, rfl⟩
  have hF := hO
  unfold F_X2_ball at hF
  have e_pz := tN_eq pz.1
  have b_pz := pz.2
  refine lv_aload_n hx hb dX2_ball_0 rfl (lv_at hl 0 rfl) ?_
  refine lv_aload_n hx hb dX2_ball_1 rfl (lv_at hl 0 rfl) ?_
  refine lv_iload_n hx hb dX2_ball_2 rfl (lv_at hl 1 rfl) ?_
  refine qx_Vi (C := RX2) (As := [.int h]) (rest := [.ref (a 0)]) (ci := 2) (k0 := 0) (wr := []) (ws2 := fun u => pW a cI P) [0, 1, 2, 3] [] [0, 1, 2, 3] ⟨hx, hb, hml, hown, hts⟩ (c_X2_postsBy l dC dI a cI s.heap.size P h (pz : inB (Psz P) 6)) (cwV 1 hts gX2_ball_X2_postsBy rfl rfl rfl (by decide +kernel) ⟨Nat.le_of_ble_eq_true rfl, Nat.le_of_ble_eq_true rfl⟩) (hK.sub [0] rfl) hK hP hD hS hA hN rfl rfl (by decide) (by decide) (by decide) (by decide) (fun _ => rfl) rfl rfl rfl rfl hl.1 rfl (Nat.le_of_ble_eq_true rfl) dX2_ball_3 ⟨Nat.zero_le _, Nat.zero_le _⟩ (fun r_3 u_3 H locs hw_3 hP hD hS => ?_)
  have hP : va_P (dC, dI) vwCl (pW a cI P) H := hP
  have hD : va_D A (pW a cI P) := hD
  rw [hw_3, let1_mk r_3] at hF
  refine qx_Vi (C := RX2) (As := [.int r_3]) (rest := []) (ci := 2) (k0 := 0) (wr := []) (ws2 := fun u => pW a cI u) [0, 1, 2, 3] [] [0, 1, 2, 3] ⟨hx, hb, hml, hown, hts⟩ (c_X2_runBall l dC dI a cI H.size P r_3 (pz : inB (Psz P) 6)) (cwV 1 hts gX2_ball_X2_runBall rfl rfl rfl (by decide +kernel) ⟨Nat.le_of_ble_eq_true rfl, Nat.le_of_ble_eq_true rfl⟩) (hK.sub [0] rfl) hK hP hD hS hA hN rfl rfl (by decide) (by decide) (by decide) (by decide) (fun _ => rfl) rfl rfl rfl rfl hl.1 rfl (Nat.le_of_ble_eq_true rfl) dX2_ball_6 ⟨Nat.zero_le _, Nat.zero_le _⟩ (fun r_6 u_6 H locs hw_6 hP hD hS => ?_)
  obtain ⟨P_6, rfl⟩ : ∃ z, z = u_6 := ⟨_, rfl⟩
  have hP : va_P (dC, dI) vwCl (pW a cI P_6) H := hP
  have hD : va_D A (pW a cI P_6) := hD
  rw [hw_6, let2_mk r_6 P_6] at hF
  have hP9 : va_P (dC, dI) vwCl (pW a cI P_6) H := hP
  exact W.iret (v := r_6) hx hb hr (fun t ht hW => ⟨⟨_, (P_6), rfl, hO.symm.trans hF, by rw [ht]; exact hP9, va_K.moved hW.alike hK, hD⟩, hS.F ht⟩) hS.2.2 dX2_ball_9
def F_X2_playHits_L5 : Nat → (Nat) → (Nat → Int32) → (Nat) → (Int32) → (pS) → (Nat) × (Int32) × (pS)
  | 0, _, _, k, gn, P1 => (k, gn, P1)
  | n_5 + 1, n, Rw, k, gn, P1 => if n ≤ k then (k, gn, P1) else (if 8 ≤ k then (k, gn, P1) else let1 (F_X2_isDone P1) (fun z_19 => if z_19 = true then (k, gn, P1) else let1 (F_X2_postsBy P1 (Rw k)) (fun r_32 => let2 (F_X2_runBall P1 r_32) (fun r_35 P_35 => F_X2_playHits_L5 n_5 n Rw (k + 1) (gn + r_35) P_35))))
def F_X2_playHits (P : pS) (Rw : Nat → Int32) (n : Nat) : Int32 × (pS) := let3 (F_X2_playHits_L5 (n + 1) n Rw 0 (nI 0) P) (fun k gn P1 => (gn, P1))
set_option maxHeartbeats 4000000 in
set_option maxRecDepth 100000 in
theorem c_X2_playHits (l : Launch) (dC : Nat → ClassId) (dI : Nat → Nat → Nat) (a : Nat → Nat) (r : Nat) (cI : ClassId) (sz : Nat) (P : pS) (Rw : Nat → Int32) (n : Nat) (pz : inB (Psz P) 6) (hn : n < 2 ^ 31) : Met l yX2_playHits wsX2_playHits { frames := 3, cells := 0, slots := 0, locals := 67 } (xPc (dC, dI) vwCl (xT cI) ((pW a cI P) ++ ([(r, .inl (cI, 8, .inl Rw))])) sz [.ref (a 0), .ref r, .int (nI n)]) (va_Qi (fun (r : Int32) (u : (pS)) => F_X2_playHits P Rw n = (r, u)) (mB (dC, dI) vwCl (xT cI) (va_A ((pW a cI P) ++ ([(r, .inl (cI, 8, .inl Rw))])) sz) (fun u => (pW a cI u) ++ ([(r, .inl (cI, 8, .inl Rw))]))) (va_A ((pW a cI P) ++ ([(r, .inl (cI, 8, .inl Rw))])) sz)) 0 0 (va_A ((pW a cI P) ++ ([(r, .inl (cI, 8, .inl Rw))])) sz) := by
  refine Met.ofW (cc := cX2_playHits) (maxL := 5) (ret := (some .int)) (by decide) rfl ?_
  intro p e s m args below meth c s₁ B hml hv
  obtain ⟨rfl, hsz, hP, hK, hD0, hN⟩ := hv
  have hx := B.exec
  have hb := B.bytes
  have hr := B.returns
  have hts := atoms_spec (ws := wsX2_playHits) B.pre
  have hown : s.vm.findClass RX2 = some m.cls := findClass_of_methodNamed B.named
  have hlocks := B.notSynchronized
  subst hsz
  have hD := hD0.self (sz := s.heap.size)
  generalize hAe : va_A ((pW a cI P) ++ ([(r, .inl (cI, 8, .inl Rw))])) s.heap.size = A at hD ⊢
  have hA : ∀ q : Nat, s.heap.size ≤ q → A q := fun q h => by rw [← hAe]; exact Or.inr h
  have hS : va_S A s.heap s.heap [] := va_S.rf
  have hl := lv_entry ([.ref (a 0), .ref r, .int (nI n)]) (n := 5) (Nat.le_of_ble_eq_true rfl)
  rw [lg_entry_eq]
  generalize (lg_sl ([.ref (a 0), .ref r, .int (nI n)]) ++ List.replicate (5 - (lg_sl ([.ref (a 0), .ref r, .int (nI n)])).length) Slot.unset).toArray = ls at hl ⊢
  have hl : lv_has ls 5 [(0, .ref (a 0)), (1, .ref r), (2, .int (nI n))] := hl
  obtain ⟨OUT, hO⟩ : ∃ z, z = F_X2_playHits P Rw n := ⟨_, rfl⟩
  have hF := hO
  unfold F_X2_playHits at hF
  have e_pz := tN_eq pz.1
  have b_pz := pz.2
  refine lv_iconst (v := nI 0) hx hb dX2_playHits_0 (by decide) ?_
  refine lv_istore_n (lv' := [(3, .int (nI 0)), (0, .ref (a 0)), (1, .ref r), (2, .int (nI n))]) hx hb dX2_playHits_1 rfl hl (by decide) rfl (fun ls hl => ?_)
  refine lv_iconst (v := nI 0) hx hb dX2_playHits_2 (by decide) ?_
  refine lv_istore (lv' := [(4, .int (nI 0)), (3, .int (nI 0)), (0, .ref (a 0)), (1, .ref r), (2, .int (nI n))]) hx hb dX2_playHits_3 hl (by decide) rfl (fun ls hl => ?_)
  have L_5 : ∀ (n_5 : Nat) (k : Nat) (gn : Int32) (P1 : pS) (H : Heap) (locs : List Loc), k ≤ n → inB (Psz P1) 6 → n - k < n_5 → va_P (dC, dI) vwCl ((pW a cI P1) ++ ([(r, .inl (cI, 8, .inl Rw))])) H → va_D A ((pW a cI P1) ++ ([(r, .inl (cI, 8, .inl Rw))])) → va_S A s.heap H locs → ∀ (ls : Array Slot), lv_has ls 5 [(4, .int (nI k)), (3, .int gn), (0, .ref (a 0)), (1, .ref r), (2, .int (nI n))] → OUT = let3 (F_X2_playHits_L5 n_5 n Rw k gn P1) (fun k gn P1 => (gn, P1)) → W p l e (headSpec wsX2_playHits { frames := 3, cells := 0, slots := 0, locals := 67 }).room s m ([.ref (a 0), .ref r, .int (nI n)] : List Value).toArray below meth c H locs 0 0 (MQ below (va_Qi (fun (r : Int32) (u : (pS)) => F_X2_playHits P Rw n = (r, u)) (mB (dC, dI) vwCl (xT cI) A (fun u => (pW a cI u) ++ ([(r, .inl (cI, 8, .inl Rw))]))) A) ([.ref (a 0), .ref r, .int (nI n)] : List Value).toArray s 0 0 A) (F0 m 5 ls []) := by
    intro n_5
    induction n_5 with
    | zero => intro k gn P1 H locs i0 i1 hmu; exact absurd hmu (Nat.not_lt_zero _)
    | succ n_5 ih_5 =>
      intro k gn P1 H locs i0 i1 hmu_5 hP hD hS ls hl hF
      rw [F_X2_playHits_L5] at hF
      refine lv_iload hx hb dX2_playHits_5 (lv_at hl 0 rfl) ?_
      refine lv_iload_n hx hb dX2_playHits_7 rfl (lv_at hl 4 rfl) ?_
      refine qv_icmp_ge (tgt := 46) hx hb dX2_playHits_8 (by decide) (by omega) (by omega) (fun c_8 => ?_) (fun c_8 => ?_)
      · rw [if_pos c_8] at hF
        rw [let3_mk (k : Nat) (gn : Int32) (P1 : pS)] at hF
        refine lv_iload_n hx hb dX2_playHits_46 rfl (lv_at hl 1 rfl) ?_
        have hP9 : va_P (dC, dI) vwCl ((pW a cI P1) ++ ([(r, .inl (cI, 8, .inl Rw))])) H := hP
        exact W.iret (v := gn) hx hb hr (fun t ht hW => ⟨⟨_, (P1), rfl, hO.symm.trans hF, by rw [ht]; exact hP9, va_K.moved hW.alike hK, hD⟩, hS.F ht⟩) hS.2.2 dX2_playHits_47
      · rw [if_neg c_8] at hF
        refine lv_iload hx hb dX2_playHits_11 (lv_at hl 0 rfl) ?_
        refine lv_aload_n hx hb dX2_playHits_13 rfl (lv_at hl 3 rfl) ?_
        refine va_alen (v := nI 8) hx hb hK hP 4 0 rfl rfl rfl dX2_playHits_14 ?_
        refine qv_icmp_ge (tgt := 46) hx hb dX2_playHits_15 (by decide) (by omega) (by omega) (fun c_15 => ?_) (fun c_15 => ?_)
        · rw [if_pos c_15] at hF
          rw [let3_mk (k : Nat) (gn : Int32) (P1 : pS)] at hF
          refine lv_iload_n hx hb dX2_playHits_46 rfl (lv_at hl 1 rfl) ?_
          have hP9 : va_P (dC, dI) vwCl ((pW a cI P1) ++ ([(r, .inl (cI, 8, .inl Rw))])) H := hP
          exact W.iret (v := gn) hx hb hr (fun t ht hW => ⟨⟨_, (P1), rfl, hO.symm.trans hF, by rw [ht]; exact hP9, va_K.moved hW.alike hK, hD⟩, hS.F ht⟩) hS.2.2 dX2_playHits_47
        · rw [if_neg c_15] at hF
          refine lv_aload_n hx hb dX2_playHits_18 rfl (lv_at hl 2 rfl) ?_
          refine qx_Vi (C := RX2) (As := []) (rest := []) (ci := 2) (k0 := 0) (wr := ([(r, .inl (cI, 8, .inl Rw))])) (ws2 := fun u => (pW a cI P1) ++ ([(r, .inl (cI, 8, .inl Rw))])) [0, 1, 2, 3] [4] [1, 2, 3, 4, 0] ⟨hx, hb, hml, hown, hts⟩ (c_X2_isDone l dC dI a cI H.size P1  ) (cwV 0 hts gX2_playHits_X2_isDone rfl rfl rfl (by decide +kernel) ⟨Nat.le_of_ble_eq_true rfl, Nat.le_of_ble_eq_true rfl⟩) (hK.sub [0] rfl) hK hP hD hS hA hN rfl rfl (by decide) (by decide) (by decide) (by decide) (fun _ => rfl) rfl rfl rfl rfl hl.1 rfl (Nat.le_of_ble_eq_true rfl) dX2_playHits_19 ⟨Nat.zero_le _, Nat.zero_le _⟩ (fun r_19 u_19 H locs hw_19 hP hD hS => ?_)
          have hP : va_P (dC, dI) vwCl ((pW a cI P1) ++ ([(r, .inl (cI, 8, .inl Rw))])) H := hP
          have hD : va_D A ((pW a cI P1) ++ ([(r, .inl (cI, 8, .inl Rw))])) := hD
          obtain ⟨z_19, hw_19, rfl⟩ := hw_19
          rw [hw_19, let1_mk z_19] at hF
          refine qv_zif_ne (tgt := 46) hx hb dX2_playHits_22 (by decide) (fun c_22 => ?_) (fun c_22 => ?_)
          · rw [if_pos c_22] at hF
            rw [let3_mk (k : Nat) (gn : Int32) (P1 : pS)] at hF
            refine lv_iload_n hx hb dX2_playHits_46 rfl (lv_at hl 1 rfl) ?_
            have hP9 : va_P (dC, dI) vwCl ((pW a cI P1) ++ ([(r, .inl (cI, 8, .inl Rw))])) H := hP
            exact W.iret (v := gn) hx hb hr (fun t ht hW => ⟨⟨_, (P1), rfl, hO.symm.trans hF, by rw [ht]; exact hP9, va_K.moved hW.alike hK, hD⟩, hS.F ht⟩) hS.2.2 dX2_playHits_47
          · rw [if_neg c_22] at hF
            refine lv_iload_n hx hb dX2_playHits_25 rfl (lv_at hl 1 rfl) ?_
            refine lv_aload_n hx hb dX2_playHits_26 rfl (lv_at hl 2 rfl) ?_
            refine lv_aload_n hx hb dX2_playHits_27 rfl (lv_at hl 2 rfl) ?_
            refine lv_aload_n hx hb dX2_playHits_28 rfl (lv_at hl 3 rfl) ?_
            refine lv_iload hx hb dX2_playHits_29 (lv_at hl 0 rfl) ?_
            refine qv_ald (v := Rw k) hx hb hK hP 4 0 rfl rfl (by omega) (by decide) (rfl) dX2_playHits_31 ?_
            refine qx_Vi (C := RX2) (As := [.int (Rw k)]) (rest := [.ref (a 0), .int gn]) (ci := 2) (k0 := 0) (wr := ([(r, .inl (cI, 8, .inl Rw))])) (ws2 := fun u => (pW a cI P1) ++ ([(r, .inl (cI, 8, .inl Rw))])) [0, 1, 2, 3] [4] [1, 2, 3, 4, 0] ⟨hx, hb, hml, hown, hts⟩ (c_X2_postsBy l dC dI a cI H.size P1 (Rw k) (i1 : inB (Psz P1) 6)) (cwV 1 hts gX2_playHits_X2_postsBy rfl rfl rfl (by decide +kernel) ⟨Nat.le_of_ble_eq_true rfl, Nat.le_of_ble_eq_true rfl⟩) (hK.sub [0] rfl) hK hP hD hS hA hN rfl rfl (by decide) (by decide) (by decide) (by decide) (fun _ => rfl) rfl rfl rfl rfl hl.1 rfl (Nat.le_of_ble_eq_true rfl) dX2_playHits_32 ⟨Nat.zero_le _, Nat.zero_le _⟩ (fun r_32 u_32 H locs hw_32 hP hD hS => ?_)
            have hP : va_P (dC, dI) vwCl ((pW a cI P1) ++ ([(r, .inl (cI, 8, .inl Rw))])) H := hP
            have hD : va_D A ((pW a cI P1) ++ ([(r, .inl (cI, 8, .inl Rw))])) := hD
            rw [hw_32, let1_mk r_32] at hF
            refine qx_Vi (C := RX2) (As := [.int r_32]) (rest := [.int gn]) (ci := 2) (k0 := 0) (wr := ([(r, .inl (cI, 8, .inl Rw))])) (ws2 := fun u => (pW a cI u) ++ ([(r, .inl (cI, 8, .inl Rw))])) [0, 1, 2, 3] [4] [1, 2, 3, 4, 0] ⟨hx, hb, hml, hown, hts⟩ (c_X2_runBall l dC dI a cI H.size P1 r_32 (i1 : inB (Psz P1) 6)) (cwV 1 hts gX2_playHits_X2_runBall rfl rfl rfl (by decide +kernel) ⟨Nat.le_of_ble_eq_true rfl, Nat.le_of_ble_eq_true rfl⟩) (hK.sub [0] rfl) hK hP hD hS hA hN rfl rfl (by decide) (by decide) (by decide) (by decide) (fun _ => rfl) rfl rfl rfl rfl hl.1 rfl (Nat.le_of_ble_eq_true rfl) dX2_playHits_35 ⟨Nat.zero_le _, Nat.zero_le _⟩ (fun r_35 u_35 H locs hw_35 hP hD hS => ?_)
            obtain ⟨P_35, rfl⟩ : ∃ z, z = u_35 := ⟨_, rfl⟩
            have hP : va_P (dC, dI) vwCl ((pW a cI P_35) ++ ([(r, .inl (cI, 8, .inl Rw))])) H := hP
            have hD : va_D A ((pW a cI P_35) ++ ([(r, .inl (cI, 8, .inl Rw))])) := hD
            have a_35 := runBall_at hw_35
            rw [hw_35, let2_mk r_35 P_35] at hF
            refine lv_iadd hx hb dX2_playHits_38 ?_
            refine lv_istore_n (lv' := [(3, .int (gn + r_35)), (4, .int (nI k)), (0, .ref (a 0)), (1, .ref r), (2, .int (nI n))]) hx hb dX2_playHits_39 rfl hl (by decide) rfl (fun ls hl => ?_)
            refine lv_iinc (v := nI (k + 1)) (lv' := [(4, .int (nI (k + 1))), (3, .int (gn + r_35)), (0, .ref (a 0)), (1, .ref r), (2, .int (nI n))]) hx hb dX2_playHits_40 hl (k := 1) rfl (qn_inc (c := 1) rfl (by omega)) (by decide) rfl (fun ls hl => ?_)
            refine lv_goto (tgt := 5) hx hb dX2_playHits_43 (by decide) ?_
            exact ih_5 (k + 1) (gn + r_35) P_35 H locs (by omega) (by rw [show Psz P_35 = Psz P1 from a_35.1]; exact (i1 : inB (Psz P1) 6)) (by omega) hP hD hS ls (lv_sub hl [0, 1, 2, 3, 4] rfl) hF
  exact L_5 (n + 1) 0 (nI 0) P s.heap [] (by omega) (pz : inB (Psz P) 6) (by omega) hP hD hS ls (lv_sub hl [0, 1, 2, 3, 4] rfl) hF
theorem join_at {P P' : pS} {k lg r : Int32} (e : F_X2_join P k lg = (r, P')) (h : inB (Psz P) 6) : inB (Psz P') 6 ∧ Pbo P' = Pbo P ∧ Ppt P' = Ppt P ∧ Pbl P' = Pbl P := by
  unfold F_X2_join at e
  split at e
  · split at e
    · rw [← (Prod.mk.inj e).2]; exact ⟨inB_nI (by omega) (by decide), rfl, rfl, rfl⟩
    · rw [← (Prod.mk.inj e).2]; exact ⟨inB_nI (by omega) (by decide), rfl, rfl, rfl⟩
  · rw [← (Prod.mk.inj e).2]; exact ⟨h, rfl, rfl, rfl⟩
def F_X2_lineUp_L18 : Nat → (pS) → (Nat → Int32) → (Nat) → (pS) → (Nat) × (pS)
  | 0, _, _, k, P1 => (k, P1)
  | n_18 + 1, O, Od, k, P1 => if tN (Psz O) ≤ k then (k, P1) else (if 6 ≤ k then (k, P1) else (if (F_X5_within (Od k) (nI 0) ((nI (tN (Psz O))) - (nI 1))) = true then let2 (F_X2_join P1 ((Pkd O) (tN (Od k))) ((Plg O) (tN (Od k)))) (fun r_67 P_67 => F_X2_lineUp_L18 n_18 O Od (k + 1) P_67) else F_X2_lineUp_L18 n_18 O Od (k + 1) P1))
def F_X2_lineUp (P : pS) (O : pS) (Od : Nat → Int32) : (pS) := let1 (F_X2_begin P (Pbo O)) (fun P_5 => let2 (F_X2_lineUp_L18 7 O Od 0 ((Pbo P_5, Psz P_5, Pkd P_5, Plg P_5, Pwh P_5, Pnx P_5, Ppt P_5, Pbl O))) (fun k P1 => P1))
set_option maxHeartbeats 4000000 in
set_option maxRecDepth 100000 in
theorem c_X2_lineUp (l : Launch) (dC : Nat → ClassId) (dI : Nat → Nat → Nat) (a : Nat → Nat) (b : Nat → Nat) (r : Nat) (cI : ClassId) (sz : Nat) (P : pS) (O : pS) (Od : Nat → Int32) (po : inB (Psz O) 6) : Met l yX2_lineUp wsX2_lineUp { frames := 1, cells := 0, slots := 0, locals := 23 } (xPc (dC, dI) vwCl (xT cI) ((pW a cI P) ++ (pW b cI O) ++ ([(r, .inl (cI, 6, .inl Od))])) sz [.ref (a 0), .ref (b 0), .ref r]) (va_Qv (fun (u : (pS)) => F_X2_lineUp P O Od = u) (mB (dC, dI) vwCl (xT cI) (va_A ((pW a cI P) ++ (pW b cI O) ++ ([(r, .inl (cI, 6, .inl Od))])) sz) (fun u => (pW a cI u) ++ (pW b cI O) ++ ([(r, .inl (cI, 6, .inl Od))]))) (va_A ((pW a cI P) ++ (pW b cI O) ++ ([(r, .inl (cI, 6, .inl Od))])) sz)) 0 0 (va_A ((pW a cI P) ++ (pW b cI O) ++ ([(r, .inl (cI, 6, .inl Od))])) sz) := by
  refine Met.ofW (cc := cX2_lineUp) (maxL := 5) (ret := none) (by decide) rfl ?_
  intro p e s m args below meth c s₁ B hml hv
  obtain ⟨rfl, hsz, hP, hK, hD0, hN⟩ := hv
  have hx := B.exec
  have hb := B.bytes
  have hr := B.returns
  have hts := atoms_spec (ws := wsX2_lineUp) B.pre
  have hown : s.vm.findClass RX2 = some m.cls := findClass_of_methodNamed B.named
  have hlocks := B.notSynchronized
  subst hsz
  have hD := hD0.self (sz := s.heap.size)
  generalize hAe : va_A ((pW a cI P) ++ (pW b cI O) ++ ([(r, .inl (cI, 6, .inl Od))])) s.heap.size = A at hD ⊢
  have hA : ∀ q : Nat, s.heap.size ≤ q → A q := fun q h => by rw [← hAe]; exact Or.inr h
  have hS : va_S A s.heap s.heap [] := va_S.rf
  have hin2 : ∀ w ∈ wsX20, w ∈ wsX2_lineUp := by decide +kernel
  have lk9 := hts (.fieldLink RX2 9 "PostRounders$Play" "kind" "[I") (by decide +kernel)
  have lk15 := hts (.fieldLink RX2 15 "PostRounders$Play" "legs" "[I") (by decide +kernel)
  have lk25 := hts (.fieldLink RX2 25 "PostRounders$Play" "bowler" "I") (by decide +kernel)
  have lk28 := hts (.fieldLink RX2 28 "PostRounders$Play" "size" "I") (by decide +kernel)
  have lk34 := hts (.fieldLink RX2 34 "PostRounders$Play" "balls" "I") (by decide +kernel)
  have hN47 := xN_47 hN
  have hl := lv_entry ([.ref (a 0), .ref (b 0), .ref r]) (n := 5) (Nat.le_of_ble_eq_true rfl)
  rw [lg_entry_eq]
  generalize (lg_sl ([.ref (a 0), .ref (b 0), .ref r]) ++ List.replicate (5 - (lg_sl ([.ref (a 0), .ref (b 0), .ref r])).length) Slot.unset).toArray = ls at hl ⊢
  have hl : lv_has ls 5 [(0, .ref (a 0)), (1, .ref (b 0)), (2, .ref r)] := hl
  obtain ⟨OUT, hO⟩ : ∃ z, z = F_X2_lineUp P O Od := ⟨_, rfl⟩
  have hF := hO
  unfold F_X2_lineUp at hF
  have e_po := tN_eq po.1
  have b_po := po.2
  refine lv_aload_n hx hb dX2_lineUp_0 rfl (lv_at hl 0 rfl) ?_
  refine lv_aload_n hx hb dX2_lineUp_1 rfl (lv_at hl 1 rfl) ?_
  refine va_get (D := (dC, dI)) (ci := 2) (v := .int (Pbo O)) (C := RX2) (T := TX2) (N := 8) hx hb hts hin2 hown hK hP 4 rfl rfl 0 (by decide) lk25 (fun _ h9 => h9) rfl dX2_lineUp_2 ?_
  refine qx_Vv (C := RX2) (As := [.int (Pbo O)]) (rest := []) (ci := 2) (k0 := 0) (wr := (pW b cI O) ++ ([(r, .inl (cI, 6, .inl Od))])) (ws2 := fun u => (pW a cI u) ++ (pW b cI O) ++ ([(r, .inl (cI, 6, .inl Od))])) [0, 1, 2, 3] [4, 5, 6, 7, 8] [5, 6, 7, 8, 0, 1, 2, 3, 4] ⟨hx, hb, hml, hown, hts⟩ (c_X2_begin l dC dI a cI s.heap.size P (Pbo O) ) (cwV 1 hts gX2_lineUp_X2_begin rfl rfl rfl (by decide +kernel) ⟨Nat.le_of_ble_eq_true rfl, Nat.le_of_ble_eq_true rfl⟩) (hK.sub [0] rfl) hK hP hD hS hA hN rfl rfl (by decide) (by decide) (by decide) (by decide) (fun _ => rfl) rfl rfl rfl rfl hl.1 rfl (Nat.le_of_ble_eq_true rfl) dX2_lineUp_5 ⟨Nat.zero_le _, Nat.zero_le _⟩ (fun u_5 H locs hw_5 hP hD hS => ?_)
  obtain ⟨P_5, rfl⟩ : ∃ z, z = u_5 := ⟨_, rfl⟩
  have hP : va_P (dC, dI) vwCl ((pW a cI P_5) ++ (pW b cI O) ++ ([(r, .inl (cI, 6, .inl Od))])) H := hP
  have hD : va_D A ((pW a cI P_5) ++ (pW b cI O) ++ ([(r, .inl (cI, 6, .inl Od))])) := hD
  have v_5 : Psz P_5 = nI 0 := by rw [← hw_5]; rfl
  rw [hw_5, let1_mk P_5] at hF
  refine lv_aload_n hx hb dX2_lineUp_8 rfl (lv_at hl 0 rfl) ?_
  refine lv_aload_n hx hb dX2_lineUp_9 rfl (lv_at hl 1 rfl) ?_
  refine va_get (D := (dC, dI)) (ci := 2) (v := .int (Pbl O)) (C := RX2) (T := TX2) (N := 8) hx hb hts hin2 hown hK hP 4 rfl rfl 7 (by decide) lk34 (fun _ h9 => h9) rfl dX2_lineUp_10 ?_
  refine va_put (D := (dC, dI)) (ci := 2) (v := .int (Pbl O)) (ty := .int) (C := RX2) (T := TX2) (N := 8) hx hb hts hin2 tyX2 tyX2_ok nmX2 hown hK hP hD hS 0 rfl rfl 7 (by decide) lk34 (fun _ h9 => h9) rfl (by decide +kernel) rfl rfl (Nat.le_of_ble_eq_true rfl) dX2_lineUp_13 (fun H locs hP hD hS => ?_)
  have hP : va_P (dC, dI) vwCl ((pW a cI ((Pbo P_5, Psz P_5, Pkd P_5, Plg P_5, Pwh P_5, Pnx P_5, Ppt P_5, Pbl O))) ++ (pW b cI O) ++ ([(r, .inl (cI, 6, .inl Od))])) H := hP
  have hD : va_D A ((pW a cI ((Pbo P_5, Psz P_5, Pkd P_5, Plg P_5, Pwh P_5, Pnx P_5, Ppt P_5, Pbl O))) ++ (pW b cI O) ++ ([(r, .inl (cI, 6, .inl Od))])) := hD
  refine lv_iconst (v := nI 0) hx hb dX2_lineUp_16 (by decide) ?_
  refine lv_istore_n (lv' := [(3, .int (nI 0)), (0, .ref (a 0)), (1, .ref (b 0)), (2, .ref r)]) hx hb dX2_lineUp_17 rfl hl (by decide) rfl (fun ls hl => ?_)
  have L_18 : ∀ (n_18 : Nat) (k : Nat) (P1 : pS) (H : Heap) (locs : List Loc), k ≤ 6 → inB (Psz P1) 6 → 6 - k < n_18 → va_P (dC, dI) vwCl ((pW a cI P1) ++ (pW b cI O) ++ ([(r, .inl (cI, 6, .inl Od))])) H → va_D A ((pW a cI P1) ++ (pW b cI O) ++ ([(r, .inl (cI, 6, .inl Od))])) → va_S A s.heap H locs → ∀ (ls : Array Slot), lv_has ls 5 [(3, .int (nI k)), (0, .ref (a 0)), (1, .ref (b 0)), (2, .ref r)] → OUT = let2 (F_X2_lineUp_L18 n_18 O Od k P1) (fun k P1 => P1) → W p l e (headSpec wsX2_lineUp { frames := 1, cells := 0, slots := 0, locals := 23 }).room s m ([.ref (a 0), .ref (b 0), .ref r] : List Value).toArray below meth c H locs 0 0 (MQ below (va_Qv (fun (u : (pS)) => F_X2_lineUp P O Od = u) (mB (dC, dI) vwCl (xT cI) A (fun u => (pW a cI u) ++ (pW b cI O) ++ ([(r, .inl (cI, 6, .inl Od))]))) A) ([.ref (a 0), .ref (b 0), .ref r] : List Value).toArray s 0 0 A) (F0 m 18 ls []) := by
    intro n_18
    induction n_18 with
    | zero => intro k P1 H locs i0 i1 hmu; exact absurd hmu (Nat.not_lt_zero _)
    | succ n_18 ih_18 =>
      intro k P1 H locs i0 i1 hmu_18 hP hD hS ls hl hF
      rw [F_X2_lineUp_L18] at hF
      refine lv_iload_n hx hb dX2_lineUp_18 rfl (lv_at hl 0 rfl) ?_
      refine lv_aload_n hx hb dX2_lineUp_19 rfl (lv_at hl 2 rfl) ?_
      refine va_get (D := (dC, dI)) (ci := 2) (v := .int (Psz O)) (C := RX2) (T := TX2) (N := 8) hx hb hts hin2 hown hK hP 4 rfl rfl 1 (by decide) lk28 (fun _ h9 => h9) rfl dX2_lineUp_20 ?_
      refine qv_top (e_po) ?_
      refine qv_icmp_ge (tgt := 77) hx hb dX2_lineUp_23 (by decide) (by omega) (by omega) (fun c_23 => ?_) (fun c_23 => ?_)
      · rw [if_pos c_23] at hF
        rw [let2_mk (k : Nat) (P1 : pS)] at hF
        have hP9 : va_P (dC, dI) vwCl ((pW a cI P1) ++ (pW b cI O) ++ ([(r, .inl (cI, 6, .inl Od))])) H := hP
        exact W.vret hx hb hr (fun t ht hW => ⟨⟨(P1), rfl, hO.symm.trans hF, by rw [ht]; exact hP9, va_K.moved hW.alike hK, hD⟩, hS.F ht⟩) hS.2.2 dX2_lineUp_77
      · rw [if_neg c_23] at hF
        refine lv_iload_n hx hb dX2_lineUp_26 rfl (lv_at hl 0 rfl) ?_
        refine lv_aload_n hx hb dX2_lineUp_27 rfl (lv_at hl 3 rfl) ?_
        refine va_alen (v := nI 6) hx hb hK hP 8 0 rfl rfl rfl dX2_lineUp_28 ?_
        refine qv_icmp_ge (tgt := 77) hx hb dX2_lineUp_29 (by decide) (by omega) (by omega) (fun c_29 => ?_) (fun c_29 => ?_)
        · rw [if_pos c_29] at hF
          rw [let2_mk (k : Nat) (P1 : pS)] at hF
          have hP9 : va_P (dC, dI) vwCl ((pW a cI P1) ++ (pW b cI O) ++ ([(r, .inl (cI, 6, .inl Od))])) H := hP
          exact W.vret hx hb hr (fun t ht hW => ⟨⟨(P1), rfl, hO.symm.trans hF, by rw [ht]; exact hP9, va_K.moved hW.alike hK, hD⟩, hS.F ht⟩) hS.2.2 dX2_lineUp_77
        · rw [if_neg c_29] at hF
          refine lv_aload_n hx hb dX2_lineUp_32 rfl (lv_at hl 3 rfl) ?_
          refine lv_iload_n hx hb dX2_lineUp_33 rfl (lv_at hl 0 rfl) ?_
          refine qv_ald (v := Od k) hx hb hK hP 8 0 rfl rfl (by omega) (by decide) (rfl) dX2_lineUp_34 ?_
          refine lv_istore (lv' := [(4, .int (Od k)), (3, .int (nI k)), (0, .ref (a 0)), (1, .ref (b 0)), (2, .ref r)]) hx hb dX2_lineUp_35 hl (by decide) rfl (fun ls hl => ?_)
          refine lv_iload hx hb dX2_lineUp_37 (lv_at hl 0 rfl) ?_
          refine lv_iconst (v := nI 0) hx hb dX2_lineUp_39 (by decide) ?_
          refine lv_aload_n hx hb dX2_lineUp_40 rfl (lv_at hl 3 rfl) ?_
          refine va_get (D := (dC, dI)) (ci := 2) (v := .int (Psz O)) (C := RX2) (T := TX2) (N := 8) hx hb hts hin2 hown hK hP 4 rfl rfl 1 (by decide) lk28 (fun _ h9 => h9) rfl dX2_lineUp_41 ?_
          refine qv_top (e_po) ?_
          refine lv_iconst (v := nI 1) hx hb dX2_lineUp_44 (by decide) ?_
          refine lv_isub hx hb dX2_lineUp_45 ?_
          refine qc_SiN (As := [.int (Od k), .int (nI 0), .int ((nI (tN (Psz O))) - (nI 1))]) (rest := []) ⟨hx, hb, hml, hown, hts⟩ (c_X5_within l (Od k) (nI 0) ((nI (tN (Psz O))) - (nI 1))) (va_cnB 3 hts gX2_lineUp_X5_within_n47 rfl rfl rfl hN47 (hts (.initialized RX5) (by decide +kernel)) (by decide +kernel) ⟨Nat.le_of_ble_eq_true rfl, Nat.le_of_ble_eq_true rfl⟩) (hts (.static yX5_within) (by decide +kernel)) rfl hl.1 rfl (Nat.le_of_ble_eq_true rfl) dX2_lineUp_46 ⟨Nat.zero_le _, Nat.zero_le _⟩ (fun r_46 hw_46 => ?_)
          subst hw_46
          refine qv_zif_eq (tgt := 71) hx hb dX2_lineUp_49 (by decide) (fun c_49 => ?_) (fun c_49 => ?_)
          · rw [if_neg c_49] at hF
            refine lv_iinc (v := nI (k + 1)) (lv' := [(3, .int (nI (k + 1))), (4, .int (Od k)), (0, .ref (a 0)), (1, .ref (b 0)), (2, .ref r)]) hx hb dX2_lineUp_71 hl (k := 1) rfl (qn_inc (c := 1) rfl (by omega)) (by decide) rfl (fun ls hl => ?_)
            refine lv_goto (tgt := 18) hx hb dX2_lineUp_74 (by decide) ?_
            exact ih_18 (k + 1) P1 H locs (by omega) (i1 : inB (Psz P1) 6) (by omega) hP hD hS ls (lv_sub hl [0, 2, 3, 4] rfl) hF
          · rw [if_pos c_49] at hF
            obtain ⟨f_Odk, fb_Odk⟩ := within_sz (by omega) c_49
            have e_Odk := tN_eq f_Odk
            refine lv_aload_n hx hb dX2_lineUp_52 rfl (lv_at hl 2 rfl) ?_
            refine lv_aload_n hx hb dX2_lineUp_53 rfl (lv_at hl 3 rfl) ?_
            refine va_get (D := (dC, dI)) (ci := 2) (v := .ref (b 1)) (C := RX2) (T := TX2) (N := 8) hx hb hts hin2 hown hK hP 4 rfl rfl 2 (by decide) lk9 (fun _ h9 => h9) rfl dX2_lineUp_54 ?_
            refine lv_iload hx hb dX2_lineUp_57 (lv_at hl 0 rfl) ?_
            refine qv_top (e_Odk) ?_
            refine qv_ald (v := (Pkd O) (tN (Od k))) hx hb hK hP 5 0 rfl rfl (by omega) (by decide) (rfl) dX2_lineUp_59 ?_
            refine lv_aload_n hx hb dX2_lineUp_60 rfl (lv_at hl 3 rfl) ?_
            refine va_get (D := (dC, dI)) (ci := 2) (v := .ref (b 2)) (C := RX2) (T := TX2) (N := 8) hx hb hts hin2 hown hK hP 4 rfl rfl 3 (by decide) lk15 (fun _ h9 => h9) rfl dX2_lineUp_61 ?_
            refine lv_iload hx hb dX2_lineUp_64 (lv_at hl 0 rfl) ?_
            refine qv_top (e_Odk) ?_
            refine qv_ald (v := (Plg O) (tN (Od k))) hx hb hK hP 6 0 rfl rfl (by omega) (by decide) (rfl) dX2_lineUp_66 ?_
            refine qx_Vi (C := RX2) (As := [.int ((Pkd O) (tN (Od k))), .int ((Plg O) (tN (Od k)))]) (rest := []) (ci := 2) (k0 := 0) (wr := (pW b cI O) ++ ([(r, .inl (cI, 6, .inl Od))])) (ws2 := fun u => (pW a cI u) ++ (pW b cI O) ++ ([(r, .inl (cI, 6, .inl Od))])) [0, 1, 2, 3] [4, 5, 6, 7, 8] [5, 6, 7, 8, 0, 1, 2, 3, 4] ⟨hx, hb, hml, hown, hts⟩ (c_X2_join l dC dI a cI H.size P1 ((Pkd O) (tN (Od k))) ((Plg O) (tN (Od k))) (i1 : inB (Psz P1) 6)) (cwV 2 hts gX2_lineUp_X2_join rfl rfl rfl (by decide +kernel) ⟨Nat.le_of_ble_eq_true rfl, Nat.le_of_ble_eq_true rfl⟩) (hK.sub [0] rfl) hK hP hD hS hA hN rfl rfl (by decide) (by decide) (by decide) (by decide) (fun _ => rfl) rfl rfl rfl rfl hl.1 rfl (Nat.le_of_ble_eq_true rfl) dX2_lineUp_67 ⟨Nat.zero_le _, Nat.zero_le _⟩ (fun r_67 u_67 H locs hw_67 hP hD hS => ?_)
            obtain ⟨P_67, rfl⟩ : ∃ z, z = u_67 := ⟨_, rfl⟩
            have hP : va_P (dC, dI) vwCl ((pW a cI P_67) ++ (pW b cI O) ++ ([(r, .inl (cI, 6, .inl Od))])) H := hP
            have hD : va_D A ((pW a cI P_67) ++ (pW b cI O) ++ ([(r, .inl (cI, 6, .inl Od))])) := hD
            have a_67 := join_at hw_67 i1
            rw [hw_67, let2_mk r_67 P_67] at hF
            refine lv_pop hx hb dX2_lineUp_70 rfl ?_
            refine lv_iinc (v := nI (k + 1)) (lv' := [(3, .int (nI (k + 1))), (4, .int (Od k)), (0, .ref (a 0)), (1, .ref (b 0)), (2, .ref r)]) hx hb dX2_lineUp_71 hl (k := 1) rfl (qn_inc (c := 1) rfl (by omega)) (by decide) rfl (fun ls hl => ?_)
            refine lv_goto (tgt := 18) hx hb dX2_lineUp_74 (by decide) ?_
            exact ih_18 (k + 1) P_67 H locs (by omega) (a_67.1 : inB (Psz P_67) 6) (by omega) hP hD hS ls (lv_sub hl [0, 2, 3, 4] rfl) hF
  exact L_18 7 0 ((Pbo P_5, Psz P_5, Pkd P_5, Plg P_5, Pwh P_5, Pnx P_5, Ppt P_5, Pbl O)) H locs (by omega) (by rw [show Psz P_5 = nI 0 from v_5]; exact (inB_nI (by omega) (by decide) : inB (nI 0) 6)) (by omega) hP hD hS ls (lv_sub hl [0, 1, 2, 3] rfl) hF
