def F_X5_within (v : Int32) (lo : Int32) (hi : Int32) : Bool := if v < lo then false else (if hi < v then false else true)
set_option maxHeartbeats 4000000 in
set_option maxRecDepth 100000 in
theorem c_X5_within (l : Launch) (v : Int32) (lo : Int32) (hi : Int32) : Met l yX5_within wsX5_within { frames := 0, cells := 0, slots := 0, locals := 0 } (va_Pc [.int v, .int lo, .int hi] (fun _ => True)) (vp_Si (fun r => r = if F_X5_within v lo hi = true then 1 else 0)) 0 0 (fun _ => False) := by
  refine Met.ofW (cc := cX5_within) (maxL := 3) (ret := (some .boolean)) (by decide) rfl ?_
  intro p e s m args below meth c s₁ B hml hv
  obtain ⟨rfl, -⟩ := hv
  have hx := B.exec
  have hb := B.bytes
  have hr := B.returns
  have hts := atoms_spec (ws := wsX5_within) B.pre
  have hown : s.vm.findClass RX5 = some m.cls := findClass_of_methodNamed B.named
  have hlocks := B.notSynchronized
  have hl := lv_entry ([.int v, .int lo, .int hi]) (n := 3) (Nat.le_of_ble_eq_true rfl)
  rw [lg_entry_eq]
  generalize (lg_sl ([.int v, .int lo, .int hi]) ++ List.replicate (3 - (lg_sl ([.int v, .int lo, .int hi])).length) Slot.unset).toArray = ls at hl ⊢
  have hl : lv_has ls 3 [(0, .int v), (1, .int lo), (2, .int hi)] := hl
  obtain ⟨OUT, hO⟩ : ∃ z, z = F_X5_within v lo hi := ⟨_, rfl⟩
  have hF := hO
  unfold F_X5_within at hF
  refine lv_iload_n hx hb dX5_within_0 rfl (lv_at hl 0 rfl) ?_
  refine lv_iload_n hx hb dX5_within_1 rfl (lv_at hl 1 rfl) ?_
  refine lv_icmp_lt (tgt := 14) hx hb dX5_within_2 (by decide) (fun c_2 => ?_) (fun c_2 => ?_)
  · rw [if_pos c_2] at hF
    refine lv_iconst (v := nI 0) hx hb dX5_within_14 (by decide) ?_
    have hq : (nI 0 : Int32) = if F_X5_within v lo hi = true then 1 else 0 := by rw [← hO, hF]; rfl
    exact W.zret (v := nI 0) hx hb hr (by rfl) (fun t ht hW => ⟨_, rfl, hq, ht⟩) (fun _ h => by cases h) dX5_within_15
  · rw [if_neg c_2] at hF
    refine lv_iload_n hx hb dX5_within_5 rfl (lv_at hl 0 rfl) ?_
    refine lv_iload_n hx hb dX5_within_6 rfl (lv_at hl 2 rfl) ?_
    refine lv_icmp_gt (tgt := 14) hx hb dX5_within_7 (by decide) (fun c_7 => ?_) (fun c_7 => ?_)
    · rw [if_pos c_7] at hF
      refine lv_iconst (v := nI 0) hx hb dX5_within_14 (by decide) ?_
      have hq : (nI 0 : Int32) = if F_X5_within v lo hi = true then 1 else 0 := by rw [← hO, hF]; rfl
      exact W.zret (v := nI 0) hx hb hr (by rfl) (fun t ht hW => ⟨_, rfl, hq, ht⟩) (fun _ h => by cases h) dX5_within_15
    · rw [if_neg c_7] at hF
      refine lv_iconst (v := nI 1) hx hb dX5_within_10 (by decide) ?_
      refine lv_goto (tgt := 15) hx hb dX5_within_11 (by decide) ?_
      have hq : (nI 1 : Int32) = if F_X5_within v lo hi = true then 1 else 0 := by rw [← hO, hF]; rfl
      exact W.zret (v := nI 1) hx hb hr (by rfl) (fun t ht hW => ⟨_, rfl, hq, ht⟩) (fun _ h => by cases h) dX5_within_15
def F_X5_isKind (k : Int32) : Bool := (F_X5_within k (nI 0) (nI 5))
set_option maxHeartbeats 4000000 in
set_option maxRecDepth 100000 in
theorem c_X5_isKind (l : Launch) (k : Int32) : Met l yX5_isKind wsX5_isKind { frames := 1, cells := 0, slots := 0, locals := 22 } (va_Pc [.int k] (fun _ => True)) (vp_Si (fun r => r = if F_X5_isKind k = true then 1 else 0)) 0 0 (fun _ => False) := by
  refine Met.ofW (cc := cX5_isKind) (maxL := 1) (ret := (some .boolean)) (by decide) rfl ?_
  intro p e s m args below meth c s₁ B hml hv
  obtain ⟨rfl, -⟩ := hv
  have hx := B.exec
  have hb := B.bytes
  have hr := B.returns
  have hts := atoms_spec (ws := wsX5_isKind) B.pre
  have hown : s.vm.findClass RX5 = some m.cls := findClass_of_methodNamed B.named
  have hlocks := B.notSynchronized
  have hl := lv_entry ([.int k]) (n := 1) (Nat.le_of_ble_eq_true rfl)
  rw [lg_entry_eq]
  generalize (lg_sl ([.int k]) ++ List.replicate (1 - (lg_sl ([.int k])).length) Slot.unset).toArray = ls at hl ⊢
  have hl : lv_has ls 1 [(0, .int k)] := hl
  obtain ⟨OUT, hO⟩ : ∃ z, z = F_X5_isKind k := ⟨_, rfl⟩
  have hF := hO
  unfold F_X5_isKind at hF
  refine lv_iload_n hx hb dX5_isKind_0 rfl (lv_at hl 0 rfl) ?_
  refine lv_iconst (v := nI 0) hx hb dX5_isKind_1 (by decide) ?_
  refine lv_iconst (v := nI 5) hx hb dX5_isKind_2 (by decide) ?_
  refine qc_Si (As := [.int k, .int (nI 0), .int (nI 5)]) (rest := []) ⟨hx, hb, hml, hown, hts⟩ (c_X5_within l k (nI 0) (nI 5)) (va_cwS 3 hts gX5_isKind_X5_within rfl rfl rfl (by decide +kernel) ⟨Nat.le_of_ble_eq_true rfl, Nat.le_of_ble_eq_true rfl⟩) rfl hl.1 rfl (Nat.le_of_ble_eq_true rfl) dX5_isKind_3 ⟨Nat.zero_le _, Nat.zero_le _⟩ (fun r_3 hw_3 => ?_)
  subst hw_3
  have hq : (if (F_X5_within k (nI 0) (nI 5)) = true then 1 else 0 : Int32) = if F_X5_isKind k = true then 1 else 0 := by rw [← hO, hF]; rfl
  exact W.zret (v := if (F_X5_within k (nI 0) (nI 5)) = true then 1 else 0) hx hb hr (zb_nar _) (fun t ht hW => ⟨_, rfl, hq, ht⟩) (fun _ h => by cases h) dX5_isKind_6
def F_X5_isHit (h : Int32) : Bool := (F_X5_within h (nI 0) (nI 9))
set_option maxHeartbeats 4000000 in
set_option maxRecDepth 100000 in
theorem c_X5_isHit (l : Launch) (h : Int32) : Met l yX5_isHit wsX5_isHit { frames := 1, cells := 0, slots := 0, locals := 22 } (va_Pc [.int h] (fun _ => True)) (vp_Si (fun r => r = if F_X5_isHit h = true then 1 else 0)) 0 0 (fun _ => False) := by
  refine Met.ofW (cc := cX5_isHit) (maxL := 1) (ret := (some .boolean)) (by decide) rfl ?_
  intro p e s m args below meth c s₁ B hml hv
  obtain ⟨rfl, -⟩ := hv
  have hx := B.exec
  have hb := B.bytes
  have hr := B.returns
  have hts := atoms_spec (ws := wsX5_isHit) B.pre
  have hown : s.vm.findClass RX5 = some m.cls := findClass_of_methodNamed B.named
  have hlocks := B.notSynchronized
  have hl := lv_entry ([.int h]) (n := 1) (Nat.le_of_ble_eq_true rfl)
  rw [lg_entry_eq]
  generalize (lg_sl ([.int h]) ++ List.replicate (1 - (lg_sl ([.int h])).length) Slot.unset).toArray = ls at hl ⊢
  have hl : lv_has ls 1 [(0, .int h)] := hl
  obtain ⟨OUT, hO⟩ : ∃ z, z = F_X5_isHit h := ⟨_, rfl⟩
  have hF := hO
  unfold F_X5_isHit at hF
  refine lv_iload_n hx hb dX5_isHit_0 rfl (lv_at hl 0 rfl) ?_
  refine lv_iconst (v := nI 0) hx hb dX5_isHit_1 (by decide) ?_
  refine lv_bipush (v := nI 9) hx hb dX5_isHit_2 (by decide) ?_
  refine qc_Si (As := [.int h, .int (nI 0), .int (nI 9)]) (rest := []) ⟨hx, hb, hml, hown, hts⟩ (c_X5_within l h (nI 0) (nI 9)) (va_cwS 3 hts gX5_isHit_X5_within rfl rfl rfl (by decide +kernel) ⟨Nat.le_of_ble_eq_true rfl, Nat.le_of_ble_eq_true rfl⟩) rfl hl.1 rfl (Nat.le_of_ble_eq_true rfl) dX5_isHit_4 ⟨Nat.zero_le _, Nat.zero_le _⟩ (fun r_4 hw_4 => ?_)
  subst hw_4
  have hq : (if (F_X5_within h (nI 0) (nI 9)) = true then 1 else 0 : Int32) = if F_X5_isHit h = true then 1 else 0 := by rw [← hO, hF]; rfl
  exact W.zret (v := if (F_X5_within h (nI 0) (nI 9)) = true then 1 else 0) hx hb hr (zb_nar _) (fun t ht hW => ⟨_, rfl, hq, ht⟩) (fun _ h => by cases h) dX5_isHit_7
def F_X5_isImage (i : Int32) : Bool := (F_X5_within i (nI 0) (nI 1))
set_option maxHeartbeats 4000000 in
set_option maxRecDepth 100000 in
theorem c_X5_isImage (l : Launch) (i : Int32) : Met l yX5_isImage wsX5_isImage { frames := 1, cells := 0, slots := 0, locals := 22 } (va_Pc [.int i] (fun _ => True)) (vp_Si (fun r => r = if F_X5_isImage i = true then 1 else 0)) 0 0 (fun _ => False) := by
  refine Met.ofW (cc := cX5_isImage) (maxL := 1) (ret := (some .boolean)) (by decide) rfl ?_
  intro p e s m args below meth c s₁ B hml hv
  obtain ⟨rfl, -⟩ := hv
  have hx := B.exec
  have hb := B.bytes
  have hr := B.returns
  have hts := atoms_spec (ws := wsX5_isImage) B.pre
  have hown : s.vm.findClass RX5 = some m.cls := findClass_of_methodNamed B.named
  have hlocks := B.notSynchronized
  have hl := lv_entry ([.int i]) (n := 1) (Nat.le_of_ble_eq_true rfl)
  rw [lg_entry_eq]
  generalize (lg_sl ([.int i]) ++ List.replicate (1 - (lg_sl ([.int i])).length) Slot.unset).toArray = ls at hl ⊢
  have hl : lv_has ls 1 [(0, .int i)] := hl
  obtain ⟨OUT, hO⟩ : ∃ z, z = F_X5_isImage i := ⟨_, rfl⟩
  have hF := hO
  unfold F_X5_isImage at hF
  refine lv_iload_n hx hb dX5_isImage_0 rfl (lv_at hl 0 rfl) ?_
  refine lv_iconst (v := nI 0) hx hb dX5_isImage_1 (by decide) ?_
  refine lv_iconst (v := nI 1) hx hb dX5_isImage_2 (by decide) ?_
  refine qc_Si (As := [.int i, .int (nI 0), .int (nI 1)]) (rest := []) ⟨hx, hb, hml, hown, hts⟩ (c_X5_within l i (nI 0) (nI 1)) (va_cwS 3 hts gX5_isImage_X5_within rfl rfl rfl (by decide +kernel) ⟨Nat.le_of_ble_eq_true rfl, Nat.le_of_ble_eq_true rfl⟩) rfl hl.1 rfl (Nat.le_of_ble_eq_true rfl) dX5_isImage_3 ⟨Nat.zero_le _, Nat.zero_le _⟩ (fun r_3 hw_3 => ?_)
  subst hw_3
  have hq : (if (F_X5_within i (nI 0) (nI 1)) = true then 1 else 0 : Int32) = if F_X5_isImage i = true then 1 else 0 := by rw [← hO, hF]; rfl
  exact W.zret (v := if (F_X5_within i (nI 0) (nI 1)) = true then 1 else 0) hx hb hr (zb_nar _) (fun t ht hW => ⟨_, rfl, hq, ht⟩) (fun _ h => by cases h) dX5_isImage_6
def F_X5_hitWorth (k : Int32) (h : Int32) (t : Int32) : Int32 := if (nI 0) < (h - (nI 1)) then (if (t - t / (nI 2) * (nI 2)) = 0 then (if k = nI 1 then h - (nI 1) else (if k = nI 2 then h else (if k = nI 3 then (if (t - t / (nI 4) * (nI 4)) = 0 then nI 0 else h) else (if k = nI 4 then (if h < (nI 7) then h - (nI 1) else (h - (nI 1)) - (nI 2)) else (if k = nI 5 then (if (t / (nI 20)) < (nI 3) then h + (t / (nI 20)) else h + (nI 3)) else h))))) else (if k = nI 1 then h - (nI 1) else (if k = nI 2 then h + (nI 1) else (if k = nI 3 then (if (t - t / (nI 4) * (nI 4)) = 0 then nI 0 else h) else (if k = nI 4 then (if h < (nI 7) then h - (nI 1) else (h - (nI 1)) - (nI 2)) else (if k = nI 5 then (if (t / (nI 20)) < (nI 3) then (h + (nI 1)) + (t / (nI 20)) else (h + (nI 1)) + (nI 3)) else h)))))) else (if (t - t / (nI 2) * (nI 2)) = 0 then (if k = nI 1 then nI 0 else (if k = nI 2 then h else (if k = nI 3 then (if (t - t / (nI 4) * (nI 4)) = 0 then nI 0 else h) else (if k = nI 4 then (if h < (nI 7) then nI 0 else (nI 0) - (nI 2)) else (if k = nI 5 then (if (t / (nI 20)) < (nI 3) then h + (t / (nI 20)) else h + (nI 3)) else h))))) else (if k = nI 1 then nI 0 else (if k = nI 2 then h + (nI 1) else (if k = nI 3 then (if (t - t / (nI 4) * (nI 4)) = 0 then nI 0 else h) else (if k = nI 4 then (if h < (nI 7) then nI 0 else (nI 0) - (nI 2)) else (if k = nI 5 then (if (t / (nI 20)) < (nI 3) then (h + (nI 1)) + (t / (nI 20)) else (h + (nI 1)) + (nI 3)) else h))))))
set_option maxHeartbeats 4000000 in
set_option maxRecDepth 100000 in
theorem c_X5_hitWorth (l : Launch) (k : Int32) (h : Int32) (t : Int32) : Met l yX5_hitWorth wsX5_hitWorth { frames := 1, cells := 0, slots := 0, locals := 14 } (va_Pc [.int k, .int h, .int t] (fun _ => True)) (vp_Si (fun r => F_X5_hitWorth k h t = r)) 0 0 (fun _ => False) := by
  refine Met.ofW (cc := cX5_hitWorth) (maxL := 5) (ret := (some .int)) (by decide) rfl ?_
  intro p e s m args below meth c s₁ B hml hv
  obtain ⟨rfl, -⟩ := hv
  have hx := B.exec
  have hb := B.bytes
  have hr := B.returns
  have hts := atoms_spec (ws := wsX5_hitWorth) B.pre
  have hown : s.vm.findClass RX5 = some m.cls := findClass_of_methodNamed B.named
  have hlocks := B.notSynchronized
  have hl := lv_entry ([.int k, .int h, .int t]) (n := 5) (Nat.le_of_ble_eq_true rfl)
  rw [lg_entry_eq]
  generalize (lg_sl ([.int k, .int h, .int t]) ++ List.replicate (5 - (lg_sl ([.int k, .int h, .int t])).length) Slot.unset).toArray = ls at hl ⊢
  have hl : lv_has ls 5 [(0, .int k), (1, .int h), (2, .int t)] := hl
  obtain ⟨OUT, hO⟩ : ∃ z, z = F_X5_hitWorth k h t := ⟨_, rfl⟩
  have hF := hO
  unfold F_X5_hitWorth at hF
  refine lv_iconst (v := nI 0) hx hb dX5_hitWorth_0 (by decide) ?_
  refine lv_iload_n hx hb dX5_hitWorth_1 rfl (lv_at hl 1 rfl) ?_
  refine lv_iconst (v := nI 1) hx hb dX5_hitWorth_2 (by decide) ?_
  refine lv_isub hx hb dX5_hitWorth_3 ?_
  refine va_mmax hx hb (hml.trans hl.1.symm) hown (hts (.methodLink RX5 168 Lib.Math.max.name) (by decide +kernel)) (hts (.static Lib.Math.max.name) (by decide +kernel)) (hts (.initialized "java/lang/Math") (by decide +kernel)) (hts (.code Lib.Math.max.name Lib.Math.max.code 2 (some .int)) (by decide +kernel)) (Nat.le_of_ble_eq_true rfl) (Nat.le_of_ble_eq_true rfl) (Nat.zero_le _) (Nat.zero_le _) dX5_hitWorth_4 ?_
  by_cases c_4 : (nI 0) < (h - (nI 1))
  · rw [if_pos c_4] at hF ⊢
    refine lv_istore_n (lv' := [(3, .int (h - (nI 1))), (0, .int k), (1, .int h), (2, .int t)]) hx hb dX5_hitWorth_7 rfl hl (by decide) rfl (fun ls hl => ?_)
    refine lv_iload_n hx hb dX5_hitWorth_8 rfl (lv_at hl 3 rfl) ?_
    refine lv_iconst (v := nI 2) hx hb dX5_hitWorth_9 (by decide) ?_
    refine lv_irem hx hb dX5_hitWorth_10 (by decide) ?_
    refine lv_if_ne (tgt := 18) hx hb dX5_hitWorth_11 (by decide) (fun c_11 => ?_) (fun c_11 => ?_)
    · rw [if_neg c_11] at hF
      refine lv_iload_n hx hb dX5_hitWorth_18 rfl (lv_at hl 2 rfl) ?_
      refine lv_iconst (v := nI 1) hx hb dX5_hitWorth_19 (by decide) ?_
      refine lv_iadd hx hb dX5_hitWorth_20 ?_
      refine lv_istore (lv' := [(4, .int (h + (nI 1))), (3, .int (h - (nI 1))), (0, .int k), (1, .int h), (2, .int t)]) hx hb dX5_hitWorth_21 hl (by decide) rfl (fun ls hl => ?_)
      refine lv_iload_n hx hb dX5_hitWorth_23 rfl (lv_at hl 2 rfl) ?_
      by_cases c_24_1 : k = nI 1
      · rw [if_pos c_24_1] at hF
        refine lv_tableIn (off := 36) (tgt := 60) hx hb dX5_hitWorth_24 (by rw [c_24_1]; decide) (by rw [c_24_1]; decide) (by rw [c_24_1]; rfl) (by decide) ?_
        refine lv_iload_n hx hb dX5_hitWorth_60 rfl (lv_at hl 1 rfl) ?_
        exact W.iret (v := h - (nI 1)) hx hb hr (fun t ht hW => ⟨_, rfl, hO.symm.trans hF, ht⟩) (fun _ h => by cases h) dX5_hitWorth_61
      · rw [if_neg c_24_1] at hF
        by_cases c_24_2 : k = nI 2
        · rw [if_pos c_24_2] at hF
          refine lv_tableIn (off := 38) (tgt := 62) hx hb dX5_hitWorth_24 (by rw [c_24_2]; decide) (by rw [c_24_2]; decide) (by rw [c_24_2]; rfl) (by decide) ?_
          refine lv_iload hx hb dX5_hitWorth_62 (lv_at hl 0 rfl) ?_
          exact W.iret (v := h + (nI 1)) hx hb hr (fun t ht hW => ⟨_, rfl, hO.symm.trans hF, ht⟩) (fun _ h => by cases h) dX5_hitWorth_64
        · rw [if_neg c_24_2] at hF
          by_cases c_24_3 : k = nI 3
          · rw [if_pos c_24_3] at hF
            refine lv_tableIn (off := 41) (tgt := 65) hx hb dX5_hitWorth_24 (by rw [c_24_3]; decide) (by rw [c_24_3]; decide) (by rw [c_24_3]; rfl) (by decide) ?_
            refine lv_iload_n hx hb dX5_hitWorth_65 rfl (lv_at hl 4 rfl) ?_
            refine lv_iconst (v := nI 4) hx hb dX5_hitWorth_66 (by decide) ?_
            refine lv_irem hx hb dX5_hitWorth_67 (by decide) ?_
            refine lv_if_ne (tgt := 75) hx hb dX5_hitWorth_68 (by decide) (fun c_68 => ?_) (fun c_68 => ?_)
            · rw [if_neg c_68] at hF
              refine lv_iload_n hx hb dX5_hitWorth_75 rfl (lv_at hl 3 rfl) ?_
              exact W.iret (v := h) hx hb hr (fun t ht hW => ⟨_, rfl, hO.symm.trans hF, ht⟩) (fun _ h => by cases h) dX5_hitWorth_76
            · rw [if_pos c_68] at hF
              refine lv_iconst (v := nI 0) hx hb dX5_hitWorth_71 (by decide) ?_
              refine lv_goto (tgt := 76) hx hb dX5_hitWorth_72 (by decide) ?_
              exact W.iret (v := nI 0) hx hb hr (fun t ht hW => ⟨_, rfl, hO.symm.trans hF, ht⟩) (fun _ h => by cases h) dX5_hitWorth_76
          · rw [if_neg c_24_3] at hF
            by_cases c_24_4 : k = nI 4
            · rw [if_pos c_24_4] at hF
              refine lv_tableIn (off := 53) (tgt := 77) hx hb dX5_hitWorth_24 (by rw [c_24_4]; decide) (by rw [c_24_4]; decide) (by rw [c_24_4]; rfl) (by decide) ?_
              refine lv_iload_n hx hb dX5_hitWorth_77 rfl (lv_at hl 3 rfl) ?_
              refine lv_bipush (v := nI 7) hx hb dX5_hitWorth_78 (by decide) ?_
              refine lv_icmp_lt (tgt := 89) hx hb dX5_hitWorth_80 (by decide) (fun c_80 => ?_) (fun c_80 => ?_)
              · rw [if_pos c_80] at hF
                refine lv_iload_n hx hb dX5_hitWorth_89 rfl (lv_at hl 1 rfl) ?_
                exact W.iret (v := h - (nI 1)) hx hb hr (fun t ht hW => ⟨_, rfl, hO.symm.trans hF, ht⟩) (fun _ h => by cases h) dX5_hitWorth_90
              · rw [if_neg c_80] at hF
                refine lv_iload_n hx hb dX5_hitWorth_83 rfl (lv_at hl 1 rfl) ?_
                refine lv_iconst (v := nI 2) hx hb dX5_hitWorth_84 (by decide) ?_
                refine lv_isub hx hb dX5_hitWorth_85 ?_
                refine lv_goto (tgt := 90) hx hb dX5_hitWorth_86 (by decide) ?_
                exact W.iret (v := (h - (nI 1)) - (nI 2)) hx hb hr (fun t ht hW => ⟨_, rfl, hO.symm.trans hF, ht⟩) (fun _ h => by cases h) dX5_hitWorth_90
            · rw [if_neg c_24_4] at hF
              by_cases c_24_5 : k = nI 5
              · rw [if_pos c_24_5] at hF
                refine lv_tableIn (off := 67) (tgt := 91) hx hb dX5_hitWorth_24 (by rw [c_24_5]; decide) (by rw [c_24_5]; decide) (by rw [c_24_5]; rfl) (by decide) ?_
                refine lv_iload hx hb dX5_hitWorth_91 (lv_at hl 0 rfl) ?_
                refine lv_iconst (v := nI 3) hx hb dX5_hitWorth_93 (by decide) ?_
                refine lv_iload_n hx hb dX5_hitWorth_94 rfl (lv_at hl 4 rfl) ?_
                refine lv_bipush (v := nI 20) hx hb dX5_hitWorth_95 (by decide) ?_
                refine lv_idiv hx hb dX5_hitWorth_97 (by decide) ?_
                refine va_mmin hx hb (hml.trans hl.1.symm) hown (hts (.methodLink RX5 136 Lib.Math.min.name) (by decide +kernel)) (hts (.static Lib.Math.min.name) (by decide +kernel)) (hts (.initialized "java/lang/Math") (by decide +kernel)) (hts (.code Lib.Math.min.name Lib.Math.min.code 2 (some .int)) (by decide +kernel)) (Nat.le_of_ble_eq_true rfl) (Nat.le_of_ble_eq_true rfl) (Nat.zero_le _) (Nat.zero_le _) dX5_hitWorth_98 ?_
                by_cases c_98 : (t / (nI 20)) < (nI 3)
                · rw [if_pos c_98] at hF ⊢
                  refine lv_iadd hx hb dX5_hitWorth_101 ?_
                  exact W.iret (v := (h + (nI 1)) + (t / (nI 20))) hx hb hr (fun t ht hW => ⟨_, rfl, hO.symm.trans hF, ht⟩) (fun _ h => by cases h) dX5_hitWorth_102
                · rw [if_neg c_98] at hF ⊢
                  refine lv_iadd hx hb dX5_hitWorth_101 ?_
                  exact W.iret (v := (h + (nI 1)) + (nI 3)) hx hb hr (fun t ht hW => ⟨_, rfl, hO.symm.trans hF, ht⟩) (fun _ h => by cases h) dX5_hitWorth_102
              · rw [if_neg c_24_5] at hF
                have e_24_1 := qn_ne c_24_1 (by decide)
                have e_24_2 := qn_ne c_24_2 (by decide)
                have e_24_3 := qn_ne c_24_3 (by decide)
                have e_24_4 := qn_ne c_24_4 (by decide)
                have e_24_5 := qn_ne c_24_5 (by decide)
                refine lv_tableOut (tgt := 103) hx hb dX5_hitWorth_24 (by omega) (by decide) ?_
                refine lv_iload_n hx hb dX5_hitWorth_103 rfl (lv_at hl 3 rfl) ?_
                exact W.iret (v := h) hx hb hr (fun t ht hW => ⟨_, rfl, hO.symm.trans hF, ht⟩) (fun _ h => by cases h) dX5_hitWorth_104
    · rw [if_pos c_11] at hF
      refine lv_iload_n hx hb dX5_hitWorth_14 rfl (lv_at hl 2 rfl) ?_
      refine lv_goto (tgt := 21) hx hb dX5_hitWorth_15 (by decide) ?_
      refine lv_istore (lv' := [(4, .int h), (3, .int (h - (nI 1))), (0, .int k), (1, .int h), (2, .int t)]) hx hb dX5_hitWorth_21 hl (by decide) rfl (fun ls hl => ?_)
      refine lv_iload_n hx hb dX5_hitWorth_23 rfl (lv_at hl 2 rfl) ?_
      by_cases c_24_1 : k = nI 1
      · rw [if_pos c_24_1] at hF
        refine lv_tableIn (off := 36) (tgt := 60) hx hb dX5_hitWorth_24 (by rw [c_24_1]; decide) (by rw [c_24_1]; decide) (by rw [c_24_1]; rfl) (by decide) ?_
        refine lv_iload_n hx hb dX5_hitWorth_60 rfl (lv_at hl 1 rfl) ?_
        exact W.iret (v := h - (nI 1)) hx hb hr (fun t ht hW => ⟨_, rfl, hO.symm.trans hF, ht⟩) (fun _ h => by cases h) dX5_hitWorth_61
      · rw [if_neg c_24_1] at hF
        by_cases c_24_2 : k = nI 2
        · rw [if_pos c_24_2] at hF
          refine lv_tableIn (off := 38) (tgt := 62) hx hb dX5_hitWorth_24 (by rw [c_24_2]; decide) (by rw [c_24_2]; decide) (by rw [c_24_2]; rfl) (by decide) ?_
          refine lv_iload hx hb dX5_hitWorth_62 (lv_at hl 0 rfl) ?_
          exact W.iret (v := h) hx hb hr (fun t ht hW => ⟨_, rfl, hO.symm.trans hF, ht⟩) (fun _ h => by cases h) dX5_hitWorth_64
        · rw [if_neg c_24_2] at hF
          by_cases c_24_3 : k = nI 3
          · rw [if_pos c_24_3] at hF
            refine lv_tableIn (off := 41) (tgt := 65) hx hb dX5_hitWorth_24 (by rw [c_24_3]; decide) (by rw [c_24_3]; decide) (by rw [c_24_3]; rfl) (by decide) ?_
            refine lv_iload_n hx hb dX5_hitWorth_65 rfl (lv_at hl 4 rfl) ?_
            refine lv_iconst (v := nI 4) hx hb dX5_hitWorth_66 (by decide) ?_
            refine lv_irem hx hb dX5_hitWorth_67 (by decide) ?_
            refine lv_if_ne (tgt := 75) hx hb dX5_hitWorth_68 (by decide) (fun c_68 => ?_) (fun c_68 => ?_)
            · rw [if_neg c_68] at hF
              refine lv_iload_n hx hb dX5_hitWorth_75 rfl (lv_at hl 3 rfl) ?_
              exact W.iret (v := h) hx hb hr (fun t ht hW => ⟨_, rfl, hO.symm.trans hF, ht⟩) (fun _ h => by cases h) dX5_hitWorth_76
            · rw [if_pos c_68] at hF
              refine lv_iconst (v := nI 0) hx hb dX5_hitWorth_71 (by decide) ?_
              refine lv_goto (tgt := 76) hx hb dX5_hitWorth_72 (by decide) ?_
              exact W.iret (v := nI 0) hx hb hr (fun t ht hW => ⟨_, rfl, hO.symm.trans hF, ht⟩) (fun _ h => by cases h) dX5_hitWorth_76
          · rw [if_neg c_24_3] at hF
            by_cases c_24_4 : k = nI 4
            · rw [if_pos c_24_4] at hF
              refine lv_tableIn (off := 53) (tgt := 77) hx hb dX5_hitWorth_24 (by rw [c_24_4]; decide) (by rw [c_24_4]; decide) (by rw [c_24_4]; rfl) (by decide) ?_
              refine lv_iload_n hx hb dX5_hitWorth_77 rfl (lv_at hl 3 rfl) ?_
              refine lv_bipush (v := nI 7) hx hb dX5_hitWorth_78 (by decide) ?_
              refine lv_icmp_lt (tgt := 89) hx hb dX5_hitWorth_80 (by decide) (fun c_80 => ?_) (fun c_80 => ?_)
              · rw [if_pos c_80] at hF
                refine lv_iload_n hx hb dX5_hitWorth_89 rfl (lv_at hl 1 rfl) ?_
                exact W.iret (v := h - (nI 1)) hx hb hr (fun t ht hW => ⟨_, rfl, hO.symm.trans hF, ht⟩) (fun _ h => by cases h) dX5_hitWorth_90
              · rw [if_neg c_80] at hF
                refine lv_iload_n hx hb dX5_hitWorth_83 rfl (lv_at hl 1 rfl) ?_
                refine lv_iconst (v := nI 2) hx hb dX5_hitWorth_84 (by decide) ?_
                refine lv_isub hx hb dX5_hitWorth_85 ?_
                refine lv_goto (tgt := 90) hx hb dX5_hitWorth_86 (by decide) ?_
                exact W.iret (v := (h - (nI 1)) - (nI 2)) hx hb hr (fun t ht hW => ⟨_, rfl, hO.symm.trans hF, ht⟩) (fun _ h => by cases h) dX5_hitWorth_90
            · rw [if_neg c_24_4] at hF
              by_cases c_24_5 : k = nI 5
              · rw [if_pos c_24_5] at hF
                refine lv_tableIn (off := 67) (tgt := 91) hx hb dX5_hitWorth_24 (by rw [c_24_5]; decide) (by rw [c_24_5]; decide) (by rw [c_24_5]; rfl) (by decide) ?_
                refine lv_iload hx hb dX5_hitWorth_91 (lv_at hl 0 rfl) ?_
                refine lv_iconst (v := nI 3) hx hb dX5_hitWorth_93 (by decide) ?_
                refine lv_iload_n hx hb dX5_hitWorth_94 rfl (lv_at hl 4 rfl) ?_
                refine lv_bipush (v := nI 20) hx hb dX5_hitWorth_95 (by decide) ?_
                refine lv_idiv hx hb dX5_hitWorth_97 (by decide) ?_
                refine va_mmin hx hb (hml.trans hl.1.symm) hown (hts (.methodLink RX5 136 Lib.Math.min.name) (by decide +kernel)) (hts (.static Lib.Math.min.name) (by decide +kernel)) (hts (.initialized "java/lang/Math") (by decide +kernel)) (hts (.code Lib.Math.min.name Lib.Math.min.code 2 (some .int)) (by decide +kernel)) (Nat.le_of_ble_eq_true rfl) (Nat.le_of_ble_eq_true rfl) (Nat.zero_le _) (Nat.zero_le _) dX5_hitWorth_98 ?_
                by_cases c_98 : (t / (nI 20)) < (nI 3)
                · rw [if_pos c_98] at hF ⊢
                  refine lv_iadd hx hb dX5_hitWorth_101 ?_
                  exact W.iret (v := h + (t / (nI 20))) hx hb hr (fun t ht hW => ⟨_, rfl, hO.symm.trans hF, ht⟩) (fun _ h => by cases h) dX5_hitWorth_102
                · rw [if_neg c_98] at hF ⊢
                  refine lv_iadd hx hb dX5_hitWorth_101 ?_
                  exact W.iret (v := h + (nI 3)) hx hb hr (fun t ht hW => ⟨_, rfl, hO.symm.trans hF, ht⟩) (fun _ h => by cases h) dX5_hitWorth_102
              · rw [if_neg c_24_5] at hF
                have e_24_1 := qn_ne c_24_1 (by decide)
                have e_24_2 := qn_ne c_24_2 (by decide)
                have e_24_3 := qn_ne c_24_3 (by decide)
                have e_24_4 := qn_ne c_24_4 (by decide)
                have e_24_5 := qn_ne c_24_5 (by decide)
                refine lv_tableOut (tgt := 103) hx hb dX5_hitWorth_24 (by omega) (by decide) ?_
                refine lv_iload_n hx hb dX5_hitWorth_103 rfl (lv_at hl 3 rfl) ?_
                exact W.iret (v := h) hx hb hr (fun t ht hW => ⟨_, rfl, hO.symm.trans hF, ht⟩) (fun _ h => by cases h) dX5_hitWorth_104
  · rw [if_neg c_4] at hF ⊢
    refine lv_istore_n (lv' := [(3, .int (nI 0)), (0, .int k), (1, .int h), (2, .int t)]) hx hb dX5_hitWorth_7 rfl hl (by decide) rfl (fun ls hl => ?_)
    refine lv_iload_n hx hb dX5_hitWorth_8 rfl (lv_at hl 3 rfl) ?_
    refine lv_iconst (v := nI 2) hx hb dX5_hitWorth_9 (by decide) ?_
    refine lv_irem hx hb dX5_hitWorth_10 (by decide) ?_
    refine lv_if_ne (tgt := 18) hx hb dX5_hitWorth_11 (by decide) (fun c_11 => ?_) (fun c_11 => ?_)
    · rw [if_neg c_11] at hF
      refine lv_iload_n hx hb dX5_hitWorth_18 rfl (lv_at hl 2 rfl) ?_
      refine lv_iconst (v := nI 1) hx hb dX5_hitWorth_19 (by decide) ?_
      refine lv_iadd hx hb dX5_hitWorth_20 ?_
      refine lv_istore (lv' := [(4, .int (h + (nI 1))), (3, .int (nI 0)), (0, .int k), (1, .int h), (2, .int t)]) hx hb dX5_hitWorth_21 hl (by decide) rfl (fun ls hl => ?_)
      refine lv_iload_n hx hb dX5_hitWorth_23 rfl (lv_at hl 2 rfl) ?_
      by_cases c_24_1 : k = nI 1
      · rw [if_pos c_24_1] at hF
        refine lv_tableIn (off := 36) (tgt := 60) hx hb dX5_hitWorth_24 (by rw [c_24_1]; decide) (by rw [c_24_1]; decide) (by rw [c_24_1]; rfl) (by decide) ?_
        refine lv_iload_n hx hb dX5_hitWorth_60 rfl (lv_at hl 1 rfl) ?_
        exact W.iret (v := nI 0) hx hb hr (fun t ht hW => ⟨_, rfl, hO.symm.trans hF, ht⟩) (fun _ h => by cases h) dX5_hitWorth_61
      · rw [if_neg c_24_1] at hF
        by_cases c_24_2 : k = nI 2
        · rw [if_pos c_24_2] at hF
          refine lv_tableIn (off := 38) (tgt := 62) hx hb dX5_hitWorth_24 (by rw [c_24_2]; decide) (by rw [c_24_2]; decide) (by rw [c_24_2]; rfl) (by decide) ?_
          refine lv_iload hx hb dX5_hitWorth_62 (lv_at hl 0 rfl) ?_
          exact W.iret (v := h + (nI 1)) hx hb hr (fun t ht hW => ⟨_, rfl, hO.symm.trans hF, ht⟩) (fun _ h => by cases h) dX5_hitWorth_64
        · rw [if_neg c_24_2] at hF
          by_cases c_24_3 : k = nI 3
          · rw [if_pos c_24_3] at hF
            refine lv_tableIn (off := 41) (tgt := 65) hx hb dX5_hitWorth_24 (by rw [c_24_3]; decide) (by rw [c_24_3]; decide) (by rw [c_24_3]; rfl) (by decide) ?_
            refine lv_iload_n hx hb dX5_hitWorth_65 rfl (lv_at hl 4 rfl) ?_
            refine lv_iconst (v := nI 4) hx hb dX5_hitWorth_66 (by decide) ?_
            refine lv_irem hx hb dX5_hitWorth_67 (by decide) ?_
            refine lv_if_ne (tgt := 75) hx hb dX5_hitWorth_68 (by decide) (fun c_68 => ?_) (fun c_68 => ?_)
            · rw [if_neg c_68] at hF
              refine lv_iload_n hx hb dX5_hitWorth_75 rfl (lv_at hl 3 rfl) ?_
              exact W.iret (v := h) hx hb hr (fun t ht hW => ⟨_, rfl, hO.symm.trans hF, ht⟩) (fun _ h => by cases h) dX5_hitWorth_76
            · rw [if_pos c_68] at hF
              refine lv_iconst (v := nI 0) hx hb dX5_hitWorth_71 (by decide) ?_
              refine lv_goto (tgt := 76) hx hb dX5_hitWorth_72 (by decide) ?_
              exact W.iret (v := nI 0) hx hb hr (fun t ht hW => ⟨_, rfl, hO.symm.trans hF, ht⟩) (fun _ h => by cases h) dX5_hitWorth_76
          · rw [if_neg c_24_3] at hF
            by_cases c_24_4 : k = nI 4
            · rw [if_pos c_24_4] at hF
              refine lv_tableIn (off := 53) (tgt := 77) hx hb dX5_hitWorth_24 (by rw [c_24_4]; decide) (by rw [c_24_4]; decide) (by rw [c_24_4]; rfl) (by decide) ?_
              refine lv_iload_n hx hb dX5_hitWorth_77 rfl (lv_at hl 3 rfl) ?_
              refine lv_bipush (v := nI 7) hx hb dX5_hitWorth_78 (by decide) ?_
              refine lv_icmp_lt (tgt := 89) hx hb dX5_hitWorth_80 (by decide) (fun c_80 => ?_) (fun c_80 => ?_)
              · rw [if_pos c_80] at hF
                refine lv_iload_n hx hb dX5_hitWorth_89 rfl (lv_at hl 1 rfl) ?_
                exact W.iret (v := nI 0) hx hb hr (fun t ht hW => ⟨_, rfl, hO.symm.trans hF, ht⟩) (fun _ h => by cases h) dX5_hitWorth_90
              · rw [if_neg c_80] at hF
                refine lv_iload_n hx hb dX5_hitWorth_83 rfl (lv_at hl 1 rfl) ?_
                refine lv_iconst (v := nI 2) hx hb dX5_hitWorth_84 (by decide) ?_
                refine lv_isub hx hb dX5_hitWorth_85 ?_
                refine lv_goto (tgt := 90) hx hb dX5_hitWorth_86 (by decide) ?_
                exact W.iret (v := (nI 0) - (nI 2)) hx hb hr (fun t ht hW => ⟨_, rfl, hO.symm.trans hF, ht⟩) (fun _ h => by cases h) dX5_hitWorth_90
            · rw [if_neg c_24_4] at hF
              by_cases c_24_5 : k = nI 5
              · rw [if_pos c_24_5] at hF
                refine lv_tableIn (off := 67) (tgt := 91) hx hb dX5_hitWorth_24 (by rw [c_24_5]; decide) (by rw [c_24_5]; decide) (by rw [c_24_5]; rfl) (by decide) ?_
                refine lv_iload hx hb dX5_hitWorth_91 (lv_at hl 0 rfl) ?_
                refine lv_iconst (v := nI 3) hx hb dX5_hitWorth_93 (by decide) ?_
                refine lv_iload_n hx hb dX5_hitWorth_94 rfl (lv_at hl 4 rfl) ?_
                refine lv_bipush (v := nI 20) hx hb dX5_hitWorth_95 (by decide) ?_
                refine lv_idiv hx hb dX5_hitWorth_97 (by decide) ?_
                refine va_mmin hx hb (hml.trans hl.1.symm) hown (hts (.methodLink RX5 136 Lib.Math.min.name) (by decide +kernel)) (hts (.static Lib.Math.min.name) (by decide +kernel)) (hts (.initialized "java/lang/Math") (by decide +kernel)) (hts (.code Lib.Math.min.name Lib.Math.min.code 2 (some .int)) (by decide +kernel)) (Nat.le_of_ble_eq_true rfl) (Nat.le_of_ble_eq_true rfl) (Nat.zero_le _) (Nat.zero_le _) dX5_hitWorth_98 ?_
                by_cases c_98 : (t / (nI 20)) < (nI 3)
                · rw [if_pos c_98] at hF ⊢
                  refine lv_iadd hx hb dX5_hitWorth_101 ?_
                  exact W.iret (v := (h + (nI 1)) + (t / (nI 20))) hx hb hr (fun t ht hW => ⟨_, rfl, hO.symm.trans hF, ht⟩) (fun _ h => by cases h) dX5_hitWorth_102
                · rw [if_neg c_98] at hF ⊢
                  refine lv_iadd hx hb dX5_hitWorth_101 ?_
                  exact W.iret (v := (h + (nI 1)) + (nI 3)) hx hb hr (fun t ht hW => ⟨_, rfl, hO.symm.trans hF, ht⟩) (fun _ h => by cases h) dX5_hitWorth_102
              · rw [if_neg c_24_5] at hF
                have e_24_1 := qn_ne c_24_1 (by decide)
                have e_24_2 := qn_ne c_24_2 (by decide)
                have e_24_3 := qn_ne c_24_3 (by decide)
                have e_24_4 := qn_ne c_24_4 (by decide)
                have e_24_5 := qn_ne c_24_5 (by decide)
                refine lv_tableOut (tgt := 103) hx hb dX5_hitWorth_24 (by omega) (by decide) ?_
                refine lv_iload_n hx hb dX5_hitWorth_103 rfl (lv_at hl 3 rfl) ?_
                exact W.iret (v := h) hx hb hr (fun t ht hW => ⟨_, rfl, hO.symm.trans hF, ht⟩) (fun _ h => by cases h) dX5_hitWorth_104
    · rw [if_pos c_11] at hF
      refine lv_iload_n hx hb dX5_hitWorth_14 rfl (lv_at hl 2 rfl) ?_
      refine lv_goto (tgt := 21) hx hb dX5_hitWorth_15 (by decide) ?_
      refine lv_istore (lv' := [(4, .int h), (3, .int (nI 0)), (0, .int k), (1, .int h), (2, .int t)]) hx hb dX5_hitWorth_21 hl (by decide) rfl (fun ls hl => ?_)
      refine lv_iload_n hx hb dX5_hitWorth_23 rfl (lv_at hl 2 rfl) ?_
      by_cases c_24_1 : k = nI 1
      · rw [if_pos c_24_1] at hF
        refine lv_tableIn (off := 36) (tgt := 60) hx hb dX5_hitWorth_24 (by rw [c_24_1]; decide) (by rw [c_24_1]; decide) (by rw [c_24_1]; rfl) (by decide) ?_
        refine lv_iload_n hx hb dX5_hitWorth_60 rfl (lv_at hl 1 rfl) ?_
        exact W.iret (v := nI 0) hx hb hr (fun t ht hW => ⟨_, rfl, hO.symm.trans hF, ht⟩) (fun _ h => by cases h) dX5_hitWorth_61
      · rw [if_neg c_24_1] at hF
        by_cases c_24_2 : k = nI 2
        · rw [if_pos c_24_2] at hF
          refine lv_tableIn (off := 38) (tgt := 62) hx hb dX5_hitWorth_24 (by rw [c_24_2]; decide) (by rw [c_24_2]; decide) (by rw [c_24_2]; rfl) (by decide) ?_
          refine lv_iload hx hb dX5_hitWorth_62 (lv_at hl 0 rfl) ?_
          exact W.iret (v := h) hx hb hr (fun t ht hW => ⟨_, rfl, hO.symm.trans hF, ht⟩) (fun _ h => by cases h) dX5_hitWorth_64
        · rw [if_neg c_24_2] at hF
          by_cases c_24_3 : k = nI 3
          · rw [if_pos c_24_3] at hF
            refine lv_tableIn (off := 41) (tgt := 65) hx hb dX5_hitWorth_24 (by rw [c_24_3]; decide) (by rw [c_24_3]; decide) (by rw [c_24_3]; rfl) (by decide) ?_
            refine lv_iload_n hx hb dX5_hitWorth_65 rfl (lv_at hl 4 rfl) ?_
            refine lv_iconst (v := nI 4) hx hb dX5_hitWorth_66 (by decide) ?_
            refine lv_irem hx hb dX5_hitWorth_67 (by decide) ?_
            refine lv_if_ne (tgt := 75) hx hb dX5_hitWorth_68 (by decide) (fun c_68 => ?_) (fun c_68 => ?_)
            · rw [if_neg c_68] at hF
              refine lv_iload_n hx hb dX5_hitWorth_75 rfl (lv_at hl 3 rfl) ?_
              exact W.iret (v := h) hx hb hr (fun t ht hW => ⟨_, rfl, hO.symm.trans hF, ht⟩) (fun _ h => by cases h) dX5_hitWorth_76
            · rw [if_pos c_68] at hF
              refine lv_iconst (v := nI 0) hx hb dX5_hitWorth_71 (by decide) ?_
              refine lv_goto (tgt := 76) hx hb dX5_hitWorth_72 (by decide) ?_
              exact W.iret (v := nI 0) hx hb hr (fun t ht hW => ⟨_, rfl, hO.symm.trans hF, ht⟩) (fun _ h => by cases h) dX5_hitWorth_76
          · rw [if_neg c_24_3] at hF
            by_cases c_24_4 : k = nI 4
            · rw [if_pos c_24_4] at hF
              refine lv_tableIn (off := 53) (tgt := 77) hx hb dX5_hitWorth_24 (by rw [c_24_4]; decide) (by rw [c_24_4]; decide) (by rw [c_24_4]; rfl) (by decide) ?_
              refine lv_iload_n hx hb dX5_hitWorth_77 rfl (lv_at hl 3 rfl) ?_
              refine lv_bipush (v := nI 7) hx hb dX5_hitWorth_78 (by decide) ?_
              refine lv_icmp_lt (tgt := 89) hx hb dX5_hitWorth_80 (by decide) (fun c_80 => ?_) (fun c_80 => ?_)
              · rw [if_pos c_80] at hF
                refine lv_iload_n hx hb dX5_hitWorth_89 rfl (lv_at hl 1 rfl) ?_
                exact W.iret (v := nI 0) hx hb hr (fun t ht hW => ⟨_, rfl, hO.symm.trans hF, ht⟩) (fun _ h => by cases h) dX5_hitWorth_90
              · rw [if_neg c_80] at hF
                refine lv_iload_n hx hb dX5_hitWorth_83 rfl (lv_at hl 1 rfl) ?_
                refine lv_iconst (v := nI 2) hx hb dX5_hitWorth_84 (by decide) ?_
                refine lv_isub hx hb dX5_hitWorth_85 ?_
                refine lv_goto (tgt := 90) hx hb dX5_hitWorth_86 (by decide) ?_
                exact W.iret (v := (nI 0) - (nI 2)) hx hb hr (fun t ht hW => ⟨_, rfl, hO.symm.trans hF, ht⟩) (fun _ h => by cases h) dX5_hitWorth_90
            · rw [if_neg c_24_4] at hF
              by_cases c_24_5 : k = nI 5
              · rw [if_pos c_24_5] at hF
                refine lv_tableIn (off := 67) (tgt := 91) hx hb dX5_hitWorth_24 (by rw [c_24_5]; decide) (by rw [c_24_5]; decide) (by rw [c_24_5]; rfl) (by decide) ?_
                refine lv_iload hx hb dX5_hitWorth_91 (lv_at hl 0 rfl) ?_
                refine lv_iconst (v := nI 3) hx hb dX5_hitWorth_93 (by decide) ?_
                refine lv_iload_n hx hb dX5_hitWorth_94 rfl (lv_at hl 4 rfl) ?_
                refine lv_bipush (v := nI 20) hx hb dX5_hitWorth_95 (by decide) ?_
                refine lv_idiv hx hb dX5_hitWorth_97 (by decide) ?_
                refine va_mmin hx hb (hml.trans hl.1.symm) hown (hts (.methodLink RX5 136 Lib.Math.min.name) (by decide +kernel)) (hts (.static Lib.Math.min.name) (by decide +kernel)) (hts (.initialized "java/lang/Math") (by decide +kernel)) (hts (.code Lib.Math.min.name Lib.Math.min.code 2 (some .int)) (by decide +kernel)) (Nat.le_of_ble_eq_true rfl) (Nat.le_of_ble_eq_true rfl) (Nat.zero_le _) (Nat.zero_le _) dX5_hitWorth_98 ?_
                by_cases c_98 : (t / (nI 20)) < (nI 3)
                · rw [if_pos c_98] at hF ⊢
                  refine lv_iadd hx hb dX5_hitWorth_101 ?_
                  exact W.iret (v := h + (t / (nI 20))) hx hb hr (fun t ht hW => ⟨_, rfl, hO.symm.trans hF, ht⟩) (fun _ h => by cases h) dX5_hitWorth_102
                · rw [if_neg c_98] at hF ⊢
                  refine lv_iadd hx hb dX5_hitWorth_101 ?_
                  exact W.iret (v := h + (nI 3)) hx hb hr (fun t ht hW => ⟨_, rfl, hO.symm.trans hF, ht⟩) (fun _ h => by cases h) dX5_hitWorth_102
              · rw [if_neg c_24_5] at hF
                have e_24_1 := qn_ne c_24_1 (by decide)
                have e_24_2 := qn_ne c_24_2 (by decide)
                have e_24_3 := qn_ne c_24_3 (by decide)
                have e_24_4 := qn_ne c_24_4 (by decide)
                have e_24_5 := qn_ne c_24_5 (by decide)
                refine lv_tableOut (tgt := 103) hx hb dX5_hitWorth_24 (by omega) (by decide) ?_
                refine lv_iload_n hx hb dX5_hitWorth_103 rfl (lv_at hl 3 rfl) ?_
                exact W.iret (v := h) hx hb hr (fun t ht hW => ⟨_, rfl, hO.symm.trans hF, ht⟩) (fun _ h => by cases h) dX5_hitWorth_104
def F_X5_postsRun (k : Int32) (lg : Int32) (g : Int32) : Int32 := if ((g + lg) / (nI 3)) < (nI 4) then (if ((g + lg) / (nI 3)) < (nI 1) then (if k = nI 1 then (if g < (nI 6) then (g + lg) / (nI 3) else ((g + lg) / (nI 3)) + (nI 1)) else (if k = nI 2 then (g + lg) / (nI 3) else (if k = nI 3 then ((g + lg) / (nI 3)) + (nI 1) else (if k = nI 4 then (((g + lg) / (nI 3)) + (nI 1)) + (nI 1) else (if k = nI 5 then (if (g - g / (nI 2) * (nI 2)) = 0 then (g + lg) / (nI 3) else nI 0) else (g + lg) / (nI 3)))))) else (if k = nI 1 then (if g < (nI 6) then (g + lg) / (nI 3) else ((g + lg) / (nI 3)) + (nI 1)) else (if k = nI 2 then nI 1 else (if k = nI 3 then ((g + lg) / (nI 3)) + (nI 1) else (if k = nI 4 then (((g + lg) / (nI 3)) + (nI 1)) + (nI 1) else (if k = nI 5 then (if (g - g / (nI 2) * (nI 2)) = 0 then nI 1 else nI 0) else (g + lg) / (nI 3))))))) else (if (nI 4) < (nI 1) then (if k = nI 1 then (if g < (nI 6) then nI 4 else nI 5) else (if k = nI 2 then nI 4 else (if k = nI 3 then nI 5 else (if k = nI 4 then nI 6 else (if k = nI 5 then (if (g - g / (nI 2) * (nI 2)) = 0 then nI 4 else nI 0) else nI 4))))) else (if k = nI 1 then (if g < (nI 6) then nI 4 else nI 5) else (if k = nI 2 then nI 1 else (if k = nI 3 then nI 5 else (if k = nI 4 then nI 6 else (if k = nI 5 then (if (g - g / (nI 2) * (nI 2)) = 0 then nI 1 else nI 0) else nI 4))))))
set_option maxHeartbeats 4000000 in
set_option maxRecDepth 100000 in
theorem c_X5_postsRun (l : Launch) (k : Int32) (lg : Int32) (g : Int32) : Met l yX5_postsRun wsX5_postsRun { frames := 1, cells := 0, slots := 0, locals := 13 } (va_Pc [.int k, .int lg, .int g] (fun _ => True)) (vp_Si (fun r => F_X5_postsRun k lg g = r)) 0 0 (fun _ => False) := by
  refine Met.ofW (cc := cX5_postsRun) (maxL := 6) (ret := (some .int)) (by decide) rfl ?_
  intro p e s m args below meth c s₁ B hml hv
  obtain ⟨rfl, -⟩ := hv
  have hx := B.exec
  have hb := B.bytes
  have hr := B.returns
  have hts := atoms_spec (ws := wsX5_postsRun) B.pre
  have hown : s.vm.findClass RX5 = some m.cls := findClass_of_methodNamed B.named
  have hlocks := B.notSynchronized
  have hl := lv_entry ([.int k, .int lg, .int g]) (n := 6) (Nat.le_of_ble_eq_true rfl)
  rw [lg_entry_eq]
  generalize (lg_sl ([.int k, .int lg, .int g]) ++ List.replicate (6 - (lg_sl ([.int k, .int lg, .int g])).length) Slot.unset).toArray = ls at hl ⊢
  have hl : lv_has ls 6 [(0, .int k), (1, .int lg), (2, .int g)] := hl
  obtain ⟨OUT, hO⟩ : ∃ z, z = F_X5_postsRun k lg g := ⟨_, rfl⟩
  have hF := hO
  unfold F_X5_postsRun at hF
  refine lv_iconst (v := nI 4) hx hb dX5_postsRun_0 (by decide) ?_
  refine lv_iload_n hx hb dX5_postsRun_1 rfl (lv_at hl 2 rfl) ?_
  refine lv_iload_n hx hb dX5_postsRun_2 rfl (lv_at hl 1 rfl) ?_
  refine lv_iadd hx hb dX5_postsRun_3 ?_
  refine lv_iconst (v := nI 3) hx hb dX5_postsRun_4 (by decide) ?_
  refine lv_idiv hx hb dX5_postsRun_5 (by decide) ?_
  refine va_mmin hx hb (hml.trans hl.1.symm) hown (hts (.methodLink RX5 136 Lib.Math.min.name) (by decide +kernel)) (hts (.static Lib.Math.min.name) (by decide +kernel)) (hts (.initialized "java/lang/Math") (by decide +kernel)) (hts (.code Lib.Math.min.name Lib.Math.min.code 2 (some .int)) (by decide +kernel)) (Nat.le_of_ble_eq_true rfl) (Nat.le_of_ble_eq_true rfl) (Nat.zero_le _) (Nat.zero_le _) dX5_postsRun_6 ?_
  by_cases c_6 : ((g + lg) / (nI 3)) < (nI 4)
  · rw [if_pos c_6] at hF ⊢
    refine lv_istore_n (lv' := [(3, .int ((g + lg) / (nI 3))), (0, .int k), (1, .int lg), (2, .int g)]) hx hb dX5_postsRun_9 rfl hl (by decide) rfl (fun ls hl => ?_)
    refine lv_iconst (v := nI 1) hx hb dX5_postsRun_10 (by decide) ?_
    refine lv_iload_n hx hb dX5_postsRun_11 rfl (lv_at hl 0 rfl) ?_
    refine va_mmin hx hb (hml.trans hl.1.symm) hown (hts (.methodLink RX5 136 Lib.Math.min.name) (by decide +kernel)) (hts (.static Lib.Math.min.name) (by decide +kernel)) (hts (.initialized "java/lang/Math") (by decide +kernel)) (hts (.code Lib.Math.min.name Lib.Math.min.code 2 (some .int)) (by decide +kernel)) (Nat.le_of_ble_eq_true rfl) (Nat.le_of_ble_eq_true rfl) (Nat.zero_le _) (Nat.zero_le _) dX5_postsRun_12 ?_
    by_cases c_12 : ((g + lg) / (nI 3)) < (nI 1)
    · rw [if_pos c_12] at hF ⊢
      refine lv_istore (lv' := [(4, .int ((g + lg) / (nI 3))), (3, .int ((g + lg) / (nI 3))), (0, .int k), (1, .int lg), (2, .int g)]) hx hb dX5_postsRun_15 hl (by decide) rfl (fun ls hl => ?_)
      refine lv_iload_n hx hb dX5_postsRun_17 rfl (lv_at hl 1 rfl) ?_
      refine lv_iconst (v := nI 1) hx hb dX5_postsRun_18 (by decide) ?_
      refine lv_iadd hx hb dX5_postsRun_19 ?_
      refine lv_istore (lv' := [(5, .int (((g + lg) / (nI 3)) + (nI 1))), (4, .int ((g + lg) / (nI 3))), (3, .int ((g + lg) / (nI 3))), (0, .int k), (1, .int lg), (2, .int g)]) hx hb dX5_postsRun_20 hl (by decide) rfl (fun ls hl => ?_)
      refine lv_iload_n hx hb dX5_postsRun_22 rfl (lv_at hl 3 rfl) ?_
      by_cases c_23_1 : k = nI 1
      · rw [if_pos c_23_1] at hF
        refine lv_tableIn (off := 33) (tgt := 56) hx hb dX5_postsRun_23 (by rw [c_23_1]; decide) (by rw [c_23_1]; decide) (by rw [c_23_1]; rfl) (by decide) ?_
        refine lv_iload_n hx hb dX5_postsRun_56 rfl (lv_at hl 5 rfl) ?_
        refine lv_bipush (v := nI 6) hx hb dX5_postsRun_57 (by decide) ?_
        refine lv_icmp_lt (tgt := 68) hx hb dX5_postsRun_59 (by decide) (fun c_59 => ?_) (fun c_59 => ?_)
        · rw [if_pos c_59] at hF
          refine lv_iload_n hx hb dX5_postsRun_68 rfl (lv_at hl 2 rfl) ?_
          exact W.iret (v := (g + lg) / (nI 3)) hx hb hr (fun t ht hW => ⟨_, rfl, hO.symm.trans hF, ht⟩) (fun _ h => by cases h) dX5_postsRun_69
        · rw [if_neg c_59] at hF
          refine lv_iload_n hx hb dX5_postsRun_62 rfl (lv_at hl 2 rfl) ?_
          refine lv_iconst (v := nI 1) hx hb dX5_postsRun_63 (by decide) ?_
          refine lv_iadd hx hb dX5_postsRun_64 ?_
          refine lv_goto (tgt := 69) hx hb dX5_postsRun_65 (by decide) ?_
          exact W.iret (v := ((g + lg) / (nI 3)) + (nI 1)) hx hb hr (fun t ht hW => ⟨_, rfl, hO.symm.trans hF, ht⟩) (fun _ h => by cases h) dX5_postsRun_69
      · rw [if_neg c_23_1] at hF
        by_cases c_23_2 : k = nI 2
        · rw [if_pos c_23_2] at hF
          refine lv_tableIn (off := 47) (tgt := 70) hx hb dX5_postsRun_23 (by rw [c_23_2]; decide) (by rw [c_23_2]; decide) (by rw [c_23_2]; rfl) (by decide) ?_
          refine lv_iload hx hb dX5_postsRun_70 (lv_at hl 1 rfl) ?_
          exact W.iret (v := (g + lg) / (nI 3)) hx hb hr (fun t ht hW => ⟨_, rfl, hO.symm.trans hF, ht⟩) (fun _ h => by cases h) dX5_postsRun_72
        · rw [if_neg c_23_2] at hF
          by_cases c_23_3 : k = nI 3
          · rw [if_pos c_23_3] at hF
            refine lv_tableIn (off := 50) (tgt := 73) hx hb dX5_postsRun_23 (by rw [c_23_3]; decide) (by rw [c_23_3]; decide) (by rw [c_23_3]; rfl) (by decide) ?_
            refine lv_iload hx hb dX5_postsRun_73 (lv_at hl 0 rfl) ?_
            exact W.iret (v := ((g + lg) / (nI 3)) + (nI 1)) hx hb hr (fun t ht hW => ⟨_, rfl, hO.symm.trans hF, ht⟩) (fun _ h => by cases h) dX5_postsRun_75
          · rw [if_neg c_23_3] at hF
            by_cases c_23_4 : k = nI 4
            · rw [if_pos c_23_4] at hF
              refine lv_tableIn (off := 53) (tgt := 76) hx hb dX5_postsRun_23 (by rw [c_23_4]; decide) (by rw [c_23_4]; decide) (by rw [c_23_4]; rfl) (by decide) ?_
              refine lv_iload hx hb dX5_postsRun_76 (lv_at hl 0 rfl) ?_
              refine lv_iconst (v := nI 1) hx hb dX5_postsRun_78 (by decide) ?_
              refine lv_iadd hx hb dX5_postsRun_79 ?_
              exact W.iret (v := (((g + lg) / (nI 3)) + (nI 1)) + (nI 1)) hx hb hr (fun t ht hW => ⟨_, rfl, hO.symm.trans hF, ht⟩) (fun _ h => by cases h) dX5_postsRun_80
            · rw [if_neg c_23_4] at hF
              by_cases c_23_5 : k = nI 5
              · rw [if_pos c_23_5] at hF
                refine lv_tableIn (off := 58) (tgt := 81) hx hb dX5_postsRun_23 (by rw [c_23_5]; decide) (by rw [c_23_5]; decide) (by rw [c_23_5]; rfl) (by decide) ?_
                refine lv_iload_n hx hb dX5_postsRun_81 rfl (lv_at hl 5 rfl) ?_
                refine lv_iconst (v := nI 2) hx hb dX5_postsRun_82 (by decide) ?_
                refine lv_irem hx hb dX5_postsRun_83 (by decide) ?_
                refine lv_if_ne (tgt := 92) hx hb dX5_postsRun_84 (by decide) (fun c_84 => ?_) (fun c_84 => ?_)
                · rw [if_neg c_84] at hF
                  refine lv_iconst (v := nI 0) hx hb dX5_postsRun_92 (by decide) ?_
                  exact W.iret (v := nI 0) hx hb hr (fun t ht hW => ⟨_, rfl, hO.symm.trans hF, ht⟩) (fun _ h => by cases h) dX5_postsRun_93
                · rw [if_pos c_84] at hF
                  refine lv_iload hx hb dX5_postsRun_87 (lv_at hl 1 rfl) ?_
                  refine lv_goto (tgt := 93) hx hb dX5_postsRun_89 (by decide) ?_
                  exact W.iret (v := (g + lg) / (nI 3)) hx hb hr (fun t ht hW => ⟨_, rfl, hO.symm.trans hF, ht⟩) (fun _ h => by cases h) dX5_postsRun_93
              · rw [if_neg c_23_5] at hF
                have e_23_1 := qn_ne c_23_1 (by decide)
                have e_23_2 := qn_ne c_23_2 (by decide)
                have e_23_3 := qn_ne c_23_3 (by decide)
                have e_23_4 := qn_ne c_23_4 (by decide)
                have e_23_5 := qn_ne c_23_5 (by decide)
                refine lv_tableOut (tgt := 94) hx hb dX5_postsRun_23 (by omega) (by decide) ?_
                refine lv_iload_n hx hb dX5_postsRun_94 rfl (lv_at hl 2 rfl) ?_
                exact W.iret (v := (g + lg) / (nI 3)) hx hb hr (fun t ht hW => ⟨_, rfl, hO.symm.trans hF, ht⟩) (fun _ h => by cases h) dX5_postsRun_95
    · rw [if_neg c_12] at hF ⊢
      refine lv_istore (lv' := [(4, .int (nI 1)), (3, .int ((g + lg) / (nI 3))), (0, .int k), (1, .int lg), (2, .int g)]) hx hb dX5_postsRun_15 hl (by decide) rfl (fun ls hl => ?_)
      refine lv_iload_n hx hb dX5_postsRun_17 rfl (lv_at hl 1 rfl) ?_
      refine lv_iconst (v := nI 1) hx hb dX5_postsRun_18 (by decide) ?_
      refine lv_iadd hx hb dX5_postsRun_19 ?_
      refine lv_istore (lv' := [(5, .int (((g + lg) / (nI 3)) + (nI 1))), (4, .int (nI 1)), (3, .int ((g + lg) / (nI 3))), (0, .int k), (1, .int lg), (2, .int g)]) hx hb dX5_postsRun_20 hl (by decide) rfl (fun ls hl => ?_)
      refine lv_iload_n hx hb dX5_postsRun_22 rfl (lv_at hl 3 rfl) ?_
      by_cases c_23_1 : k = nI 1
      · rw [if_pos c_23_1] at hF
        refine lv_tableIn (off := 33) (tgt := 56) hx hb dX5_postsRun_23 (by rw [c_23_1]; decide) (by rw [c_23_1]; decide) (by rw [c_23_1]; rfl) (by decide) ?_
        refine lv_iload_n hx hb dX5_postsRun_56 rfl (lv_at hl 5 rfl) ?_
        refine lv_bipush (v := nI 6) hx hb dX5_postsRun_57 (by decide) ?_
        refine lv_icmp_lt (tgt := 68) hx hb dX5_postsRun_59 (by decide) (fun c_59 => ?_) (fun c_59 => ?_)
        · rw [if_pos c_59] at hF
          refine lv_iload_n hx hb dX5_postsRun_68 rfl (lv_at hl 2 rfl) ?_
          exact W.iret (v := (g + lg) / (nI 3)) hx hb hr (fun t ht hW => ⟨_, rfl, hO.symm.trans hF, ht⟩) (fun _ h => by cases h) dX5_postsRun_69
        · rw [if_neg c_59] at hF
          refine lv_iload_n hx hb dX5_postsRun_62 rfl (lv_at hl 2 rfl) ?_
          refine lv_iconst (v := nI 1) hx hb dX5_postsRun_63 (by decide) ?_
          refine lv_iadd hx hb dX5_postsRun_64 ?_
          refine lv_goto (tgt := 69) hx hb dX5_postsRun_65 (by decide) ?_
          exact W.iret (v := ((g + lg) / (nI 3)) + (nI 1)) hx hb hr (fun t ht hW => ⟨_, rfl, hO.symm.trans hF, ht⟩) (fun _ h => by cases h) dX5_postsRun_69
      · rw [if_neg c_23_1] at hF
        by_cases c_23_2 : k = nI 2
        · rw [if_pos c_23_2] at hF
          refine lv_tableIn (off := 47) (tgt := 70) hx hb dX5_postsRun_23 (by rw [c_23_2]; decide) (by rw [c_23_2]; decide) (by rw [c_23_2]; rfl) (by decide) ?_
          refine lv_iload hx hb dX5_postsRun_70 (lv_at hl 1 rfl) ?_
          exact W.iret (v := nI 1) hx hb hr (fun t ht hW => ⟨_, rfl, hO.symm.trans hF, ht⟩) (fun _ h => by cases h) dX5_postsRun_72
        · rw [if_neg c_23_2] at hF
          by_cases c_23_3 : k = nI 3
          · rw [if_pos c_23_3] at hF
            refine lv_tableIn (off := 50) (tgt := 73) hx hb dX5_postsRun_23 (by rw [c_23_3]; decide) (by rw [c_23_3]; decide) (by rw [c_23_3]; rfl) (by decide) ?_
            refine lv_iload hx hb dX5_postsRun_73 (lv_at hl 0 rfl) ?_
            exact W.iret (v := ((g + lg) / (nI 3)) + (nI 1)) hx hb hr (fun t ht hW => ⟨_, rfl, hO.symm.trans hF, ht⟩) (fun _ h => by cases h) dX5_postsRun_75
          · rw [if_neg c_23_3] at hF
            by_cases c_23_4 : k = nI 4
            · rw [if_pos c_23_4] at hF
              refine lv_tableIn (off := 53) (tgt := 76) hx hb dX5_postsRun_23 (by rw [c_23_4]; decide) (by rw [c_23_4]; decide) (by rw [c_23_4]; rfl) (by decide) ?_
              refine lv_iload hx hb dX5_postsRun_76 (lv_at hl 0 rfl) ?_
              refine lv_iconst (v := nI 1) hx hb dX5_postsRun_78 (by decide) ?_
              refine lv_iadd hx hb dX5_postsRun_79 ?_
              exact W.iret (v := (((g + lg) / (nI 3)) + (nI 1)) + (nI 1)) hx hb hr (fun t ht hW => ⟨_, rfl, hO.symm.trans hF, ht⟩) (fun _ h => by cases h) dX5_postsRun_80
            · rw [if_neg c_23_4] at hF
              by_cases c_23_5 : k = nI 5
              · rw [if_pos c_23_5] at hF
                refine lv_tableIn (off := 58) (tgt := 81) hx hb dX5_postsRun_23 (by rw [c_23_5]; decide) (by rw [c_23_5]; decide) (by rw [c_23_5]; rfl) (by decide) ?_
                refine lv_iload_n hx hb dX5_postsRun_81 rfl (lv_at hl 5 rfl) ?_
                refine lv_iconst (v := nI 2) hx hb dX5_postsRun_82 (by decide) ?_
                refine lv_irem hx hb dX5_postsRun_83 (by decide) ?_
                refine lv_if_ne (tgt := 92) hx hb dX5_postsRun_84 (by decide) (fun c_84 => ?_) (fun c_84 => ?_)
                · rw [if_neg c_84] at hF
                  refine lv_iconst (v := nI 0) hx hb dX5_postsRun_92 (by decide) ?_
                  exact W.iret (v := nI 0) hx hb hr (fun t ht hW => ⟨_, rfl, hO.symm.trans hF, ht⟩) (fun _ h => by cases h) dX5_postsRun_93
                · rw [if_pos c_84] at hF
                  refine lv_iload hx hb dX5_postsRun_87 (lv_at hl 1 rfl) ?_
                  refine lv_goto (tgt := 93) hx hb dX5_postsRun_89 (by decide) ?_
                  exact W.iret (v := nI 1) hx hb hr (fun t ht hW => ⟨_, rfl, hO.symm.trans hF, ht⟩) (fun _ h => by cases h) dX5_postsRun_93
              · rw [if_neg c_23_5] at hF
                have e_23_1 := qn_ne c_23_1 (by decide)
                have e_23_2 := qn_ne c_23_2 (by decide)
                have e_23_3 := qn_ne c_23_3 (by decide)
                have e_23_4 := qn_ne c_23_4 (by decide)
                have e_23_5 := qn_ne c_23_5 (by decide)
                refine lv_tableOut (tgt := 94) hx hb dX5_postsRun_23 (by omega) (by decide) ?_
                refine lv_iload_n hx hb dX5_postsRun_94 rfl (lv_at hl 2 rfl) ?_
                exact W.iret (v := (g + lg) / (nI 3)) hx hb hr (fun t ht hW => ⟨_, rfl, hO.symm.trans hF, ht⟩) (fun _ h => by cases h) dX5_postsRun_95
  · rw [if_neg c_6] at hF ⊢
    refine lv_istore_n (lv' := [(3, .int (nI 4)), (0, .int k), (1, .int lg), (2, .int g)]) hx hb dX5_postsRun_9 rfl hl (by decide) rfl (fun ls hl => ?_)
    refine lv_iconst (v := nI 1) hx hb dX5_postsRun_10 (by decide) ?_
    refine lv_iload_n hx hb dX5_postsRun_11 rfl (lv_at hl 0 rfl) ?_
    refine va_mmin hx hb (hml.trans hl.1.symm) hown (hts (.methodLink RX5 136 Lib.Math.min.name) (by decide +kernel)) (hts (.static Lib.Math.min.name) (by decide +kernel)) (hts (.initialized "java/lang/Math") (by decide +kernel)) (hts (.code Lib.Math.min.name Lib.Math.min.code 2 (some .int)) (by decide +kernel)) (Nat.le_of_ble_eq_true rfl) (Nat.le_of_ble_eq_true rfl) (Nat.zero_le _) (Nat.zero_le _) dX5_postsRun_12 ?_
    by_cases c_12 : (nI 4) < (nI 1)
    · rw [if_pos c_12] at hF ⊢
      refine lv_istore (lv' := [(4, .int (nI 4)), (3, .int (nI 4)), (0, .int k), (1, .int lg), (2, .int g)]) hx hb dX5_postsRun_15 hl (by decide) rfl (fun ls hl => ?_)
      refine lv_iload_n hx hb dX5_postsRun_17 rfl (lv_at hl 1 rfl) ?_
      refine lv_iconst (v := nI 1) hx hb dX5_postsRun_18 (by decide) ?_
      refine qv_iadd hx hb (5) dX5_postsRun_19 (by omega) ?_
      refine lv_istore (lv' := [(5, .int (nI 5)), (4, .int (nI 4)), (3, .int (nI 4)), (0, .int k), (1, .int lg), (2, .int g)]) hx hb dX5_postsRun_20 hl (by decide) rfl (fun ls hl => ?_)
      refine lv_iload_n hx hb dX5_postsRun_22 rfl (lv_at hl 3 rfl) ?_
      by_cases c_23_1 : k = nI 1
      · rw [if_pos c_23_1] at hF
        refine lv_tableIn (off := 33) (tgt := 56) hx hb dX5_postsRun_23 (by rw [c_23_1]; decide) (by rw [c_23_1]; decide) (by rw [c_23_1]; rfl) (by decide) ?_
        refine lv_iload_n hx hb dX5_postsRun_56 rfl (lv_at hl 5 rfl) ?_
        refine lv_bipush (v := nI 6) hx hb dX5_postsRun_57 (by decide) ?_
        refine lv_icmp_lt (tgt := 68) hx hb dX5_postsRun_59 (by decide) (fun c_59 => ?_) (fun c_59 => ?_)
        · rw [if_pos c_59] at hF
          refine lv_iload_n hx hb dX5_postsRun_68 rfl (lv_at hl 2 rfl) ?_
          exact W.iret (v := nI 4) hx hb hr (fun t ht hW => ⟨_, rfl, hO.symm.trans hF, ht⟩) (fun _ h => by cases h) dX5_postsRun_69
        · rw [if_neg c_59] at hF
          refine lv_iload_n hx hb dX5_postsRun_62 rfl (lv_at hl 2 rfl) ?_
          refine lv_iconst (v := nI 1) hx hb dX5_postsRun_63 (by decide) ?_
          refine qv_iadd hx hb (5) dX5_postsRun_64 (by omega) ?_
          refine lv_goto (tgt := 69) hx hb dX5_postsRun_65 (by decide) ?_
          exact W.iret (v := nI 5) hx hb hr (fun t ht hW => ⟨_, rfl, hO.symm.trans hF, ht⟩) (fun _ h => by cases h) dX5_postsRun_69
      · rw [if_neg c_23_1] at hF
        by_cases c_23_2 : k = nI 2
        · rw [if_pos c_23_2] at hF
          refine lv_tableIn (off := 47) (tgt := 70) hx hb dX5_postsRun_23 (by rw [c_23_2]; decide) (by rw [c_23_2]; decide) (by rw [c_23_2]; rfl) (by decide) ?_
          refine lv_iload hx hb dX5_postsRun_70 (lv_at hl 1 rfl) ?_
          exact W.iret (v := nI 4) hx hb hr (fun t ht hW => ⟨_, rfl, hO.symm.trans hF, ht⟩) (fun _ h => by cases h) dX5_postsRun_72
        · rw [if_neg c_23_2] at hF
          by_cases c_23_3 : k = nI 3
          · rw [if_pos c_23_3] at hF
            refine lv_tableIn (off := 50) (tgt := 73) hx hb dX5_postsRun_23 (by rw [c_23_3]; decide) (by rw [c_23_3]; decide) (by rw [c_23_3]; rfl) (by decide) ?_
            refine lv_iload hx hb dX5_postsRun_73 (lv_at hl 0 rfl) ?_
            exact W.iret (v := nI 5) hx hb hr (fun t ht hW => ⟨_, rfl, hO.symm.trans hF, ht⟩) (fun _ h => by cases h) dX5_postsRun_75
          · rw [if_neg c_23_3] at hF
            by_cases c_23_4 : k = nI 4
            · rw [if_pos c_23_4] at hF
              refine lv_tableIn (off := 53) (tgt := 76) hx hb dX5_postsRun_23 (by rw [c_23_4]; decide) (by rw [c_23_4]; decide) (by rw [c_23_4]; rfl) (by decide) ?_
              refine lv_iload hx hb dX5_postsRun_76 (lv_at hl 0 rfl) ?_
              refine lv_iconst (v := nI 1) hx hb dX5_postsRun_78 (by decide) ?_
              refine qv_iadd hx hb (6) dX5_postsRun_79 (by omega) ?_
              exact W.iret (v := nI 6) hx hb hr (fun t ht hW => ⟨_, rfl, hO.symm.trans hF, ht⟩) (fun _ h => by cases h) dX5_postsRun_80
            · rw [if_neg c_23_4] at hF
              by_cases c_23_5 : k = nI 5
              · rw [if_pos c_23_5] at hF
                refine lv_tableIn (off := 58) (tgt := 81) hx hb dX5_postsRun_23 (by rw [c_23_5]; decide) (by rw [c_23_5]; decide) (by rw [c_23_5]; rfl) (by decide) ?_
                refine lv_iload_n hx hb dX5_postsRun_81 rfl (lv_at hl 5 rfl) ?_
                refine lv_iconst (v := nI 2) hx hb dX5_postsRun_82 (by decide) ?_
                refine lv_irem hx hb dX5_postsRun_83 (by decide) ?_
                refine lv_if_ne (tgt := 92) hx hb dX5_postsRun_84 (by decide) (fun c_84 => ?_) (fun c_84 => ?_)
                · rw [if_neg c_84] at hF
                  refine lv_iconst (v := nI 0) hx hb dX5_postsRun_92 (by decide) ?_
                  exact W.iret (v := nI 0) hx hb hr (fun t ht hW => ⟨_, rfl, hO.symm.trans hF, ht⟩) (fun _ h => by cases h) dX5_postsRun_93
                · rw [if_pos c_84] at hF
                  refine lv_iload hx hb dX5_postsRun_87 (lv_at hl 1 rfl) ?_
                  refine lv_goto (tgt := 93) hx hb dX5_postsRun_89 (by decide) ?_
                  exact W.iret (v := nI 4) hx hb hr (fun t ht hW => ⟨_, rfl, hO.symm.trans hF, ht⟩) (fun _ h => by cases h) dX5_postsRun_93
              · rw [if_neg c_23_5] at hF
                have e_23_1 := qn_ne c_23_1 (by decide)
                have e_23_2 := qn_ne c_23_2 (by decide)
                have e_23_3 := qn_ne c_23_3 (by decide)
                have e_23_4 := qn_ne c_23_4 (by decide)
                have e_23_5 := qn_ne c_23_5 (by decide)
                refine lv_tableOut (tgt := 94) hx hb dX5_postsRun_23 (by omega) (by decide) ?_
                refine lv_iload_n hx hb dX5_postsRun_94 rfl (lv_at hl 2 rfl) ?_
                exact W.iret (v := nI 4) hx hb hr (fun t ht hW => ⟨_, rfl, hO.symm.trans hF, ht⟩) (fun _ h => by cases h) dX5_postsRun_95
    · rw [if_neg c_12] at hF ⊢
      refine lv_istore (lv' := [(4, .int (nI 1)), (3, .int (nI 4)), (0, .int k), (1, .int lg), (2, .int g)]) hx hb dX5_postsRun_15 hl (by decide) rfl (fun ls hl => ?_)
      refine lv_iload_n hx hb dX5_postsRun_17 rfl (lv_at hl 1 rfl) ?_
      refine lv_iconst (v := nI 1) hx hb dX5_postsRun_18 (by decide) ?_
      refine qv_iadd hx hb (5) dX5_postsRun_19 (by omega) ?_
      refine lv_istore (lv' := [(5, .int (nI 5)), (4, .int (nI 1)), (3, .int (nI 4)), (0, .int k), (1, .int lg), (2, .int g)]) hx hb dX5_postsRun_20 hl (by decide) rfl (fun ls hl => ?_)
      refine lv_iload_n hx hb dX5_postsRun_22 rfl (lv_at hl 3 rfl) ?_
      by_cases c_23_1 : k = nI 1
      · rw [if_pos c_23_1] at hF
        refine lv_tableIn (off := 33) (tgt := 56) hx hb dX5_postsRun_23 (by rw [c_23_1]; decide) (by rw [c_23_1]; decide) (by rw [c_23_1]; rfl) (by decide) ?_
        refine lv_iload_n hx hb dX5_postsRun_56 rfl (lv_at hl 5 rfl) ?_
        refine lv_bipush (v := nI 6) hx hb dX5_postsRun_57 (by decide) ?_
        refine lv_icmp_lt (tgt := 68) hx hb dX5_postsRun_59 (by decide) (fun c_59 => ?_) (fun c_59 => ?_)
        · rw [if_pos c_59] at hF
          refine lv_iload_n hx hb dX5_postsRun_68 rfl (lv_at hl 2 rfl) ?_
          exact W.iret (v := nI 4) hx hb hr (fun t ht hW => ⟨_, rfl, hO.symm.trans hF, ht⟩) (fun _ h => by cases h) dX5_postsRun_69
        · rw [if_neg c_59] at hF
          refine lv_iload_n hx hb dX5_postsRun_62 rfl (lv_at hl 2 rfl) ?_
          refine lv_iconst (v := nI 1) hx hb dX5_postsRun_63 (by decide) ?_
          refine qv_iadd hx hb (5) dX5_postsRun_64 (by omega) ?_
          refine lv_goto (tgt := 69) hx hb dX5_postsRun_65 (by decide) ?_
          exact W.iret (v := nI 5) hx hb hr (fun t ht hW => ⟨_, rfl, hO.symm.trans hF, ht⟩) (fun _ h => by cases h) dX5_postsRun_69
      · rw [if_neg c_23_1] at hF
        by_cases c_23_2 : k = nI 2
        · rw [if_pos c_23_2] at hF
          refine lv_tableIn (off := 47) (tgt := 70) hx hb dX5_postsRun_23 (by rw [c_23_2]; decide) (by rw [c_23_2]; decide) (by rw [c_23_2]; rfl) (by decide) ?_
          refine lv_iload hx hb dX5_postsRun_70 (lv_at hl 1 rfl) ?_
          exact W.iret (v := nI 1) hx hb hr (fun t ht hW => ⟨_, rfl, hO.symm.trans hF, ht⟩) (fun _ h => by cases h) dX5_postsRun_72
        · rw [if_neg c_23_2] at hF
          by_cases c_23_3 : k = nI 3
          · rw [if_pos c_23_3] at hF
            refine lv_tableIn (off := 50) (tgt := 73) hx hb dX5_postsRun_23 (by rw [c_23_3]; decide) (by rw [c_23_3]; decide) (by rw [c_23_3]; rfl) (by decide) ?_
            refine lv_iload hx hb dX5_postsRun_73 (lv_at hl 0 rfl) ?_
            exact W.iret (v := nI 5) hx hb hr (fun t ht hW => ⟨_, rfl, hO.symm.trans hF, ht⟩) (fun _ h => by cases h) dX5_postsRun_75
          · rw [if_neg c_23_3] at hF
            by_cases c_23_4 : k = nI 4
            · rw [if_pos c_23_4] at hF
              refine lv_tableIn (off := 53) (tgt := 76) hx hb dX5_postsRun_23 (by rw [c_23_4]; decide) (by rw [c_23_4]; decide) (by rw [c_23_4]; rfl) (by decide) ?_
              refine lv_iload hx hb dX5_postsRun_76 (lv_at hl 0 rfl) ?_
              refine lv_iconst (v := nI 1) hx hb dX5_postsRun_78 (by decide) ?_
              refine qv_iadd hx hb (6) dX5_postsRun_79 (by omega) ?_
              exact W.iret (v := nI 6) hx hb hr (fun t ht hW => ⟨_, rfl, hO.symm.trans hF, ht⟩) (fun _ h => by cases h) dX5_postsRun_80
            · rw [if_neg c_23_4] at hF
              by_cases c_23_5 : k = nI 5
              · rw [if_pos c_23_5] at hF
                refine lv_tableIn (off := 58) (tgt := 81) hx hb dX5_postsRun_23 (by rw [c_23_5]; decide) (by rw [c_23_5]; decide) (by rw [c_23_5]; rfl) (by decide) ?_
                refine lv_iload_n hx hb dX5_postsRun_81 rfl (lv_at hl 5 rfl) ?_
                refine lv_iconst (v := nI 2) hx hb dX5_postsRun_82 (by decide) ?_
                refine lv_irem hx hb dX5_postsRun_83 (by decide) ?_
                refine lv_if_ne (tgt := 92) hx hb dX5_postsRun_84 (by decide) (fun c_84 => ?_) (fun c_84 => ?_)
                · rw [if_neg c_84] at hF
                  refine lv_iconst (v := nI 0) hx hb dX5_postsRun_92 (by decide) ?_
                  exact W.iret (v := nI 0) hx hb hr (fun t ht hW => ⟨_, rfl, hO.symm.trans hF, ht⟩) (fun _ h => by cases h) dX5_postsRun_93
                · rw [if_pos c_84] at hF
                  refine lv_iload hx hb dX5_postsRun_87 (lv_at hl 1 rfl) ?_
                  refine lv_goto (tgt := 93) hx hb dX5_postsRun_89 (by decide) ?_
                  exact W.iret (v := nI 1) hx hb hr (fun t ht hW => ⟨_, rfl, hO.symm.trans hF, ht⟩) (fun _ h => by cases h) dX5_postsRun_93
              · rw [if_neg c_23_5] at hF
                have e_23_1 := qn_ne c_23_1 (by decide)
                have e_23_2 := qn_ne c_23_2 (by decide)
                have e_23_3 := qn_ne c_23_3 (by decide)
                have e_23_4 := qn_ne c_23_4 (by decide)
                have e_23_5 := qn_ne c_23_5 (by decide)
                refine lv_tableOut (tgt := 94) hx hb dX5_postsRun_23 (by omega) (by decide) ?_
                refine lv_iload_n hx hb dX5_postsRun_94 rfl (lv_at hl 2 rfl) ?_
                exact W.iret (v := nI 4) hx hb hr (fun t ht hW => ⟨_, rfl, hO.symm.trans hF, ht⟩) (fun _ h => by cases h) dX5_postsRun_95
def F_X2_begin (P : pS) (b : Int32) : (pS) := ((b, nI 0, Pkd P, Plg P, Pwh P, (-1), nI 0, nI 0))
set_option maxHeartbeats 4000000 in
set_option maxRecDepth 100000 in
theorem c_X2_begin (l : Launch) (dC : Nat → ClassId) (dI : Nat → Nat → Nat) (a : Nat → Nat) (cI : ClassId) (sz : Nat) (P : pS) (b : Int32) : Met l yX2_begin wsX2_begin { frames := 0, cells := 0, slots := 0, locals := 0 } (xPc (dC, dI) vwCl (xT cI) (pW a cI P) sz [.ref (a 0), .int b]) (va_Qv (fun (u : (pS)) => F_X2_begin P b = u) (mB (dC, dI) vwCl (xT cI) (va_A (pW a cI P) sz) (fun u => pW a cI u)) (va_A (pW a cI P) sz)) 0 0 (va_A (pW a cI P) sz) := by
  refine Met.ofW (cc := cX2_begin) (maxL := 2) (ret := none) (by decide) rfl ?_
  intro p e s m args below meth c s₁ B hml hv
  obtain ⟨rfl, hsz, hP, hK, hD0, hN⟩ := hv
  have hx := B.exec
  have hb := B.bytes
  have hr := B.returns
  have hts := atoms_spec (ws := wsX2_begin) B.pre
  have hown : s.vm.findClass RX2 = some m.cls := findClass_of_methodNamed B.named
  have hlocks := B.notSynchronized
  subst hsz
  have hD := hD0.self (sz := s.heap.size)
  generalize hAe : va_A (pW a cI P) s.heap.size = A at hD ⊢
  have hA : ∀ q : Nat, s.heap.size ≤ q → A q := fun q h => by rw [← hAe]; exact Or.inr h
  have hS : va_S A s.heap s.heap [] := va_S.rf
  have hin2 : ∀ w ∈ wsX20, w ∈ wsX2_begin := by decide +kernel
  have lk21 := hts (.fieldLink RX2 21 "PostRounders$Play" "next" "I") (by decide +kernel)
  have lk25 := hts (.fieldLink RX2 25 "PostRounders$Play" "bowler" "I") (by decide +kernel)
  have lk28 := hts (.fieldLink RX2 28 "PostRounders$Play" "size" "I") (by decide +kernel)
  have lk31 := hts (.fieldLink RX2 31 "PostRounders$Play" "points" "I") (by decide +kernel)
  have lk34 := hts (.fieldLink RX2 34 "PostRounders$Play" "balls" "I") (by decide +kernel)
  have hl := lv_entry ([.ref (a 0), .int b]) (n := 2) (Nat.le_of_ble_eq_true rfl)
  rw [lg_entry_eq]
  generalize (lg_sl ([.ref (a 0), .int b]) ++ List.replicate (2 - (lg_sl ([.ref (a 0), .int b])).length) Slot.unset).toArray = ls at hl ⊢
  have hl : lv_has ls 2 [(0, .ref (a 0)), (1, .int b)] := hl
  obtain ⟨OUT, hO⟩ : ∃ z, z = F_X2_begin P b := ⟨_, rfl⟩
  have hF := hO
  unfold F_X2_begin at hF
  refine lv_aload_n hx hb dX2_begin_0 rfl (lv_at hl 0 rfl) ?_
  refine lv_iload_n hx hb dX2_begin_1 rfl (lv_at hl 1 rfl) ?_
  refine va_put (D := (dC, dI)) (ci := 2) (v := .int b) (ty := .int) (C := RX2) (T := TX2) (N := 8) hx hb hts hin2 tyX2 tyX2_ok nmX2 hown hK hP hD hS 0 rfl rfl 0 (by decide) lk25 (fun _ h9 => h9) rfl (by decide +kernel) rfl rfl (Nat.le_of_ble_eq_true rfl) dX2_begin_2 (fun H locs hP hD hS => ?_)
  have hP : va_P (dC, dI) vwCl (pW a cI ((b, Psz P, Pkd P, Plg P, Pwh P, Pnx P, Ppt P, Pbl P))) H := hP
  have hD : va_D A (pW a cI ((b, Psz P, Pkd P, Plg P, Pwh P, Pnx P, Ppt P, Pbl P))) := hD
  refine lv_aload_n hx hb dX2_begin_5 rfl (lv_at hl 0 rfl) ?_
  refine lv_iconst (v := nI 0) hx hb dX2_begin_6 (by decide) ?_
  refine va_put (D := (dC, dI)) (ci := 2) (v := .int (nI 0)) (ty := .int) (C := RX2) (T := TX2) (N := 8) hx hb hts hin2 tyX2 tyX2_ok nmX2 hown hK hP hD hS 0 rfl rfl 1 (by decide) lk28 (fun _ h9 => h9) rfl (by decide +kernel) rfl rfl (Nat.le_of_ble_eq_true rfl) dX2_begin_7 (fun H locs hP hD hS => ?_)
  have hP : va_P (dC, dI) vwCl (pW a cI ((b, nI 0, Pkd P, Plg P, Pwh P, Pnx P, Ppt P, Pbl P))) H := hP
  have hD : va_D A (pW a cI ((b, nI 0, Pkd P, Plg P, Pwh P, Pnx P, Ppt P, Pbl P))) := hD
  refine lv_aload_n hx hb dX2_begin_10 rfl (lv_at hl 0 rfl) ?_
  refine lv_iconst (v := (-1)) hx hb dX2_begin_11 (by decide) ?_
  refine va_put (D := (dC, dI)) (ci := 2) (v := .int ((-1))) (ty := .int) (C := RX2) (T := TX2) (N := 8) hx hb hts hin2 tyX2 tyX2_ok nmX2 hown hK hP hD hS 0 rfl rfl 5 (by decide) lk21 (fun _ h9 => h9) rfl (by decide +kernel) rfl rfl (Nat.le_of_ble_eq_true rfl) dX2_begin_12 (fun H locs hP hD hS => ?_)
  have hP : va_P (dC, dI) vwCl (pW a cI ((b, nI 0, Pkd P, Plg P, Pwh P, (-1), Ppt P, Pbl P))) H := hP
  have hD : va_D A (pW a cI ((b, nI 0, Pkd P, Plg P, Pwh P, (-1), Ppt P, Pbl P))) := hD
  refine lv_aload_n hx hb dX2_begin_15 rfl (lv_at hl 0 rfl) ?_
  refine lv_iconst (v := nI 0) hx hb dX2_begin_16 (by decide) ?_
  refine va_put (D := (dC, dI)) (ci := 2) (v := .int (nI 0)) (ty := .int) (C := RX2) (T := TX2) (N := 8) hx hb hts hin2 tyX2 tyX2_ok nmX2 hown hK hP hD hS 0 rfl rfl 6 (by decide) lk31 (fun _ h9 => h9) rfl (by decide +kernel) rfl rfl (Nat.le_of_ble_eq_true rfl) dX2_begin_17 (fun H locs hP hD hS => ?_)
  have hP : va_P (dC, dI) vwCl (pW a cI ((b, nI 0, Pkd P, Plg P, Pwh P, (-1), nI 0, Pbl P))) H := hP
  have hD : va_D A (pW a cI ((b, nI 0, Pkd P, Plg P, Pwh P, (-1), nI 0, Pbl P))) := hD
  refine lv_aload_n hx hb dX2_begin_20 rfl (lv_at hl 0 rfl) ?_
  refine lv_iconst (v := nI 0) hx hb dX2_begin_21 (by decide) ?_
  refine va_put (D := (dC, dI)) (ci := 2) (v := .int (nI 0)) (ty := .int) (C := RX2) (T := TX2) (N := 8) hx hb hts hin2 tyX2 tyX2_ok nmX2 hown hK hP hD hS 0 rfl rfl 7 (by decide) lk34 (fun _ h9 => h9) rfl (by decide +kernel) rfl rfl (Nat.le_of_ble_eq_true rfl) dX2_begin_22 (fun H locs hP hD hS => ?_)
  have hP : va_P (dC, dI) vwCl (pW a cI ((b, nI 0, Pkd P, Plg P, Pwh P, (-1), nI 0, nI 0))) H := hP
  have hD : va_D A (pW a cI ((b, nI 0, Pkd P, Plg P, Pwh P, (-1), nI 0, nI 0))) := hD
  have hP9 : va_P (dC, dI) vwCl (pW a cI ((b, nI 0, Pkd P, Plg P, Pwh P, (-1), nI 0, nI 0))) H := hP
  exact W.vret hx hb hr (fun t ht hW => ⟨⟨((b, nI 0, Pkd P, Plg P, Pwh P, (-1), nI 0, nI 0)), rfl, hO.symm.trans hF, by rw [ht]; exact hP9, va_K.moved hW.alike hK, hD⟩, hS.F ht⟩) hS.2.2 dX2_begin_25
def F_X2_isDone (P : pS) : Bool := if (Pnx P) < 0 then true else (if (Pnx P) < (Psz P) then false else true)
set_option maxHeartbeats 4000000 in
set_option maxRecDepth 100000 in
theorem c_X2_isDone (l : Launch) (dC : Nat → ClassId) (dI : Nat → Nat → Nat) (a : Nat → Nat) (cI : ClassId) (sz : Nat) (P : pS) : Met l yX2_isDone wsX2_isDone { frames := 0, cells := 0, slots := 0, locals := 0 } (xPc (dC, dI) vwCl (xT cI) (pW a cI P) sz [.ref (a 0)]) (va_Qi (fun (r : Int32) (u : Unit) => ∃ z : Bool, F_X2_isDone P = z ∧ r = if z = true then 1 else 0) (mB (dC, dI) vwCl (xT cI) (va_A (pW a cI P) sz) (fun u => pW a cI P)) (va_A (pW a cI P) sz)) 0 0 (va_A (pW a cI P) sz) := by
  refine Met.ofW (cc := cX2_isDone) (maxL := 1) (ret := (some .boolean)) (by decide) rfl ?_
  intro p e s m args below meth c s₁ B hml hv
  obtain ⟨rfl, hsz, hP, hK, hD0, hN⟩ := hv
  have hx := B.exec
  have hb := B.bytes
  have hr := B.returns
  have hts := atoms_spec (ws := wsX2_isDone) B.pre
  have hown : s.vm.findClass RX2 = some m.cls := findClass_of_methodNamed B.named
  have hlocks := B.notSynchronized
  subst hsz
  have hD := hD0.self (sz := s.heap.size)
  generalize hAe : va_A (pW a cI P) s.heap.size = A at hD ⊢
  have hA : ∀ q : Nat, s.heap.size ≤ q → A q := fun q h => by rw [← hAe]; exact Or.inr h
  have hS : va_S A s.heap s.heap [] := va_S.rf
  have hin2 : ∀ w ∈ wsX20, w ∈ wsX2_isDone := by decide +kernel
  have lk21 := hts (.fieldLink RX2 21 "PostRounders$Play" "next" "I") (by decide +kernel)
  have lk28 := hts (.fieldLink RX2 28 "PostRounders$Play" "size" "I") (by decide +kernel)
  have hl := lv_entry ([.ref (a 0)]) (n := 1) (Nat.le_of_ble_eq_true rfl)
  rw [lg_entry_eq]
  generalize (lg_sl ([.ref (a 0)]) ++ List.replicate (1 - (lg_sl ([.ref (a 0)])).length) Slot.unset).toArray = ls at hl ⊢
  have hl : lv_has ls 1 [(0, .ref (a 0))] := hl
  obtain ⟨OUT, hO⟩ : ∃ z, z = F_X2_isDone P := ⟨_, rfl⟩
  have hF := hO
  unfold F_X2_isDone at hF
  refine lv_aload_n hx hb dX2_isDone_0 rfl (lv_at hl 0 rfl) ?_
  refine va_get (D := (dC, dI)) (ci := 2) (v := .int (Pnx P)) (C := RX2) (T := TX2) (N := 8) hx hb hts hin2 hown hK hP 0 rfl rfl 5 (by decide) lk21 (fun _ h9 => h9) rfl dX2_isDone_1 ?_
  refine lv_if_lt (tgt := 18) hx hb dX2_isDone_4 (by decide) (fun c_4 => ?_) (fun c_4 => ?_)
  · rw [if_pos c_4] at hF
    refine lv_iconst (v := nI 1) hx hb dX2_isDone_18 (by decide) ?_
    refine lv_goto (tgt := 23) hx hb dX2_isDone_19 (by decide) ?_
    have hP9 : va_P (dC, dI) vwCl (pW a cI P) s.heap := hP
    exact W.zret (v := nI 1) hx hb hr (by rfl) (fun t ht hW => ⟨⟨_, (()), rfl, ⟨true, hO.symm.trans hF, rfl⟩, by rw [ht]; exact hP9, va_K.moved hW.alike hK, hD⟩, hS.F ht⟩) hS.2.2 dX2_isDone_23
  · rw [if_neg c_4] at hF
    refine lv_aload_n hx hb dX2_isDone_7 rfl (lv_at hl 0 rfl) ?_
    refine va_get (D := (dC, dI)) (ci := 2) (v := .int (Pnx P)) (C := RX2) (T := TX2) (N := 8) hx hb hts hin2 hown hK hP 0 rfl rfl 5 (by decide) lk21 (fun _ h9 => h9) rfl dX2_isDone_8 ?_
    refine lv_aload_n hx hb dX2_isDone_11 rfl (lv_at hl 0 rfl) ?_
    refine va_get (D := (dC, dI)) (ci := 2) (v := .int (Psz P)) (C := RX2) (T := TX2) (N := 8) hx hb hts hin2 hown hK hP 0 rfl rfl 1 (by decide) lk28 (fun _ h9 => h9) rfl dX2_isDone_12 ?_
    refine lv_icmp_lt (tgt := 22) hx hb dX2_isDone_15 (by decide) (fun c_15 => ?_) (fun c_15 => ?_)
    · rw [if_pos c_15] at hF
      refine lv_iconst (v := nI 0) hx hb dX2_isDone_22 (by decide) ?_
      have hP9 : va_P (dC, dI) vwCl (pW a cI P) s.heap := hP
      exact W.zret (v := nI 0) hx hb hr (by rfl) (fun t ht hW => ⟨⟨_, (()), rfl, ⟨false, hO.symm.trans hF, rfl⟩, by rw [ht]; exact hP9, va_K.moved hW.alike hK, hD⟩, hS.F ht⟩) hS.2.2 dX2_isDone_23
    · rw [if_neg c_15] at hF
      refine lv_iconst (v := nI 1) hx hb dX2_isDone_18 (by decide) ?_
      refine lv_goto (tgt := 23) hx hb dX2_isDone_19 (by decide) ?_
      have hP9 : va_P (dC, dI) vwCl (pW a cI P) s.heap := hP
      exact W.zret (v := nI 1) hx hb hr (by rfl) (fun t ht hW => ⟨⟨_, (()), rfl, ⟨true, hO.symm.trans hF, rfl⟩, by rw [ht]; exact hP9, va_K.moved hW.alike hK, hD⟩, hS.F ht⟩) hS.2.2 dX2_isDone_23
