set_option maxHeartbeats 4000000 in
set_option maxRecDepth 100000 in
theorem lw_loop {p : Program} {l : Launch} {e : Env} {s : State} {m : MethodId} {below : List Frame} {meth : Method} {c : Code} {dC : Nat → ClassId} {dI : Nat → Nat → Nat} {x q : Nat → Nat} {b L : Nat} {xs : Nat → Int32} {cI cP cA cF cZ : ClassId} {t fr : Nat} {adK adV : Nat → Nat} (hC : LawC p s m meth c b L xs dC dI cI cP cA cF cZ t fr adK adV) : ∀ n : Nat, HeadQ p l e s m below meth c dC dI x q b L cI cP cA cF cZ n := by
  intro n
  induction n with
  | zero =>
    intro i X P Rw No Ma Pa fI Tx Rf bb Rd P3 Eb L0 L1 L2 L3 L4 W0 W1 W2 W3 W4 Cs Tr Tu Be Se Gm w kp po st nu li fi ga hh im0 im1 H locs ls hi hf
    omega
  | succ n ih =>
    intro i X P Rw No Ma Pa fI Tx Rf bb Rd P3 Eb L0 L1 L2 L3 L4 W0 W1 W2 W3 W4 Cs Tr Tu Be Se Gm w kp po st nu li fi ga hh im0 im1 H locs ls hi hf hR hP hD hS hl
    have hC0 := hC
    obtain ⟨hx, hb, hr, hml, hown, hts, hX, hbl, hlocks, hK, hN, hE, hG, hXA, hL⟩ := hC
    refine lv_iload_n hx hb dL_law_18 rfl (lv_at hl 3 rfl) ?_
    refine lv_aload_n hx hb dL_law_19 rfl (lv_at hl 0 rfl) ?_
    refine va_slen hx hb hX hbl (Nat.not_le.mpr hbl) hS dL_law_20 ?_
    refine lv_iconst (v := nI 5) hx hb dL_law_21 (by decide) ?_
    refine lv_isub hx hb dL_law_22 ?_
    refine lv_icmp_gt (tgt := 1017) hx hb dL_law_23 (by decide) (fun z => ?_) (fun z => ?_)
    · refine lv_iconst (v := 1) hx hb dL_law_1017 (by decide) ?_
      refine va_forget (fun q hq => hS.2.2 q hq) ?_
      refine W.widen (k := 600000) (n := 7302250) (by omega) (by omega) ?_
      exact lw_ret hx hb hr hlocks dL_law_1018
    · have h5 : i + 5 ≤ L := lw_lim hL (by omega) z
      refine lv_aload_n hx hb dL_law_26 rfl (lv_at hl 0 rfl) ?_
      refine lv_iload_n hx hb dL_law_27 rfl (lv_at hl 3 rfl) ?_
      refine qv_sld hx hb hX hbl hS (k := i) (by omega) hL dL_law_28 ?_
      refine lv_bipush (v := nI 63) hx hb dL_law_29 (by decide) ?_
      refine lv_iand hx hb dL_law_31 ?_
      generalize xs i &&& nI 63 = v
      by_cases hv : v.toInt < 0 ∨ 32 < v.toInt
      · refine lv_tableOut (tgt := 1011) hx hb dL_law_32 hv (by decide) ?_
        exact lw_tail hC0 ih h5 hf (by omega) (by omega) hR hP hD hS hl
      · obtain ⟨k, hk, rfl⟩ : ∃ k : Nat, k ≤ 32 ∧ v = nI k := ⟨v.toInt.toNat, by omega, Int32.toInt_inj.mp (by rw [nI_toInt (by omega)]; omega)⟩
        clear hv
        have : k = 0 ∨ k = 1 ∨ k = 2 ∨ k = 3 ∨ k = 4 ∨ k = 5 ∨ k = 6 ∨ k = 7 ∨ k = 8 ∨ k = 9 ∨ k = 10 ∨ k = 11 ∨ k = 12 ∨ k = 13 ∨ k = 14 ∨ k = 15 ∨ k = 16 ∨ k = 17 ∨ k = 18 ∨ k = 19 ∨ k = 20 ∨ k = 21 ∨ k = 22 ∨ k = 23 ∨ k = 24 ∨ k = 25 ∨ k = 26 ∨ k = 27 ∨ k = 28 ∨ k = 29 ∨ k = 30 ∨ k = 31 ∨ k = 32 := by omega
        rcases this with rfl | rfl | rfl | rfl | rfl | rfl | rfl | rfl | rfl | rfl | rfl | rfl | rfl | rfl | rfl | rfl | rfl | rfl | rfl | rfl | rfl | rfl | rfl | rfl | rfl | rfl | rfl | rfl | rfl | rfl | rfl | rfl | rfl
        · refine lv_tableIn (off := 148) (tgt := 180) hx hb dL_law_32 (by decide) (by decide) (by decide) (by decide) ?_
          exact lw_case_field hC0 ih h5 hf hR hP hD hS hl
        · refine lv_tableIn (off := 171) (tgt := 203) hx hb dL_law_32 (by decide) (by decide) (by decide) (by decide) ?_
          exact lw_case_bowler hC0 ih h5 hf hR hP hD hS hl
        · refine lv_tableIn (off := 194) (tgt := 226) hx hb dL_law_32 (by decide) (by decide) (by decide) (by decide) ?_
          exact lw_case_batter hC0 ih h5 hf hR hP hD hS hl
        · refine lv_tableIn (off := 227) (tgt := 259) hx hb dL_law_32 (by decide) (by decide) (by decide) (by decide) ?_
          exact lw_case_type hC0 ih h5 hf hR hP hD hS hl
        · refine lv_tableIn (off := 250) (tgt := 282) hx hb dL_law_32 (by decide) (by decide) (by decide) (by decide) ?_
          exact lw_case_clear hC0 ih h5 hf hR hP hD hS hl
        · refine lv_tableIn (off := 263) (tgt := 295) hx hb dL_law_32 (by decide) (by decide) (by decide) (by decide) ?_
          exact lw_case_read hC0 ih h5 hf hR hP hD hS hl
        · refine lv_tableIn (off := 276) (tgt := 308) hx hb dL_law_32 (by decide) (by decide) (by decide) (by decide) ?_
          exact lw_case_hits hC0 ih h5 hf hR hP hD hS hl
        · refine lv_tableIn (off := 299) (tgt := 331) hx hb dL_law_32 (by decide) (by decide) (by decide) (by decide) ?_
          exact lw_case_sends hC0 ih h5 hf hR hP hD hS hl
        · refine lv_tableIn (off := 322) (tgt := 354) hx hb dL_law_32 (by decide) (by decide) (by decide) (by decide) ?_
          exact lw_case_row hC0 ih h5 hf hR hP hD hS hl
        · refine lv_tableIn (off := 355) (tgt := 387) hx hb dL_law_32 (by decide) (by decide) (by decide) (by decide) ?_
          exact lw_case_undo hC0 ih h5 hf hR hP hD hS hl
        · refine lv_tableIn (off := 368) (tgt := 400) hx hb dL_law_32 (by decide) (by decide) (by decide) (by decide) ?_
          exact lw_case_of hC0 ih h5 hf hR hP hD hS hl
        · refine lv_tableIn (off := 401) (tgt := 433) hx hb dL_law_32 (by decide) (by decide) (by decide) (by decide) ?_
          exact lw_case_worth hC0 ih h5 hf hR hP hD hS hl
        · refine lv_tableIn (off := 434) (tgt := 466) hx hb dL_law_32 (by decide) (by decide) (by decide) (by decide) ?_
          exact lw_case_score hC0 ih h5 hf hR hP hD hS hl
        · refine lv_tableIn (off := 457) (tgt := 489) hx hb dL_law_32 (by decide) (by decide) (by decide) (by decide) ?_
          exact lw_case_order hC0 ih h5 hf hR hP hD hS hl
        · refine lv_tableIn (off := 490) (tgt := 522) hx hb dL_law_32 (by decide) (by decide) (by decide) (by decide) ?_
          exact lw_case_against hC0 ih h5 hf hR hP hD hS hl
        · refine lv_tableIn (off := 523) (tgt := 555) hx hb dL_law_32 (by decide) (by decide) (by decide) (by decide) ?_
          exact lw_case_chance hC0 ih h5 hf hR hP hD hS hl
        · refine lv_tableIn (off := 556) (tgt := 588) hx hb dL_law_32 (by decide) (by decide) (by decide) (by decide) ?_
          exact lw_case_mean hC0 ih h5 hf hR hP hD hS hl
        · refine lv_tableIn (off := 579) (tgt := 611) hx hb dL_law_32 (by decide) (by decide) (by decide) (by decide) ?_
          exact lw_case_send hC0 ih h5 hf hR hP hD hS hl
        · refine lv_tableIn (off := 602) (tgt := 634) hx hb dL_law_32 (by decide) (by decide) (by decide) (by decide) ?_
          exact lw_case_note hC0 ih h5 hf hR hP hD hS hl
        · refine lv_tableIn (off := 645) (tgt := 677) hx hb dL_law_32 (by decide) (by decide) (by decide) (by decide) ?_
          exact lw_case_mark hC0 ih h5 hf hR hP hD hS hl
        · refine lv_tableIn (off := 698) (tgt := 730) hx hb dL_law_32 (by decide) (by decide) (by decide) (by decide) ?_
          exact lw_case_forget hC0 ih h5 hf hR hP hD hS hl
        · refine lv_tableIn (off := 721) (tgt := 753) hx hb dL_law_32 (by decide) (by decide) (by decide) (by decide) ?_
          exact lw_case_is hC0 ih h5 hf hR hP hD hS hl
        · refine lv_tableIn (off := 734) (tgt := 766) hx hb dL_law_32 (by decide) (by decide) (by decide) (by decide) ?_
          exact lw_case_look hC0 ih h5 hf hR hP hD hS hl
        · refine lv_tableIn (off := 747) (tgt := 779) hx hb dL_law_32 (by decide) (by decide) (by decide) (by decide) ?_
          exact lw_case_kinds hC0 ih h5 hf hR hP hD hS hl
        · refine lv_tableIn (off := 770) (tgt := 802) hx hb dL_law_32 (by decide) (by decide) (by decide) (by decide) ?_
          exact lw_case_ask hC0 ih h5 hf hR hP hD hS hl
        · refine lv_tableIn (off := 793) (tgt := 825) hx hb dL_law_32 (by decide) (by decide) (by decide) (by decide) ?_
          exact lw_case_captains hC0 ih h5 hf hR hP hD hS hl
        · refine lv_tableIn (off := 816) (tgt := 848) hx hb dL_law_32 (by decide) (by decide) (by decide) (by decide) ?_
          exact lw_case_days hC0 ih h5 hf hR hP hD hS hl
        · refine lv_tableIn (off := 849) (tgt := 881) hx hb dL_law_32 (by decide) (by decide) (by decide) (by decide) ?_
          exact lw_case_part hC0 ih h5 hf hR hP hD hS hl
        · refine lv_tableIn (off := 873) (tgt := 905) hx hb dL_law_32 (by decide) (by decide) (by decide) (by decide) ?_
          exact lw_case_image hC0 ih h5 hf hR hP hD hS hl
        · refine lv_tableIn (off := 896) (tgt := 928) hx hb dL_law_32 (by decide) (by decide) (by decide) (by decide) ?_
          exact lw_case_from hC0 ih h5 hf hR hP hD hS hl
        · refine lv_tableIn (off := 919) (tgt := 951) hx hb dL_law_32 (by decide) (by decide) (by decide) (by decide) ?_
          exact lw_case_status hC0 ih h5 hf hR hP hD hS hl
        · refine lv_tableIn (off := 942) (tgt := 974) hx hb dL_law_32 (by decide) (by decide) (by decide) (by decide) ?_
          exact lw_case_count hC0 ih h5 hf hR hP hD hS hl
        · refine lv_tableIn (off := 965) (tgt := 997) hx hb dL_law_32 (by decide) (by decide) (by decide) (by decide) ?_
          exact lw_case_digest hC0 ih h5 hf hR hP hD hS hl
