/-! The law: its loop, its beginning; the claim. (What stands behind whole_start is the skeleton's.) -/
theorem nI_5 (i : Nat) : nI i + nI 5 = nI (i + 5) := nI_add i 5
set_option maxRecDepth 100000 in
set_option maxHeartbeats 4000000 in
theorem law_loop (G : Gl) (X : Cx0) (C : Cx G X cL_law 4 "SliceSolverLaw" 13 478 600000 7302250) (b L : Nat) (xs : Nat → Int32) (hX : va_X b L xs (xS X) (xS X).heap) (hbl : b < (xS X).heap.size) (hG : G.1 = (xS X).heap.size) (hL : L ≤ 2560) (E : ∀ (H : Heap) (ls : Array Slot), W X.1 X.2.1 X.2.2.1 (xR X) (xS X) (xM X) (xA X) (xB X) (xMe X) (xC X) H [] 600000 7302250 (xQ X) (F0 (xM X) 724 ls [.int (nI 1)])) : ∀ (m i : Nat) (σ : SS), L + 5 < i + m → i ≤ L + 5 → InvL σ → V G X 4 136 11551 18 [(0, .ref b), (1, Rf G 0), (2, Rf G 123), (3, .int (nI i))] [] (wld G σ) := by
  intro m
  induction m with
  | zero =>
    intro i σ hm hi5 hI
    exact absurd hm (by omega)
  | succ m ih =>
    intro i σ hm hi5 hI
    refine V.iload_n C 3 rfl rfl dL_law_18 ?_
    refine V.rload_n C 0 rfl rfl dL_law_19 ?_
    refine V.slen C hX hbl hG dL_law_20 ?_
    refine V.iconst C (nI 5) c_5 dL_law_21 ?_
    refine V.isub C dL_law_22 ?_
    refine V.icmp_gt C 723 dL_law_23 rfl (fun _ => ?_) (fun hgt_ => ?_)
    · refine V.iconst C (nI 1) c_1 dL_law_723 ?_
      intro H locs ls a1 a2 a3
      exact va_forget (fun q hq => by have h := a2.2.2 q hq; exact hG ▸ h) (W.widen (Nat.le_of_ble_eq_true rfl) (Nat.le_of_ble_eq_true rfl) (E H ls))
    · have hi : i + 5 ≤ L := law_idx (by omega) hL hgt_
      refine V.rload_n C 0 rfl rfl dL_law_26 ?_
      refine V.iload_n C 3 rfl rfl dL_law_27 ?_
      refine V.sld C hX hbl hG i (by omega) (by omega) dL_law_28 ?_
      refine V.bipush C (nI 31) b_31 dL_law_29 ?_
      refine V.iand C dL_law_31 ?_
      have go : ∀ σ1, InvL σ1 → V G X 4 136 11551 717 [(0, .ref b), (1, Rf G 0), (2, Rf G 123), (3, .int (nI i))] [] (wld G σ1) := by
        intro σ1 h1
        refine V.iinc C (nI (i + 5)) dL_law_717 rfl (nI_5 i) (by decide) ?_
        refine V.goto C 18 dL_law_720 rfl ?_
        refine V.lvs (lv' := [(0, .ref b), (1, Rf G 0), (2, Rf G 123), (3, .int (nI (i + 5)))]) rfl ?_
        exact ih (i + 5) σ1 (by omega) (by omega) h1
      obtain ⟨k, hk, ek⟩ := and31 (xs i)
      rw [ek]
      rcases (show k = 0 ∨ k = 1 ∨ k = 2 ∨ k = 3 ∨ k = 4 ∨ k = 5 ∨ k = 6 ∨ k = 7 ∨ k = 8 ∨ k = 9 ∨ k = 10 ∨ k = 11 ∨ k = 12 ∨ k = 13 ∨ k = 14 ∨ k = 15 ∨ k = 16 ∨ k = 17 ∨ k = 18 ∨ k = 19 ∨ k = 20 ∨ k = 21 ∨ k = 22 ∨ k = 23 ∨ k = 24 ∨ k = 25 ∨ k = 26 ∨ k = 27 ∨ k = 28 ∨ k = 29 ∨ k = 30 ∨ k = 31 by omega) with rfl | rfl | rfl | rfl | rfl | rfl | rfl | rfl | rfl | rfl | rfl | rfl | rfl | rfl | rfl | rfl | rfl | rfl | rfl | rfl | rfl | rfl | rfl | rfl | rfl | rfl | rfl | rfl | rfl | rfl | rfl | rfl
      · exact V.tabIn (off := 124) C 156 dL_law_32 (by decide) (by decide) (by decide) (by decide) (law_append G X C b L xs hX hbl hG hL i hi σ hI go)
      · exact V.tabIn (off := 147) C 179 dL_law_32 (by decide) (by decide) (by decide) (by decide) (law_clearText G X C b L xs hX hbl hG hL i hi σ hI go)
      · exact V.tabIn (off := 160) C 192 dL_law_32 (by decide) (by decide) (by decide) (by decide) (law_load G X C b L xs hX hbl hG hL i hi σ hI go)
      · exact V.tabIn (off := 173) C 205 dL_law_32 (by decide) (by decide) (by decide) (by decide) (law_removeEquation G X C b L xs hX hbl hG hL i hi σ hI go)
      · exact V.tabIn (off := 196) C 228 dL_law_32 (by decide) (by decide) (by decide) (by decide) (law_removeDisequation G X C b L xs hX hbl hG hL i hi σ hI go)
      · exact V.tabIn (off := 219) C 251 dL_law_32 (by decide) (by decide) (by decide) (by decide) (law_width G X C b L xs hX hbl hG hL i hi σ hI go)
      · exact V.tabIn (off := 242) C 274 dL_law_32 (by decide) (by decide) (by decide) (by decide) (law_equationCount G X C b L xs hX hbl hG hL i hi σ hI go)
      · exact V.tabIn (off := 255) C 287 dL_law_32 (by decide) (by decide) (by decide) (by decide) (law_disequationCount G X C b L xs hX hbl hG hL i hi σ hI go)
      · exact V.tabIn (off := 268) C 300 dL_law_32 (by decide) (by decide) (by decide) (by decide) (law_sliceCount G X C b L xs hX hbl hG hL i hi σ hI go)
      · exact V.tabIn (off := 291) C 323 dL_law_32 (by decide) (by decide) (by decide) (by decide) (law_sliceStart G X C b L xs hX hbl hG hL i hi σ hI go)
      · exact V.tabIn (off := 324) C 356 dL_law_32 (by decide) (by decide) (by decide) (by decide) (law_sliceWidth G X C b L xs hX hbl hG hL i hi σ hI go)
      · exact V.tabIn (off := 357) C 389 dL_law_32 (by decide) (by decide) (by decide) (by decide) (law_representative G X C b L xs hX hbl hG hL i hi σ hI go)
      · exact V.tabIn (off := 390) C 422 dL_law_32 (by decide) (by decide) (by decide) (by decide) (law_classCount G X C b L xs hX hbl hG hL i hi σ hI go)
      · exact V.tabIn (off := 403) C 435 dL_law_32 (by decide) (by decide) (by decide) (by decide) (law_isConsistent G X C b L xs hX hbl hG hL i hi σ hI go)
      · exact V.tabIn (off := 416) C 448 dL_law_32 (by decide) (by decide) (by decide) (by decide) (law_firstConflict G X C b L xs hX hbl hG hL i hi σ hI go)
      · exact V.tabIn (off := 429) C 461 dL_law_32 (by decide) (by decide) (by decide) (by decide) (law_conflictSet G X C b L xs hX hbl hG hL i hi σ hI go)
      · exact V.tabIn (off := 442) C 474 dL_law_32 (by decide) (by decide) (by decide) (by decide) (law_fixedBit G X C b L xs hX hbl hG hL i hi σ hI go)
      · exact V.tabIn (off := 475) C 507 dL_law_32 (by decide) (by decide) (by decide) (by decide) (law_compareBits G X C b L xs hX hbl hG hL i hi σ hI go)
      · exact V.tabIn (off := 528) C 560 dL_law_32 (by decide) (by decide) (by decide) (by decide) (law_freeBits G X C b L xs hX hbl hG hL i hi σ hI go)
      · exact V.tabIn (off := 541) C 573 dL_law_32 (by decide) (by decide) (by decide) (by decide) (law_isSatisfiable G X C b L xs hX hbl hG hL i hi σ hI go)
      · exact V.tabIn (off := 554) C 586 dL_law_32 (by decide) (by decide) (by decide) (by decide) (law_oneBits G X C b L xs hX hbl hG hL i hi σ hI go)
      · exact V.tabIn (off := 567) C 599 dL_law_32 (by decide) (by decide) (by decide) (by decide) (law_value G X C b L xs hX hbl hG hL i hi σ hI go)
      · exact V.tabIn (off := 590) C 622 dL_law_32 (by decide) (by decide) (by decide) (by decide) (law_isImplied G X C b L xs hX hbl hG hL i hi σ hI go)
      · exact V.tabIn (off := 613) C 645 dL_law_32 (by decide) (by decide) (by decide) (by decide) (law_undo G X C b L xs hX hbl hG hL i hi σ hI go)
      · exact V.tabIn (off := 626) C 658 dL_law_32 (by decide) (by decide) (by decide) (by decide) (law_undoDepth G X C b L xs hX hbl hG hL i hi σ hI go)
      · exact V.tabIn (off := 639) C 671 dL_law_32 (by decide) (by decide) (by decide) (by decide) (law_save G X C b L xs hX hbl hG hL i hi σ hI go)
      · exact V.tabIn (off := 662) C 694 dL_law_32 (by decide) (by decide) (by decide) (by decide) (law_restore G X C b L xs hX hbl hG hL i hi σ hI go)
      · exact V.tabOut C 717 dL_law_32 (Or.inr (by decide)) (by decide) (go σ hI)
      · exact V.tabOut C 717 dL_law_32 (Or.inr (by decide)) (by decide) (go σ hI)
      · exact V.tabOut C 717 dL_law_32 (Or.inr (by decide)) (by decide) (go σ hI)
      · exact V.tabOut C 717 dL_law_32 (Or.inr (by decide)) (by decide) (go σ hI)
      · exact V.tabOut C 717 dL_law_32 (Or.inr (by decide)) (by decide) (go σ hI)
