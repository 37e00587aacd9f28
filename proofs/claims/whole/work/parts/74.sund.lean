/-! The solver: undo, undoDepth, save, restore. -/
theorem RH.pop {σ : SS} {hs : List Prob} (h : RH σ hs) : RH (sF σ 29 1 (nI (hs.length - 1))) (hs.take (hs.length - 1)) := by
  obtain ⟨h1, h2, h3, h4, h5, h7⟩ := h
  have hl : (hs.take (hs.length - 1)).length = hs.length - 1 := by rw [List.length_take]; omega
  refine ⟨by rw [sF_F, hl], by omega, h3, h4, fun j hj => ?_, fun i P hi => ?_⟩
  · obtain ⟨P, hP⟩ := h5 j hj
    have := hix_in (h3 j hj)
    exact ⟨P, hP.sm (sF_sm (c := 31) (d := 91) (by omega)) this.1 (by omega)⟩
  · have hi1 : i < hs.length - 1 := by rw [← hl]; exact (List.getElem?_eq_some_iff.mp hi).1
    rw [List.getElem?_take, if_pos hi1] at hi
    have := hix_in (h3 i (by omega))
    exact (h7 i P hi).sm (sF_sm (c := 31) (d := 91) (by omega)) this.1 (by omega)
theorem RH.none {σ : SS} {hs : List Prob} (h : RH σ hs) : RH (sF σ 29 1 (nI 0)) [] := by
  obtain ⟨h1, h2, h3, h4, h5, h7⟩ := h
  refine ⟨sF_F _ _ _ _, by decide, h3, h4, fun j hj => ?_, fun i P hi => by cases hi⟩
  obtain ⟨P, hP⟩ := h5 j hj
  have := hix_in (h3 j hj)
  exact ⟨P, hP.sm (sF_sm (c := 31) (d := 91) (by omega)) this.1 (by omega)⟩
set_option maxRecDepth 100000 in
set_option maxHeartbeats 4000000 in
theorem ct_S_undoDepth (G : Gl) (σ : SS) (n : Nat) (ch : Nat → Nat) (P : Prob) (hs : List Prob) (sl : Nat → Option Prob) (hI : IS σ n ch P hs sl) : CI G mX9_undoDepth [Rf G 0] σ (fun r σ1 => r = nI hs.length ∧ σ1 = σ) := by
  refine Ctr.of oX9_undoDepth (Nat.le_of_ble_eq_true rfl) ?_
  intro X C R hnm hz0
  have C : Cx G X cX9_undoDepth 1 RX9 1 20 0 0 := C
  have R : Cr G X (some .int) 0 0 _ := R
  show V G X 1 0 0 0 [(0, Rf G 0)] [] (wld G σ)
  have kk_0 := sk_0
  have kk_1 := sk_1
  have kk_6 := sk_6
  have kk_9 := sk_9
  have kk_11 := sk_11
  have kk_15 := sk_15
  have kk_19 := sk_19
  have kk_29 := sk_29
  have kk_91 := sk_91
  have kk_101 := sk_101
  have kk_111 := sk_111
  have kk_113 := sk_113
  have kk_116 := sk_116
  have kk_119 := sk_119
  have hC := hI.1
  have hW := hC.2.1
  obtain ⟨hT, ⟨D0, hD⟩, hH, hS⟩ := hI.2
  refine V.aload_n C 0 rfl rfl dX9_undoDepth_0 ?_
  refine V.getR C fX9_38 dX9_undoDepth_1 (by assumption) rfl ?_
  refine V.cVi C lX9_192 oX2_depth dX9_undoDepth_4 (ct_Hi_depth G σ) (by assumption) rfl rfl (Nat.le_of_ble_eq_true rfl) ⟨Nat.le_of_ble_eq_true rfl, Nat.le_of_ble_eq_true rfl⟩ ⟨Nat.le_of_ble_eq_true rfl, Nat.le_of_ble_eq_true rfl⟩ (fun rr_4 σ4 pp_4 => ?_)
  obtain ⟨ee_4, ff_4⟩ := pp_4
  rw [ee_4, ff_4]
  exact V.iretS C R dX9_undoDepth_7 ⟨hH.1, rfl⟩
set_option maxRecDepth 100000 in
set_option maxHeartbeats 4000000 in
theorem ct_S_undo (G : Gl) (σ : SS) (n : Nat) (ch : Nat → Nat) (P : Prob) (hs : List Prob) (sl : Nat → Option Prob) (hwH : wfH hs) (hI : IS σ n ch P hs sl) : CI G mX9_undo [Rf G 0] σ (fun r σ1 => r = udR hs ∧ IS σ1 n ch (udP hs P) (udH hs) sl ∧ Sm 123 136 σ σ1) := by
  refine Ctr.of oX9_undo (Nat.le_of_ble_eq_true rfl) ?_
  intro X C R hnm hz0
  have C : Cx G X cX9_undo 1 RX9 6 141 0 0 := C
  have R : Cr G X (some .int) 0 0 _ := R
  show V G X 1 0 0 0 [(0, Rf G 0)] [] (wld G σ)
  have kk_0 := sk_0
  have kk_1 := sk_1
  have kk_6 := sk_6
  have kk_9 := sk_9
  have kk_11 := sk_11
  have kk_15 := sk_15
  have kk_19 := sk_19
  have kk_29 := sk_29
  have kk_91 := sk_91
  have kk_101 := sk_101
  have kk_111 := sk_111
  have kk_113 := sk_113
  have kk_116 := sk_116
  have kk_119 := sk_119
  have hC := hI.1
  have hW := hC.2.1
  obtain ⟨hT, ⟨D0, hD⟩, hH, hS⟩ := hI.2
  have h6_ := hH.2.1
  refine V.aload_n C 0 rfl rfl dX9_undo_0 ?_
  refine V.getR C fX9_38 dX9_undo_1 (by assumption) rfl ?_
  refine V.cVi C lX9_192 oX2_depth dX9_undo_4 (ct_Hi_depth G σ) (by assumption) rfl rfl (Nat.le_of_ble_eq_true rfl) ⟨Nat.le_of_ble_eq_true rfl, Nat.le_of_ble_eq_true rfl⟩ ⟨Nat.le_of_ble_eq_true rfl, Nat.le_of_ble_eq_true rfl⟩ (fun rr_4 σ4 pp_4 => ?_)
  obtain ⟨ee_4, ff_4⟩ := pp_4
  rw [ee_4, ff_4]
  rw [hH.1]
  refine V.if_ne C 13 dX9_undo_7 rfl (fun hb_7 => ?_) (fun hb_7 => ?_)
  · have z_ : ¬ hs.length = 0 := fun q => hb_7 (by rw [q]; rfl)
    obtain ⟨Q, hQ_⟩ : ∃ Q, hs[hs.length - 1]? = some Q := ⟨_, List.getElem?_eq_getElem (by omega)⟩
    refine V.aload_n C 0 rfl rfl dX9_undo_13 ?_
    refine V.getR C fX9_38 dX9_undo_14 (by assumption) rfl ?_
    refine V.aload_n C 0 rfl rfl dX9_undo_17 ?_
    refine V.getR C fX9_28 dX9_undo_18 (by assumption) rfl ?_
    refine V.cVv C lX9_195 oX2_popInto dX9_undo_21 (ct_Hi_pop G σ hs P Q hH (by omega) hQ_ (hwH _ Q hQ_).okP hC.1) (by assumption) rfl rfl (Nat.le_of_ble_eq_true rfl) ⟨Nat.le_of_ble_eq_true rfl, Nat.le_of_ble_eq_true rfl⟩ ⟨Nat.le_of_ble_eq_true rfl, Nat.le_of_ble_eq_true rfl⟩ (fun σ21 pp_21 => ?_)
    refine V.aload_n C 0 rfl rfl dX9_undo_24 ?_
    refine V.cVv C lX9_106 oX9_slice dX9_undo_25 (ct_S_slice G σ21 Q pp_21.1 (hwH _ Q hQ_)) (by assumption) rfl rfl (Nat.le_of_ble_eq_true rfl) ⟨Nat.le_of_ble_eq_true rfl, Nat.le_of_ble_eq_true rfl⟩ ⟨Nat.le_of_ble_eq_true rfl, Nat.le_of_ble_eq_true rfl⟩ (fun σ25 pp_25 => ?_)
    refine V.aload_n C 0 rfl rfl dX9_undo_28 ?_
    refine V.getR C fX9_38 dX9_undo_29 (by assumption) rfl ?_
    refine V.cVi C lX9_192 oX2_depth dX9_undo_32 (ct_Hi_depth G σ25) (by assumption) rfl rfl (Nat.le_of_ble_eq_true rfl) ⟨Nat.le_of_ble_eq_true rfl, Nat.le_of_ble_eq_true rfl⟩ ⟨Nat.le_of_ble_eq_true rfl, Nat.le_of_ble_eq_true rfl⟩ (fun rr_32 σ32 pp_32 => ?_)
    obtain ⟨ee_32, ff_32⟩ := pp_32
    rw [ee_32, ff_32]
    exact V.iretS C R dX9_undo_35 (by
      have s_ : Sm 91 111 σ σ25 := ((sF_sm (by omega)).trans (pp_21.2.sm (by omega))).trans (pp_25.2.sm (by omega) (by omega))
      have m_ : Sm 123 136 σ σ25 := ((sF_sm (by omega)).trans (pp_21.2.sm (by omega))).trans (pp_25.2.sm (by omega) (by omega))
      have d_ : Sm 19 29 σ σ25 := ((sF_sm (by omega)).trans (pp_21.2.sm (by omega))).trans (pp_25.2.sm (by omega) (by omega))
      have t_ : Sm 1 3 σ σ25 := ((sF_sm (by omega)).trans (pp_21.2.sm (by omega))).trans (pp_25.2.sm (by omega) (by omega))
      have h_ : Sm 29 91 (sF σ 29 1 (nI (hs.length - 1))) σ25 := (pp_21.2.sm (by omega)).trans (pp_25.2.sm (by omega) (by omega))
      have e7_ : σ25.1 0 7 = σ.1 0 7 := by
        rw [pp_25.2.2.1, pp_21.2.F (by omega), sF_row _ _ _ (by omega)]
      have eP_ : σ25.2.2.2 = (sF σ 29 1 (nI (hs.length - 1))).2.2.2 := by rw [pp_25.2.2.2]; exact pp_21.2.2
      have H_ := hH.pop.sm h_ eP_
      refine ⟨?_, ?_, m_⟩
      · unfold udR; rw [if_neg z_, H_.1, List.length_take]; congr 1; omega
      · unfold udP udH
        rw [if_neg z_, show hs.getD (hs.length - 1) pb0 = Q by rw [List.getD_eq_getElem?_getD, hQ_]; rfl]
        exact ⟨pp_25.1, hT.sm t_, ⟨D0, hD.sm d_ (by omega) (by omega)⟩, H_, hS.sm s_ e7_⟩)
  · have z_ : hs.length = 0 := nI_pe (by omega) (by omega) hb_7
    refine V.bipush C ((-2)) b_m2 dX9_undo_10 ?_
    exact V.iretS C R dX9_undo_12 ⟨by unfold udR; rw [if_pos z_], by unfold udP udH; rw [if_pos z_, z_, List.eq_nil_of_length_eq_zero z_]; rw [List.eq_nil_of_length_eq_zero z_] at hI; exact hI, Sm.refl _ _ _⟩
set_option maxRecDepth 100000 in
set_option maxHeartbeats 4000000 in
theorem ct_S_snapshot (G : Gl) (σ : SS) (s : Nat) (hs2 : s < 2) : CR G mX9_snapshot [Rf G 0, .int (nI s)] σ (fun r σ1 => r = 91 + 10 * s ∧ σ1 = σ) := by
  refine Ctr.of oX9_snapshot (Nat.le_of_ble_eq_true rfl) ?_
  intro X C R hnm hz0
  have C : Cx G X cX9_snapshot 2 RX9 0 0 0 0 := C
  have R : Cr G X (some (.object "SliceSolver$Problem")) 0 0 _ := R
  show V G X 2 0 0 0 [(0, Rf G 0), (1, .int (nI s))] [] (wld G σ)
  have kk_0 := sk_0
  have kk_1 := sk_1
  have kk_6 := sk_6
  have kk_9 := sk_9
  have kk_11 := sk_11
  have kk_15 := sk_15
  have kk_19 := sk_19
  have kk_29 := sk_29
  have kk_91 := sk_91
  have kk_101 := sk_101
  have kk_111 := sk_111
  have kk_113 := sk_113
  have kk_116 := sk_116
  have kk_119 := sk_119
  refine V.iload_n C 1 rfl rfl dX9_snapshot_0 ?_
  refine V.if_ne C 11 dX9_snapshot_1 rfl (fun hb_1 => ?_) (fun hb_1 => ?_)
  · have z_ : s = 1 := by have : ¬ s = 0 := fun q => hb_1 (by rw [q]; rfl); omega
    refine V.aload_n C 0 rfl rfl dX9_snapshot_11 ?_
    refine V.getR C fX9_45 dX9_snapshot_12 (by assumption) rfl ?_
    exact V.aretS C R dX9_snapshot_15 ⟨by rw [z_], rfl⟩
  · have z_ : s = 0 := nI_pe (by omega) (by omega) hb_1
    refine V.aload_n C 0 rfl rfl dX9_snapshot_4 ?_
    refine V.getR C fX9_42 dX9_snapshot_5 (by assumption) rfl ?_
    refine V.goto C 15 dX9_snapshot_8 rfl ?_
    exact V.aretS C R dX9_snapshot_15 ⟨by rw [z_], rfl⟩
theorem slot_pb {s : Nat} (h : s < 2) : PbA (91 + 10 * s) := by
  rcases (show s = 0 ∨ s = 1 by omega) with rfl | rfl
  · exact PbA_of (by decide)
  · exact PbA_of (by decide)
set_option maxRecDepth 100000 in
set_option maxHeartbeats 4000000 in
theorem ct_S_save (G : Gl) (σ : SS) (n : Nat) (ch : Nat → Nat) (P : Prob) (hs : List Prob) (sl : Nat → Option Prob) (x : Int32) (hI : IS σ n ch P hs sl) : CI G mX9_save [Rf G 0, .int x] σ (fun r σ1 => r = svR P x ∧ IS σ1 n ch P hs (svS P sl x) ∧ Sm 123 136 σ σ1) := by
  refine Ctr.of oX9_save (Nat.le_of_ble_eq_true rfl) ?_
  intro X C R hnm hz0
  have C : Cx G X cX9_save 2 RX9 4 95 0 0 := C
  have R : Cr G X (some .int) 0 0 _ := R
  show V G X 2 0 0 0 [(0, Rf G 0), (1, .int x)] [] (wld G σ)
  have kk_0 := sk_0
  have kk_1 := sk_1
  have kk_6 := sk_6
  have kk_9 := sk_9
  have kk_11 := sk_11
  have kk_15 := sk_15
  have kk_19 := sk_19
  have kk_29 := sk_29
  have kk_91 := sk_91
  have kk_101 := sk_101
  have kk_111 := sk_111
  have kk_113 := sk_113
  have kk_116 := sk_116
  have kk_119 := sk_119
  have hC := hI.1
  have hW := hC.2.1
  obtain ⟨hT, ⟨D0, hD⟩, hH, hS⟩ := hI.2
  refine V.iload_n C 1 rfl rfl dX9_save_0 ?_
  refine V.cSi C lX9_198 oX9_isSlot dX9_save_1 (ct_isSlot G σ x) rfl rfl (Nat.le_of_ble_eq_true rfl) ⟨Nat.le_of_ble_eq_true rfl, Nat.le_of_ble_eq_true rfl⟩ ⟨Nat.le_of_ble_eq_true rfl, Nat.le_of_ble_eq_true rfl⟩ (fun rr_1 σ1 pp_1 => ?_)
  obtain ⟨ee_1, ff_1⟩ := pp_1
  rw [ee_1, ff_1]
  refine V.if_ne C 9 dX9_save_4 rfl (fun hb_4 => ?_) (fun hb_4 => ?_)
  · have z_ := bI_ne0 hb_4
    obtain ⟨s, hs2_, rfl⟩ := inB_of (by decide) z_
    obtain ⟨Q0, hQ0_⟩ := hS.1 s hs2_
    have kk_s := (slot_pb hs2_).1
    refine V.aload_n C 0 rfl rfl dX9_save_9 ?_
    refine V.iload_n C 1 rfl rfl dX9_save_10 ?_
    refine V.cVr C lX9_201 oX9_snapshot dX9_save_11 (ct_S_snapshot G σ s hs2_) (by assumption) rfl rfl (Nat.le_of_ble_eq_true rfl) ⟨Nat.le_of_ble_eq_true rfl, Nat.le_of_ble_eq_true rfl⟩ ⟨Nat.le_of_ble_eq_true rfl, Nat.le_of_ble_eq_true rfl⟩ (fun rr_11 σ11 pp_11 => ?_)
    obtain ⟨ee_11, ff_11⟩ := pp_11
    rw [ee_11, ff_11]
    refine V.aload_n C 0 rfl rfl dX9_save_14 ?_
    refine V.getR C fX9_28 dX9_save_15 (by assumption) rfl ?_
    refine V.cVv C lX9_103 oX4_copyFrom dX9_save_18 (ct_Pb_copyFrom G σ (91 + 10 * s) 9 P Q0 (slot_pb hs2_) (PbA_of (by decide)) hC.1 hQ0_ hW.okP (by omega)) (by assumption) rfl rfl (Nat.le_of_ble_eq_true rfl) ⟨Nat.le_of_ble_eq_true rfl, Nat.le_of_ble_eq_true rfl⟩ ⟨Nat.le_of_ble_eq_true rfl, Nat.le_of_ble_eq_true rfl⟩ (fun σ18 pp_18 => ?_)
    refine V.aload_n C 0 rfl rfl dX9_save_21 ?_
    refine V.dup C rfl dX9_save_22 ?_
    refine V.getI C fX9_72 dX9_save_23 (by assumption) rfl ?_
    refine V.iconst C (nI 1) c_1 dX9_save_26 ?_
    refine V.iload_n C 1 rfl rfl dX9_save_27 ?_
    refine V.ishl C dX9_save_28 ?_
    refine V.ior C dX9_save_29 ?_
    refine V.putI C fX9_72 dX9_save_30 (by assumption) rfl ?_
    have P9_ : RP (sF σ18 0 7 (σ18.1 0 7 ||| shl32 (nI 1) (nI s))) 9 P := (hC.1.fr pp_18.2 (by omega)).sm (sF_sm (c := 9) (d := 19) (by omega)) (by omega) (by omega)
    refine V.aload_n C 0 rfl rfl dX9_save_33 ?_
    refine V.getR C fX9_28 dX9_save_34 (by assumption) rfl ?_
    refine V.cVi C lX9_109 oX4_statementCount dX9_save_37 (ct_Pb_statementCount G (sF σ18 0 7 (σ18.1 0 7 ||| shl32 (nI 1) (nI s))) 9 P (PbA_of (by decide)) P9_) (by assumption) rfl rfl (Nat.le_of_ble_eq_true rfl) ⟨Nat.le_of_ble_eq_true rfl, Nat.le_of_ble_eq_true rfl⟩ ⟨Nat.le_of_ble_eq_true rfl, Nat.le_of_ble_eq_true rfl⟩ (fun rr_37 σ37 pp_37 => ?_)
    obtain ⟨ee_37, ff_37⟩ := pp_37
    rw [ee_37, ff_37]
    exact V.iretS C R dX9_save_40 (by
      refine ⟨by unfold svR; rw [if_pos z_], ?_, (pp_18.2.sm (by omega)).trans (sF_sm (by omega))⟩
      unfold svS
      rw [if_pos z_, nI_toNat (by omega)]
      have c12_ : (sF σ18 0 7 (σ18.1 0 7 ||| shl32 (nI 1) (nI s))).1 0 12 = σ.1 0 12 := by rw [sF_ne _ _ (by omega), pp_18.2.F (by omega)]
      refine ⟨hC.sm ((pp_18.2.sm (by omega)).trans (sF_sm (by omega))) ((pp_18.2.sm (by omega)).trans (sF_sm (by omega))) c12_, hT.sm ((pp_18.2.sm (by omega)).trans (sF_sm (by omega))), ⟨D0, hD.sm (a := 19) (b := 29) ((pp_18.2.sm (by omega)).trans (sF_sm (by omega))) (by omega) (by omega)⟩, hH.sm ((pp_18.2.sm (by omega)).trans (sF_sm (by omega))) pp_18.2.2, fun j hj => ?_, fun j hj => ?_, fun j hj Q hQ => ?_⟩
      · by_cases q_ : j = s
        · rw [q_]; exact ⟨P, pp_18.1.sm (sF_sm (c := 91) (d := 111) (by omega)) (by omega) (by omega)⟩
        · obtain ⟨Q1, hQ1⟩ := hS.1 j hj
          exact ⟨Q1, (hQ1.fr pp_18.2 (by omega)).sm (sF_sm (c := 91) (d := 111) (by omega)) (by omega) (by omega)⟩
      · rw [sF_F, bt_or (by omega) (by omega), pp_18.2.F (by omega), hS.2.1 j hj]
        by_cases q_ : j = s
        · rw [q_, up_eq, decide_eq_true rfl, Bool.or_true]; rfl
        · rw [up_ne _ _ q_, decide_eq_false q_, Bool.or_false]
      · by_cases q_ : j = s
        · rw [q_, up_eq] at hQ
          cases hQ
          rw [q_]; exact pp_18.1.sm (sF_sm (c := 91) (d := 111) (by omega)) (by omega) (by omega)
        · rw [up_ne _ _ q_] at hQ
          exact ((hS.2.2 j hj Q hQ).fr pp_18.2 (by omega)).sm (sF_sm (c := 91) (d := 111) (by omega)) (by omega) (by omega))
  · have z_ := bI_eq0 hb_4
    refine V.iconst C ((-1)) c_m1 dX9_save_7 ?_
    exact V.iretS C R dX9_save_8 ⟨by unfold svR; rw [if_neg (by rw [z_]; decide)], by unfold svS; rw [if_neg (by rw [z_]; decide)]; exact hI, Sm.refl _ _ _⟩
set_option maxRecDepth 100000 in
set_option maxHeartbeats 4000000 in
theorem ct_S_restore (G : Gl) (σ : SS) (n : Nat) (ch : Nat → Nat) (P : Prob) (hs : List Prob) (sl : Nat → Option Prob) (x : Int32) (hwS : wfSl sl) (hI : IS σ n ch P hs sl) : CI G mX9_restore [Rf G 0, .int x] σ (fun r σ1 => r = rsR sl x ∧ IS σ1 n ch (rsP P sl x) (rsH hs sl x) sl ∧ Sm 123 136 σ σ1) := by
  refine Ctr.of oX9_restore (Nat.le_of_ble_eq_true rfl) ?_
  intro X C R hnm hz0
  have C : Cx G X cX9_restore 2 RX9 6 141 0 0 := C
  have R : Cr G X (some .int) 0 0 _ := R
  show V G X 2 0 0 0 [(0, Rf G 0), (1, .int x)] [] (wld G σ)
  have kk_0 := sk_0
  have kk_1 := sk_1
  have kk_6 := sk_6
  have kk_9 := sk_9
  have kk_11 := sk_11
  have kk_15 := sk_15
  have kk_19 := sk_19
  have kk_29 := sk_29
  have kk_91 := sk_91
  have kk_101 := sk_101
  have kk_111 := sk_111
  have kk_113 := sk_113
  have kk_116 := sk_116
  have kk_119 := sk_119
  have hC := hI.1
  have hW := hC.2.1
  obtain ⟨hT, ⟨D0, hD⟩, hH, hS⟩ := hI.2
  refine V.iload_n C 1 rfl rfl dX9_restore_0 ?_
  refine V.cSi C lX9_198 oX9_isSlot dX9_restore_1 (ct_isSlot G σ x) rfl rfl (Nat.le_of_ble_eq_true rfl) ⟨Nat.le_of_ble_eq_true rfl, Nat.le_of_ble_eq_true rfl⟩ ⟨Nat.le_of_ble_eq_true rfl, Nat.le_of_ble_eq_true rfl⟩ (fun rr_1 σ1 pp_1 => ?_)
  obtain ⟨ee_1, ff_1⟩ := pp_1
  rw [ee_1, ff_1]
  refine V.if_ne C 9 dX9_restore_4 rfl (fun hb_4 => ?_) (fun hb_4 => ?_)
  · have z_ := bI_ne0 hb_4
    obtain ⟨s, hs2_, rfl⟩ := inB_of (by decide) z_
    have kk_s := (slot_pb hs2_).1
    have b7_ := hS.2.1 s hs2_
    refine V.aload_n C 0 rfl rfl dX9_restore_9 ?_
    refine V.getI C fX9_72 dX9_restore_10 (by assumption) rfl ?_
    refine V.iconst C (nI 1) c_1 dX9_restore_13 ?_
    refine V.iload_n C 1 rfl rfl dX9_restore_14 ?_
    refine V.ishl C dX9_restore_15 ?_
    refine V.iand C dX9_restore_16 ?_
    refine V.if_ne C 23 dX9_restore_17 rfl (fun hb_17 => ?_) (fun hb_17 => ?_)
    · obtain ⟨Q, hQ_⟩ : ∃ Q, sl s = some Q := by
        cases h : sl s with
        | none => exact absurd ((bt_test (by omega)).mpr (by rw [b7_, h]; rfl)) hb_17
        | some q => exact ⟨q, rfl⟩
      refine V.aload_n C 0 rfl rfl dX9_restore_23 ?_
      refine V.getR C fX9_28 dX9_restore_24 (by assumption) rfl ?_
      refine V.aload_n C 0 rfl rfl dX9_restore_27 ?_
      refine V.iload_n C 1 rfl rfl dX9_restore_28 ?_
      refine V.cVr C lX9_201 oX9_snapshot dX9_restore_29 (ct_S_snapshot G σ s hs2_) (by assumption) rfl rfl (Nat.le_of_ble_eq_true rfl) ⟨Nat.le_of_ble_eq_true rfl, Nat.le_of_ble_eq_true rfl⟩ ⟨Nat.le_of_ble_eq_true rfl, Nat.le_of_ble_eq_true rfl⟩ (fun rr_29 σ29 pp_29 => ?_)
      obtain ⟨ee_29, ff_29⟩ := pp_29
      rw [ee_29, ff_29]
      refine V.cVv C lX9_103 oX4_copyFrom dX9_restore_32 (ct_Pb_copyFrom G σ 9 (91 + 10 * s) Q P (PbA_of (by decide)) (slot_pb hs2_) (hS.2.2 s hs2_ Q hQ_) hC.1 (hwS s Q hQ_).okP (by omega)) (by assumption) rfl rfl (Nat.le_of_ble_eq_true rfl) ⟨Nat.le_of_ble_eq_true rfl, Nat.le_of_ble_eq_true rfl⟩ ⟨Nat.le_of_ble_eq_true rfl, Nat.le_of_ble_eq_true rfl⟩ (fun σ32 pp_32 => ?_)
      refine V.aload_n C 0 rfl rfl dX9_restore_35 ?_
      refine V.getR C fX9_38 dX9_restore_36 (by assumption) rfl ?_
      refine V.cVv C lX9_205 oX2_clear dX9_restore_39 (ct_Hi_clear G σ32) (by assumption) rfl rfl (Nat.le_of_ble_eq_true rfl) ⟨Nat.le_of_ble_eq_true rfl, Nat.le_of_ble_eq_true rfl⟩ ⟨Nat.le_of_ble_eq_true rfl, Nat.le_of_ble_eq_true rfl⟩ (fun σ39 pp_39 => ?_)
      have P39_ : RP σ39 9 Q := by rw [pp_39]; exact pp_32.1.sm (sF_sm (c := 9) (d := 19) (by omega)) (by omega) (by omega)
      refine V.aload_n C 0 rfl rfl dX9_restore_42 ?_
      refine V.cVv C lX9_106 oX9_slice dX9_restore_43 (ct_S_slice G σ39 Q P39_ (hwS s Q hQ_)) (by assumption) rfl rfl (Nat.le_of_ble_eq_true rfl) ⟨Nat.le_of_ble_eq_true rfl, Nat.le_of_ble_eq_true rfl⟩ ⟨Nat.le_of_ble_eq_true rfl, Nat.le_of_ble_eq_true rfl⟩ (fun σ43 pp_43 => ?_)
      refine V.aload_n C 0 rfl rfl dX9_restore_46 ?_
      refine V.getR C fX9_28 dX9_restore_47 (by assumption) rfl ?_
      refine V.cVi C lX9_109 oX4_statementCount dX9_restore_50 (ct_Pb_statementCount G σ43 9 Q (PbA_of (by decide)) pp_43.1.1) (by assumption) rfl rfl (Nat.le_of_ble_eq_true rfl) ⟨Nat.le_of_ble_eq_true rfl, Nat.le_of_ble_eq_true rfl⟩ ⟨Nat.le_of_ble_eq_true rfl, Nat.le_of_ble_eq_true rfl⟩ (fun rr_50 σ50 pp_50 => ?_)
      obtain ⟨ee_50, ff_50⟩ := pp_50
      rw [ee_50, ff_50]
      exact V.iretS C R dX9_restore_53 (by
        have s_ : Sm 91 111 σ σ43 := ((pp_32.2.sm (by omega)).trans (by rw [pp_39]; exact sF_sm (by omega))).trans (pp_43.2.sm (by omega) (by omega))
        have m_ : Sm 123 136 σ σ43 := ((pp_32.2.sm (by omega)).trans (by rw [pp_39]; exact sF_sm (by omega))).trans (pp_43.2.sm (by omega) (by omega))
        have d_ : Sm 19 29 σ σ43 := ((pp_32.2.sm (by omega)).trans (by rw [pp_39]; exact sF_sm (by omega))).trans (pp_43.2.sm (by omega) (by omega))
        have t_ : Sm 1 3 σ σ43 := ((pp_32.2.sm (by omega)).trans (by rw [pp_39]; exact sF_sm (by omega))).trans (pp_43.2.sm (by omega) (by omega))
        have h_ : Sm 29 91 σ39 σ43 := pp_43.2.sm (by omega) (by omega)
        have H32_ : RH σ32 hs := hH.sm (pp_32.2.sm (by omega)) pp_32.2.2
        have H39_ : RH σ39 [] := by rw [pp_39]; exact H32_.none
        have e7_ : σ43.1 0 7 = σ.1 0 7 := by
          rw [pp_43.2.2.1, pp_39, sF_row _ _ _ (by omega), pp_32.2.F (by omega)]
        refine ⟨?_, ?_, m_⟩
        · unfold rsR; rw [if_pos z_, nI_toNat (by omega), hQ_]
        · unfold rsP rsH
          rw [if_pos z_, nI_toNat (by omega), hQ_, if_pos ⟨z_, by simp⟩]
          exact ⟨pp_43.1, hT.sm t_, ⟨D0, hD.sm d_ (by omega) (by omega)⟩, H39_.sm h_ pp_43.2.2.2, hS.sm s_ e7_⟩)
    · have n_ : sl s = none := by
        have t_ := (bt_test (by omega)).mp hb_17
        rw [b7_] at t_
        cases h : sl s with
        | none => rfl
        | some q => rw [h] at t_; cases t_
      refine V.bipush C ((-2)) b_m2 dX9_restore_20 ?_
      exact V.iretS C R dX9_restore_22 ⟨by unfold rsR; rw [if_pos z_, nI_toNat (by omega), n_], by unfold rsP rsH; rw [if_pos z_, nI_toNat (by omega), n_, if_neg (by simp)]; exact hI, Sm.refl _ _ _⟩
  · have z_ := bI_eq0 hb_4
    refine V.iconst C ((-1)) c_m1 dX9_restore_7 ?_
    exact V.iretS C R dX9_restore_8 ⟨by unfold rsR; rw [if_neg (by rw [z_]; decide)], by unfold rsP rsH; rw [if_neg (by rw [z_]; decide), if_neg (by rw [z_]; simp)]; exact hI, Sm.refl _ _ _⟩
