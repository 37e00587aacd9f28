/-! The solver: append, clearText, load, the removals, undo, save, restore. -/
def Sm (a b : Nat) (σ σ1 : SS) : Prop := ∀ k, a ≤ k → k < b → σ1.1 k = σ.1 k ∧ σ1.2.1 k = σ.2.1 k
theorem Sm.refl (a b : Nat) (σ : SS) : Sm a b σ σ := fun _ _ _ => ⟨rfl, rfl⟩
theorem Sm.trans {a b : Nat} {σ σ1 σ2 : SS} (h1 : Sm a b σ σ1) (h2 : Sm a b σ1 σ2) : Sm a b σ σ2 := fun k x y => ⟨(h2 k x y).1.trans (h1 k x y).1, (h2 k x y).2.trans (h1 k x y).2⟩
theorem Sm.mono {a b c d : Nat} {σ σ1 : SS} (h : Sm a b σ σ1) (h1 : a ≤ c) (h2 : d ≤ b) : Sm c d σ σ1 := fun k x y => h k (by omega) (by omega)
theorem Fr.sm {a b c d : Nat} {σ σ1 : SS} (h : Fr a b σ σ1) (hd : d ≤ a ∨ b ≤ c) : Sm c d σ σ1 := fun k x y => ⟨(h.1 k (by omega)).1, (h.1 k (by omega)).2.1⟩
theorem FrX.sm {a b c d : Nat} {σ σ1 : SS} (h : FrX a b σ σ1) (hd : d ≤ a ∨ b ≤ c) : Sm c d σ σ1 := fun k x y => ⟨(h k (by omega)).1, (h k (by omega)).2.1⟩
theorem Fr2.sm {a b a' b' c d : Nat} {σ σ1 : SS} (h : Fr2 a b a' b' σ σ1) (hd : d ≤ a ∨ b ≤ c) (hd' : d ≤ a' ∨ b' ≤ c) : Sm c d σ σ1 := fun k x y => ⟨(h.1 k (by omega) (by omega)).1, (h.1 k (by omega) (by omega)).2.1⟩
theorem FQ.sm {a c d : Nat} {σ σ1 : SS} (h : FQ a σ σ1) (h0 : 0 < c) (hd : d ≤ a ∨ 123 ≤ c) : Sm c d σ σ1 := fun k x y => ⟨(h.1 k (by omega) (by omega)).1, (h.1 k (by omega) (by omega)).2.1⟩
theorem sF_sm {σ : SS} {k j : Nat} {v : Int32} {c d : Nat} (h : k < c ∨ d ≤ k) : Sm c d σ (sF σ k j v) := fun i x y => ⟨sF_row _ _ _ (by omega), rfl⟩
theorem RS.sm {σ σ1 : SS} {o cap a b : Nat} {l : List Stm} (h : RS σ o cap l) (hF : Sm a b σ σ1) (h1 : a ≤ o) (h2 : o + 4 ≤ b) : RS σ1 o cap l := by
  unfold RS stAt
  rw [(hF (o + 1) (by omega) (by omega)).2, (hF (o + 2) (by omega) (by omega)).2, (hF (o + 3) (by omega) (by omega)).2, (hF o (by omega) (by omega)).1]
  exact h
theorem RP.sm {σ σ1 : SS} {p a b : Nat} {P : Prob} (h : RP σ p P) (hF : Sm a b σ σ1) (h1 : a ≤ p) (h2 : p + 10 ≤ b) : RP σ1 p P :=
  ⟨by rw [(hF (p + 1) (by omega) (by omega)).2]; exact h.1, h.2.1.sm hF (by omega) (by omega), h.2.2.sm hF (by omega) (by omega)⟩
theorem RH.sm {σ σ1 : SS} {hs : List Prob} (h : RH σ hs) (hF : Sm 29 91 σ σ1) (hP : σ1.2.2.2 = σ.2.2.2) : RH σ1 hs := by
  obtain ⟨h1, h2, h3, h4, h5, h7⟩ := h
  unfold RH
  rw [(hF 29 (by omega) (by omega)).1, hP]
  refine ⟨h1, h2, h3, h4, fun j hj => ?_, fun i P hi => ?_⟩
  · obtain ⟨P, hP⟩ := h5 j hj
    have := hix_in (h3 j hj)
    exact ⟨P, hP.sm hF (by omega) (by omega)⟩
  · have hl := (List.getElem?_eq_some_iff.mp hi).1
    have := hix_in (h3 i (by omega))
    exact (h7 i P hi).sm hF (by omega) (by omega)
/-- the saved problems -/
def RSl (σ : SS) (sl : Nat → Option Prob) : Prop := (∀ j, j < 2 → ∃ Q, RP σ (91 + 10 * j) Q) ∧ (∀ j, j < 2 → bt (σ.1 0 7) j = (sl j).isSome) ∧ (∀ j, j < 2 → ∀ Q, sl j = some Q → RP σ (91 + 10 * j) Q)
theorem RSl.sm {σ σ1 : SS} {sl : Nat → Option Prob} (h : RSl σ sl) (hF : Sm 91 111 σ σ1) (h7 : σ1.1 0 7 = σ.1 0 7) : RSl σ1 sl :=
  ⟨fun j hj => ⟨(h.1 j hj).choose, (h.1 j hj).choose_spec.sm hF (by omega) (by omega)⟩, fun j hj => by rw [h7]; exact h.2.1 j hj, fun j hj Q hQ => (h.2.2 j hj Q hQ).sm hF (by omega) (by omega)⟩
def wfSl (sl : Nat → Option Prob) : Prop := ∀ j Q, sl j = some Q → wfP Q
def CSto (σ : SS) (n : Nat) (ch : Nat → Nat) (hs : List Prob) (sl : Nat → Option Prob) : Prop := RT σ n ch ∧ (∃ D, RP σ 19 D) ∧ RH σ hs ∧ RSl σ sl
/-- what holds of the solver between two calls -/
def IS (σ : SS) (n : Nat) (ch : Nat → Nat) (P : Prob) (hs : List Prob) (sl : Nat → Option Prob) : Prop := CInv σ P ∧ CSto σ n ch hs sl
theorem RT.sm {σ σ1 : SS} {n : Nat} {ch : Nat → Nat} (h : RT σ n ch) (hF : Sm 1 3 σ σ1) : RT σ1 n ch := h.same (by rw [(hF 1 (by omega) (by omega)).1]) (hF 2 (by omega) (by omega)).2
theorem CSto.sm {σ σ1 : SS} {n : Nat} {ch : Nat → Nat} {hs : List Prob} {sl : Nat → Option Prob} (h : CSto σ n ch hs sl) (h1 : Sm 1 3 σ σ1) (h2 : Sm 19 111 σ σ1) (h7 : σ1.1 0 7 = σ.1 0 7) (hP : σ1.2.2.2 = σ.2.2.2) : CSto σ1 n ch hs sl :=
  ⟨h.1.sm h1, ⟨h.2.1.choose, h.2.1.choose_spec.sm h2 (by omega) (by omega)⟩, h.2.2.1.sm (h2.mono (by omega) (by omega)) hP, h.2.2.2.sm (h2.mono (by omega) (by omega)) h7⟩
theorem CInv.sm {σ σ1 : SS} {P : Prob} (h : CInv σ P) (h1 : Sm 9 19 σ σ1) (h2 : Sm 112 123 σ σ1) (h12 : σ1.1 0 12 = σ.1 0 12) : CInv σ1 P := by
  obtain ⟨g1, g2, ⟨K, hK, hL⟩, g4, ⟨b, hb, hm⟩⟩ := h
  refine ⟨g1.sm h1 (by omega) (by omega), g2, ⟨K, ?_, hL⟩, ?_, ⟨b, h12.trans hb, fun q => ⟨(hm q).1.same (h2 119 (by omega) (by omega)).1 (h2 122 (by omega) (by omega)).2, (hm q).2⟩⟩⟩
  · unfold RK; rw [(h2 112 (by omega) (by omega)).2]; exact hK
  · unfold RCu
    rw [(h2 (113 + 1) (by omega) (by omega)).2, (h2 (113 + 2) (by omega) (by omega)).2, (h2 113 (by omega) (by omega)).1]; exact g4
theorem IS.q {σ σ1 : SS} {n : Nat} {ch : Nat → Nat} {P : Prob} {hs : List Prob} {sl : Nat → Option Prob} (h : IS σ n ch P hs sl) (hC : CInv σ1 P) (hF : FQ 113 σ σ1) : IS σ1 n ch P hs sl ∧ Sm 123 136 σ σ1 :=
  ⟨⟨hC, h.2.sm (hF.sm (by omega) (by omega)) (hF.sm (by omega) (by omega)) hF.2.1 hF.2.2⟩, hF.sm (by omega) (by omega)⟩
theorem wfH.push {hs : List Prob} {P : Prob} (h : wfH hs) (hP : wfP P) : wfH (pushH hs P) := by
  intro i Q hQ
  unfold pushH at hQ
  split at hQ
  · rcases app_getP hQ with q | q
    · exact h i Q q
    · rw [q.2]; exact hP
  · rcases app_getP hQ with q | q
    · rw [List.getElem?_drop] at q; exact h _ Q q
    · rw [q.2]; exact hP
theorem wfP.erE {P : Prob} (h : wfP P) (i : Nat) : wfP (P.1, P.2.1.eraseIdx i, P.2.2) := by
  refine ⟨h.1, Nat.le_trans (List.length_eraseIdx_le _ _) h.2.1, h.2.2.1, fun j s hs => ?_, h.2.2.2.2⟩
  have hs1 : (P.2.1.eraseIdx i)[j]? = some s := hs
  obtain ⟨k, hk⟩ := List.getElem?_of_mem (List.mem_of_mem_eraseIdx (List.mem_of_getElem? hs1))
  exact h.2.2.2.1 k s hk
theorem wfP.erD {P : Prob} (h : wfP P) (i : Nat) : wfP (P.1, P.2.1, P.2.2.eraseIdx i) := by
  refine ⟨h.1, h.2.1, Nat.le_trans (List.length_eraseIdx_le _ _) h.2.2.1, h.2.2.2.1, fun j s hs => ?_⟩
  have hs1 : (P.2.2.eraseIdx i)[j]? = some s := hs
  obtain ⟨k, hk⟩ := List.getElem?_of_mem (List.mem_of_mem_eraseIdx (List.mem_of_getElem? hs1))
  exact h.2.2.2.2 k s hk
theorem pText_wf {ch : Nat → Nat} {n : Nat} {P : Prob} (hc : ∀ i, i < n → ch i < 256) (h : pText ch n = .ok P) : wfP P :=
  pAll_ok hc 201 pb0 P _ ⟨fun _ _ => Nat.zero_le _, Nat.zero_le _, Nat.zero_le _, (fun i s hs => by simp [pb0] at hs), (fun i s hs => by simp [pb0] at hs)⟩ h
theorem RT.lt {σ : SS} {n : Nat} {ch : Nat → Nat} (h : RT σ n ch) : ∀ i, i < n → ch i < 256 := fun i hi => (h.2.2 i hi).2
theorem in256 {x : Int32} (h0 : ¬ x < 0) (h : x ≤ nI 255) : inB x 256 = true := inB_in h0 (fun q => by
  have h1 := (le_iff _ _).mp h
  have h2 := (le_iff _ _).mp q
  rw [nI_toInt (by decide)] at h1 h2
  omega) (by decide)
theorem out256 {x : Int32} (h : ¬ x ≤ nI 255) : inB x 256 = false := inB_ge (by
  refine (le_iff _ _).mpr ?_
  have h1 : ¬ x.toInt ≤ (nI 255).toInt := fun q => h ((le_iff _ _).mpr q)
  rw [nI_toInt (by decide)] at h1 ⊢
  omega) (by decide)
theorem i2c_k : ∀ k, k < 256 → ((nI k).toUInt32 % 65536).toInt32 = nI k := by decide +kernel
set_option maxRecDepth 100000 in
set_option maxHeartbeats 4000000 in
theorem ct_S_append (G : Gl) (σ : SS) (n : Nat) (ch : Nat → Nat) (P : Prob) (hs : List Prob) (sl : Nat → Option Prob) (x : Int32) (hI : IS σ n ch P hs sl) : CI G mX9_append [Rf G 0, .int x] σ (fun r σ1 => r = apR n x ∧ IS σ1 (apN n x) (apC n ch x) P hs sl ∧ Sm 123 136 σ σ1) := by
  refine Ctr.of oX9_append (Nat.le_of_ble_eq_true rfl) ?_
  intro X C R hnm hz0
  have C : Cx G X cX9_append 2 RX9 2 41 0 0 := C
  have R : Cr G X (some .int) 0 0 _ := R
  show V G X 2 0 0 0 [(0, Rf G 0), (1, .int x)] [] (wld G σ)
  have kk_0 := sk_0
  have kk_1 := sk_1
  have kk_6 := sk_6
  have kk_9 := sk_9
  have kk_11 := sk_11
  have kk_15 := sk_15
  have kk_19 := sk_19
  have kk_29 := sk_29
  have kk_91 := sk_91
  have kk_101 := sk_101
  have kk_111 := sk_111
  have kk_113 := sk_113
  have kk_116 := sk_116
  have kk_119 := sk_119
  have hC := hI.1
  have hW := hC.2.1
  obtain ⟨hT, ⟨D0, hD⟩, hH, hS⟩ := hI.2
  refine V.iload_n C 1 rfl rfl dX9_append_0 ?_
  refine V.if_lt C 11 dX9_append_1 rfl (fun hb_1 => ?_) (fun hb_1 => ?_)
  · have z_ : inB x 256 = false := inB_lt0 hb_1
    refine V.iconst C ((-1)) c_m1 dX9_append_11 ?_
    exact V.iretS C R dX9_append_12 ⟨by unfold apR; rw [if_neg (by rw [z_]; decide)], by unfold apN apC; rw [if_neg (by rw [z_]; simp), if_neg (by rw [z_]; simp)]; exact hI, Sm.refl _ _ _⟩
  · refine V.iload_n C 1 rfl rfl dX9_append_4 ?_
    refine V.sipush C (nI 255) s_255 dX9_append_5 ?_
    refine V.icmp_le C 13 dX9_append_8 rfl (fun hb_8 => ?_) (fun hb_8 => ?_)
    · have z_ := in256 hb_1 hb_8
      obtain ⟨k, hk, rfl⟩ := inB_of (by decide) z_
      refine V.aload_n C 0 rfl rfl dX9_append_13 ?_
      refine V.getR C fX9_12 dX9_append_14 (by assumption) rfl ?_
      refine V.cVi C lX9_80 oX8_isFull dX9_append_17 (ct_Tx_isFull G σ n ch hT) (by assumption) rfl rfl (Nat.le_of_ble_eq_true rfl) ⟨Nat.le_of_ble_eq_true rfl, Nat.le_of_ble_eq_true rfl⟩ ⟨Nat.le_of_ble_eq_true rfl, Nat.le_of_ble_eq_true rfl⟩ (fun rr_17 σ17 pp_17 => ?_)
      obtain ⟨ee_17, ff_17⟩ := pp_17
      rw [ee_17, ff_17]
      refine V.if_eq C 26 dX9_append_20 rfl (fun hb_20 => ?_) (fun hb_20 => ?_)
      · have n2_ : n < 200 := Classical.byContradiction (fun q => by rw [decide_eq_true q] at hb_20; exact absurd (bI_eq0 hb_20) (by decide))
        refine V.aload_n C 0 rfl rfl dX9_append_26 ?_
        refine V.getR C fX9_12 dX9_append_27 (by assumption) rfl ?_
        refine V.iload_n C 1 rfl rfl dX9_append_30 ?_
        refine V.i2c C (nI k) (i2c_k k hk) dX9_append_31 ?_
        refine V.cVv C lX9_84 oX8_add dX9_append_32 (ct_Tx_add G σ n k ch hT n2_ hk) (by assumption) rfl rfl (Nat.le_of_ble_eq_true rfl) ⟨Nat.le_of_ble_eq_true rfl, Nat.le_of_ble_eq_true rfl⟩ ⟨Nat.le_of_ble_eq_true rfl, Nat.le_of_ble_eq_true rfl⟩ (fun σ32 pp_32 => ?_)
        refine V.aload_n C 0 rfl rfl dX9_append_35 ?_
        refine V.getR C fX9_12 dX9_append_36 (by assumption) rfl ?_
        refine V.cVi C lX9_88 oX8_length dX9_append_39 (ct_Tx_length G σ32) (by assumption) rfl rfl (Nat.le_of_ble_eq_true rfl) ⟨Nat.le_of_ble_eq_true rfl, Nat.le_of_ble_eq_true rfl⟩ ⟨Nat.le_of_ble_eq_true rfl, Nat.le_of_ble_eq_true rfl⟩ (fun rr_39 σ39 pp_39 => ?_)
        obtain ⟨ee_39, ff_39⟩ := pp_39
        rw [ee_39, ff_39]
        rw [pp_32.1.1]
        exact V.iretS C R dX9_append_42 ⟨by unfold apR; rw [if_pos z_, if_pos n2_], by unfold apN apC; rw [if_pos ⟨z_, n2_⟩, if_pos ⟨z_, n2_⟩, nI_toNat (by omega)]; exact ⟨hC.sm (pp_32.2.sm (by omega)) (pp_32.2.sm (by omega)) (by rw [pp_32.2.F (by omega)]), pp_32.1, ⟨D0, hD.fr pp_32.2 (by omega)⟩, hH.sm (pp_32.2.sm (by omega)) pp_32.2.2, hS.sm (pp_32.2.sm (by omega)) (by rw [pp_32.2.F (by omega)])⟩, pp_32.2.sm (by omega)⟩
      · have n2_ : ¬ n < 200 := of_decide_eq_true (bI_ne0 hb_20)
        refine V.bipush C ((-3)) b_m3 dX9_append_23 ?_
        exact V.iretS C R dX9_append_25 ⟨by unfold apR; rw [if_pos z_, if_neg n2_], by unfold apN apC; rw [if_neg (fun q => n2_ q.2), if_neg (fun q => n2_ q.2)]; exact hI, Sm.refl _ _ _⟩
    · have z_ : inB x 256 = false := out256 hb_8
      refine V.iconst C ((-1)) c_m1 dX9_append_11 ?_
      exact V.iretS C R dX9_append_12 ⟨by unfold apR; rw [if_neg (by rw [z_]; decide)], by unfold apN apC; rw [if_neg (by rw [z_]; simp), if_neg (by rw [z_]; simp)]; exact hI, Sm.refl _ _ _⟩
theorem IS.clear {σ : SS} {n : Nat} {ch : Nat → Nat} {P : Prob} {hs : List Prob} {sl : Nat → Option Prob} (h : IS σ n ch P hs sl) : IS (sF σ 1 1 (nI 0)) 0 ch P hs sl :=
  ⟨h.1.sm (sF_sm (by omega)) (sF_sm (by omega)) (by rw [sF_row _ _ _ (by omega)]), ⟨sF_F _ _ _ _, by omega, fun i hi => absurd hi (by omega)⟩, ⟨h.2.2.1.choose, h.2.2.1.choose_spec.sm (sF_sm (c := 19) (d := 29) (by omega)) (by omega) (by omega)⟩, h.2.2.2.1.sm (sF_sm (by omega)) rfl, h.2.2.2.2.sm (sF_sm (by omega)) (by rw [sF_row _ _ _ (by omega)])⟩
set_option maxRecDepth 100000 in
set_option maxHeartbeats 4000000 in
theorem ct_S_clearText (G : Gl) (σ : SS) (n : Nat) (ch : Nat → Nat) (P : Prob) (hs : List Prob) (sl : Nat → Option Prob) (hI : IS σ n ch P hs sl) : CI G mX9_clearText [Rf G 0] σ (fun r σ1 => r = nI n ∧ IS σ1 0 ch P hs sl ∧ Sm 123 136 σ σ1) := by
  refine Ctr.of oX9_clearText (Nat.le_of_ble_eq_true rfl) ?_
  intro X C R hnm hz0
  have C : Cx G X cX9_clearText 2 RX9 1 20 0 0 := C
  have R : Cr G X (some .int) 0 0 _ := R
  show V G X 2 0 0 0 [(0, Rf G 0)] [] (wld G σ)
  have kk_0 := sk_0
  have kk_1 := sk_1
  have kk_6 := sk_6
  have kk_9 := sk_9
  have kk_11 := sk_11
  have kk_15 := sk_15
  have kk_19 := sk_19
  have kk_29 := sk_29
  have kk_91 := sk_91
  have kk_101 := sk_101
  have kk_111 := sk_111
  have kk_113 := sk_113
  have kk_116 := sk_116
  have kk_119 := sk_119
  have hC := hI.1
  have hW := hC.2.1
  obtain ⟨hT, ⟨D0, hD⟩, hH, hS⟩ := hI.2
  refine V.aload_n C 0 rfl rfl dX9_clearText_0 ?_
  refine V.getR C fX9_12 dX9_clearText_1 (by assumption) rfl ?_
  refine V.cVi C lX9_88 oX8_length dX9_clearText_4 (ct_Tx_length G σ) (by assumption) rfl rfl (Nat.le_of_ble_eq_true rfl) ⟨Nat.le_of_ble_eq_true rfl, Nat.le_of_ble_eq_true rfl⟩ ⟨Nat.le_of_ble_eq_true rfl, Nat.le_of_ble_eq_true rfl⟩ (fun rr_4 σ4 pp_4 => ?_)
  obtain ⟨ee_4, ff_4⟩ := pp_4
  rw [ee_4, ff_4]
  rw [hT.1]
  refine V.istore_n C 1 dX9_clearText_7 rfl (by decide) ?_
  refine V.aload_n C 0 rfl rfl dX9_clearText_8 ?_
  refine V.getR C fX9_12 dX9_clearText_9 (by assumption) rfl ?_
  refine V.cVv C lX9_92 oX8_clear dX9_clearText_12 (ct_Tx_clear G σ) (by assumption) rfl rfl (Nat.le_of_ble_eq_true rfl) ⟨Nat.le_of_ble_eq_true rfl, Nat.le_of_ble_eq_true rfl⟩ ⟨Nat.le_of_ble_eq_true rfl, Nat.le_of_ble_eq_true rfl⟩ (fun σ12 pp_12 => ?_)
  rw [pp_12]
  refine V.iload_n C 1 rfl rfl dX9_clearText_15 ?_
  exact V.iretS C R dX9_clearText_16 ⟨rfl, hI.clear, sF_sm (by omega)⟩
set_option maxRecDepth 100000 in
set_option maxHeartbeats 4000000 in
theorem ct_S_load (G : Gl) (σ : SS) (n : Nat) (ch : Nat → Nat) (P : Prob) (hs : List Prob) (sl : Nat → Option Prob) (hI : IS σ n ch P hs sl) : CI G mX9_load [Rf G 0] σ (fun r σ1 => ((∃ P1, pText ch n = .ok P1 ∧ r = nI (P1.2.1.length + P1.2.2.length) ∧ IS σ1 0 ch P1 (pushH hs P) sl) ∨ (∃ e, pText ch n = .error e ∧ r = -10 - nI e ∧ IS σ1 n ch P hs sl)) ∧ Sm 123 136 σ σ1) := by
  refine Ctr.of oX9_load (Nat.le_of_ble_eq_true rfl) ?_
  intro X C R hnm hz0
  have C : Cx G X cX9_load 2 RX9 9 199 0 0 := C
  have R : Cr G X (some .int) 0 0 _ := R
  show V G X 2 0 0 0 [(0, Rf G 0)] [] (wld G σ)
  have kk_0 := sk_0
  have kk_1 := sk_1
  have kk_6 := sk_6
  have kk_9 := sk_9
  have kk_11 := sk_11
  have kk_15 := sk_15
  have kk_19 := sk_19
  have kk_29 := sk_29
  have kk_91 := sk_91
  have kk_101 := sk_101
  have kk_111 := sk_111
  have kk_113 := sk_113
  have kk_116 := sk_116
  have kk_119 := sk_119
  have hC := hI.1
  have hW := hC.2.1
  obtain ⟨hT, ⟨D0, hD⟩, hH, hS⟩ := hI.2
  refine V.aload_n C 0 rfl rfl dX9_load_0 ?_
  refine V.getR C fX9_21 dX9_load_1 (by assumption) rfl ?_
  refine V.aload_n C 0 rfl rfl dX9_load_4 ?_
  refine V.getR C fX9_32 dX9_load_5 (by assumption) rfl ?_
  refine V.cVi C lX9_95 oX5_read dX9_load_8 (ct_Rd_read G σ n ch D0 hT hD) (by assumption) rfl rfl (Nat.le_of_ble_eq_true rfl) ⟨Nat.le_of_ble_eq_true rfl, Nat.le_of_ble_eq_true rfl⟩ ⟨Nat.le_of_ble_eq_true rfl, Nat.le_of_ble_eq_true rfl⟩ (fun rr_8 σ8 pp_8 => ?_)
  obtain ⟨rd_, t8_, f8_⟩ := pp_8
  refine V.istore_n C 1 dX9_load_11 rfl (by decide) ?_
  refine V.iload_n C 1 rfl rfl dX9_load_12 ?_
  refine V.bipush C ((-9)) b_m9 dX9_load_13 ?_
  refine V.icmp_eq C 23 dX9_load_15 rfl (fun hb_15 => ?_) (fun hb_15 => ?_)
  · obtain ⟨P1, ht_, hr_, hP1_⟩ : ∃ P1, pText ch n = .ok P1 ∧ rr_8 = -9 ∧ RP σ8 19 P1 := rd_.resolve_right (fun ⟨e, _, q, hl, _⟩ => by rw [q] at hb_15; exact nI_ne_m9 (by have := hT.2.1; omega) hb_15)
    have hW1_ := pText_wf hT.lt ht_
    refine V.aload_n C 0 rfl rfl dX9_load_23 ?_
    refine V.getR C fX9_38 dX9_load_24 (by assumption) rfl ?_
    refine V.aload_n C 0 rfl rfl dX9_load_27 ?_
    refine V.getR C fX9_28 dX9_load_28 (by assumption) rfl ?_
    refine V.cVv C lX9_99 oX2_push dX9_load_31 (ct_Hi_push G σ8 hs P (hH.sm (f8_.sm (by omega) (by omega)) f8_.2) (hC.1.sm (f8_.sm (by omega) (by omega) (c := 9) (d := 19)) (by omega) (by omega)) hW.okP) (by assumption) rfl rfl (Nat.le_of_ble_eq_true rfl) ⟨Nat.le_of_ble_eq_true rfl, Nat.le_of_ble_eq_true rfl⟩ ⟨Nat.le_of_ble_eq_true rfl, Nat.le_of_ble_eq_true rfl⟩ (fun σ31 pp_31 => ?_)
    have p19_ := hP1_.frx pp_31.2 (by omega)
    have p9_ := (hC.1.sm (f8_.sm (by omega) (by omega) (c := 9) (d := 19)) (by omega) (by omega)).frx pp_31.2 (by omega)
    refine V.aload_n C 0 rfl rfl dX9_load_34 ?_
    refine V.getR C fX9_28 dX9_load_35 (by assumption) rfl ?_
    refine V.aload_n C 0 rfl rfl dX9_load_38 ?_
    refine V.getR C fX9_32 dX9_load_39 (by assumption) rfl ?_
    refine V.cVv C lX9_103 oX4_copyFrom dX9_load_42 (ct_Pb_copyFrom G σ31 9 19 P1 P (PbA_of (by decide)) (PbA_of (by decide)) p19_ p9_ hW1_.okP (by omega)) (by assumption) rfl rfl (Nat.le_of_ble_eq_true rfl) ⟨Nat.le_of_ble_eq_true rfl, Nat.le_of_ble_eq_true rfl⟩ ⟨Nat.le_of_ble_eq_true rfl, Nat.le_of_ble_eq_true rfl⟩ (fun σ42 pp_42 => ?_)
    refine V.aload_n C 0 rfl rfl dX9_load_45 ?_
    refine V.getR C fX9_12 dX9_load_46 (by assumption) rfl ?_
    refine V.cVv C lX9_92 oX8_clear dX9_load_49 (ct_Tx_clear G σ42) (by assumption) rfl rfl (Nat.le_of_ble_eq_true rfl) ⟨Nat.le_of_ble_eq_true rfl, Nat.le_of_ble_eq_true rfl⟩ ⟨Nat.le_of_ble_eq_true rfl, Nat.le_of_ble_eq_true rfl⟩ (fun σ49 pp_49 => ?_)
    have P49_ : RP σ49 9 P1 := by rw [pp_49]; exact pp_42.1.sm (sF_sm (c := 9) (d := 19) (by omega)) (by omega) (by omega)
    refine V.aload_n C 0 rfl rfl dX9_load_52 ?_
    refine V.cVv C lX9_106 oX9_slice dX9_load_53 (ct_S_slice G σ49 P1 P49_ hW1_) (by assumption) rfl rfl (Nat.le_of_ble_eq_true rfl) ⟨Nat.le_of_ble_eq_true rfl, Nat.le_of_ble_eq_true rfl⟩ ⟨Nat.le_of_ble_eq_true rfl, Nat.le_of_ble_eq_true rfl⟩ (fun σ53 pp_53 => ?_)
    refine V.aload_n C 0 rfl rfl dX9_load_56 ?_
    refine V.getR C fX9_28 dX9_load_57 (by assumption) rfl ?_
    refine V.cVi C lX9_109 oX4_statementCount dX9_load_60 (ct_Pb_statementCount G σ53 9 P1 (PbA_of (by decide)) pp_53.1.1) (by assumption) rfl rfl (Nat.le_of_ble_eq_true rfl) ⟨Nat.le_of_ble_eq_true rfl, Nat.le_of_ble_eq_true rfl⟩ ⟨Nat.le_of_ble_eq_true rfl, Nat.le_of_ble_eq_true rfl⟩ (fun rr_60 σ60 pp_60 => ?_)
    obtain ⟨ee_60, ff_60⟩ := pp_60
    rw [ee_60, ff_60]
    exact V.iretS C R dX9_load_63 (by
      have s_ : Sm 91 111 σ8 σ53 := (((pp_31.2.sm (by omega)).trans (pp_42.2.sm (by omega))).trans (by rw [pp_49]; exact sF_sm (by omega))).trans (pp_53.2.sm (by omega) (by omega))
      have m_ : Sm 123 136 σ8 σ53 := (((pp_31.2.sm (by omega)).trans (pp_42.2.sm (by omega))).trans (by rw [pp_49]; exact sF_sm (by omega))).trans (pp_53.2.sm (by omega) (by omega))
      have d_ : Sm 19 29 σ31 σ53 := ((pp_42.2.sm (by omega)).trans (by rw [pp_49]; exact sF_sm (by omega))).trans (pp_53.2.sm (by omega) (by omega))
      have h_ : Sm 29 91 σ31 σ53 := ((pp_42.2.sm (by omega)).trans (by rw [pp_49]; exact sF_sm (by omega))).trans (pp_53.2.sm (by omega) (by omega))
      have e7_ : σ53.1 0 7 = σ.1 0 7 := by
        rw [pp_53.2.2.1, pp_49, sF_row _ _ _ (by omega), pp_42.2.F (by omega), (pp_31.2 0 (by omega)).1, (f8_.1 0 (by omega) (by omega)).1]
      have eP_ : σ53.2.2.2 = σ31.2.2.2 := by
        rw [pp_53.2.2.2, pp_49]; exact pp_42.2.2
      refine ⟨Or.inl ⟨P1, ht_, rfl, pp_53.1, ?_, ⟨P1, p19_.sm d_ (by omega) (by omega)⟩, pp_31.1.sm h_ eP_, hS.sm ((f8_.sm (by omega) (by omega)).trans s_) e7_⟩, (f8_.sm (by omega) (by omega)).trans m_⟩
      refine ⟨?_, by omega, fun i hi => absurd hi (by omega)⟩
      rw [(pp_53.2.1 1 (by omega) (by omega)).1, pp_49, sF_F])
  · obtain ⟨e_, he_, hre_, hle_, ⟨P1, hP1_⟩⟩ : ∃ e, pText ch n = .error e ∧ rr_8 = nI e ∧ e ≤ n ∧ (∃ P1, RP σ8 19 P1) := rd_.resolve_left (fun ⟨_, _, q, _⟩ => hb_15 q)
    rw [hre_]
    refine V.bipush C ((-10)) b_m10 dX9_load_18 ?_
    refine V.iload_n C 1 rfl rfl dX9_load_20 ?_
    refine V.isub C dX9_load_21 ?_
    exact V.iretS C R dX9_load_22 ⟨Or.inr ⟨e_, he_, rfl, ⟨hC.sm (f8_.sm (by omega) (by omega)) (f8_.sm (by omega) (by omega)) (by rw [(f8_.1 0 (by omega) (by omega)).1]), t8_, ⟨P1, hP1_⟩, hH.sm (f8_.sm (by omega) (by omega)) f8_.2, hS.sm (f8_.sm (by omega) (by omega)) (by rw [(f8_.1 0 (by omega) (by omega)).1])⟩⟩, f8_.sm (by omega) (by omega)⟩
set_option maxRecDepth 100000 in
set_option maxHeartbeats 4000000 in
theorem ct_S_removeEquation (G : Gl) (σ : SS) (n : Nat) (ch : Nat → Nat) (P : Prob) (hs : List Prob) (sl : Nat → Option Prob) (x : Int32) (hI : IS σ n ch P hs sl) : CI G mX9_removeEquation [Rf G 0, .int x] σ (fun r σ1 => r = rmR P.2.1 x ∧ IS σ1 n ch (rmE P x) (rmH P.2.1 hs P x) sl ∧ Sm 123 136 σ σ1) := by
  refine Ctr.of oX9_removeEquation (Nat.le_of_ble_eq_true rfl) ?_
  intro X C R hnm hz0
  have C : Cx G X cX9_removeEquation 2 RX9 6 141 0 0 := C
  have R : Cr G X (some .int) 0 0 _ := R
  show V G X 2 0 0 0 [(0, Rf G 0), (1, .int x)] [] (wld G σ)
  have kk_0 := sk_0
  have kk_1 := sk_1
  have kk_6 := sk_6
  have kk_9 := sk_9
  have kk_11 := sk_11
  have kk_15 := sk_15
  have kk_19 := sk_19
  have kk_29 := sk_29
  have kk_91 := sk_91
  have kk_101 := sk_101
  have kk_111 := sk_111
  have kk_113 := sk_113
  have kk_116 := sk_116
  have kk_119 := sk_119
  have hC := hI.1
  have hW := hC.2.1
  obtain ⟨hT, ⟨D0, hD⟩, hH, hS⟩ := hI.2
  have l10_ := hW.2.1
  have l3_ := hW.2.2.1
  refine V.aload_n C 0 rfl rfl dX9_removeEquation_0 ?_
  refine V.getR C fX9_28 dX9_removeEquation_1 (by assumption) rfl ?_
  refine V.getR C fX9_112 dX9_removeEquation_4 (by assumption) rfl ?_
  refine V.iload_n C 1 rfl rfl dX9_removeEquation_7 ?_
  refine V.cVi C lX9_116 oX6_has dX9_removeEquation_8 (ct_St_has G σ 11 10 P.2.1.length x SA_11 hC.eq (by omega)) (by assumption) rfl rfl (Nat.le_of_ble_eq_true rfl) ⟨Nat.le_of_ble_eq_true rfl, Nat.le_of_ble_eq_true rfl⟩ ⟨Nat.le_of_ble_eq_true rfl, Nat.le_of_ble_eq_true rfl⟩ (fun rr_8 σ8 pp_8 => ?_)
  obtain ⟨ee_8, ff_8⟩ := pp_8
  rw [ee_8, ff_8]
  refine V.if_ne C 16 dX9_removeEquation_11 rfl (fun hb_11 => ?_) (fun hb_11 => ?_)
  · have z_ := bI_ne0 hb_11
    obtain ⟨v, hv, rfl⟩ := inB_of (by omega) z_
    refine V.aload_n C 0 rfl rfl dX9_removeEquation_16 ?_
    refine V.getR C fX9_38 dX9_removeEquation_17 (by assumption) rfl ?_
    refine V.aload_n C 0 rfl rfl dX9_removeEquation_20 ?_
    refine V.getR C fX9_28 dX9_removeEquation_21 (by assumption) rfl ?_
    refine V.cVv C lX9_99 oX2_push dX9_removeEquation_24 (ct_Hi_push G σ hs P hH hC.1 hW.okP) (by assumption) rfl rfl (Nat.le_of_ble_eq_true rfl) ⟨Nat.le_of_ble_eq_true rfl, Nat.le_of_ble_eq_true rfl⟩ ⟨Nat.le_of_ble_eq_true rfl, Nat.le_of_ble_eq_true rfl⟩ (fun σ24 pp_24 => ?_)
    have p9_ := hC.1.frx pp_24.2 (by omega)
    refine V.aload_n C 0 rfl rfl dX9_removeEquation_27 ?_
    refine V.getR C fX9_28 dX9_removeEquation_28 (by assumption) rfl ?_
    refine V.getR C fX9_112 dX9_removeEquation_31 (by assumption) rfl ?_
    refine V.iload_n C 1 rfl rfl dX9_removeEquation_34 ?_
    refine V.cVv C lX9_122 oX6_drop dX9_removeEquation_35 (ct_St_drop G σ24 11 10 v P.2.1 SA_11 (p9_.2.1) (hW.okL1) hv) (by assumption) rfl rfl (Nat.le_of_ble_eq_true rfl) ⟨Nat.le_of_ble_eq_true rfl, Nat.le_of_ble_eq_true rfl⟩ ⟨Nat.le_of_ble_eq_true rfl, Nat.le_of_ble_eq_true rfl⟩ (fun σ35 pp_35 => ?_)
    have P35_ : RP σ35 9 (P.1, P.2.1.eraseIdx v, P.2.2) := ⟨by rw [pp_35.2.A (by omega)]; exact p9_.1, pp_35.1, p9_.2.2.fr pp_35.2 (by omega)⟩
    refine V.aload_n C 0 rfl rfl dX9_removeEquation_38 ?_
    refine V.cVv C lX9_106 oX9_slice dX9_removeEquation_39 (ct_S_slice G σ35 (P.1, P.2.1.eraseIdx v, P.2.2) P35_ (hW.erE v)) (by assumption) rfl rfl (Nat.le_of_ble_eq_true rfl) ⟨Nat.le_of_ble_eq_true rfl, Nat.le_of_ble_eq_true rfl⟩ ⟨Nat.le_of_ble_eq_true rfl, Nat.le_of_ble_eq_true rfl⟩ (fun σ39 pp_39 => ?_)
    refine V.aload_n C 0 rfl rfl dX9_removeEquation_42 ?_
    refine V.getR C fX9_28 dX9_removeEquation_43 (by assumption) rfl ?_
    refine V.getR C fX9_112 dX9_removeEquation_46 (by assumption) rfl ?_
    refine V.cVi C lX9_126 oX6_count dX9_removeEquation_49 (ct_St_count G σ39 11 10 SA_11) (by assumption) rfl rfl (Nat.le_of_ble_eq_true rfl) ⟨Nat.le_of_ble_eq_true rfl, Nat.le_of_ble_eq_true rfl⟩ ⟨Nat.le_of_ble_eq_true rfl, Nat.le_of_ble_eq_true rfl⟩ (fun rr_49 σ49 pp_49 => ?_)
    obtain ⟨ee_49, ff_49⟩ := pp_49
    rw [ee_49, ff_49]
    rw [pp_39.1.eq]
    exact V.iretS C R dX9_removeEquation_52 (by
      have s_ : Sm 91 111 σ σ39 := ((pp_24.2.sm (by omega)).trans (pp_35.2.sm (by omega))).trans (pp_39.2.sm (by omega) (by omega))
      have m_ : Sm 123 136 σ σ39 := ((pp_24.2.sm (by omega)).trans (pp_35.2.sm (by omega))).trans (pp_39.2.sm (by omega) (by omega))
      have d_ : Sm 19 29 σ σ39 := ((pp_24.2.sm (by omega)).trans (pp_35.2.sm (by omega))).trans (pp_39.2.sm (by omega) (by omega))
      have t_ : Sm 1 3 σ σ39 := ((pp_24.2.sm (by omega)).trans (pp_35.2.sm (by omega))).trans (pp_39.2.sm (by omega) (by omega))
      have h_ : Sm 29 91 σ24 σ39 := (pp_35.2.sm (by omega)).trans (pp_39.2.sm (by omega) (by omega))
      have e7_ : σ39.1 0 7 = σ.1 0 7 := by
        rw [pp_39.2.2.1, pp_35.2.F (by omega), (pp_24.2 0 (by omega)).1]
      have eP_ : σ39.2.2.2 = σ24.2.2.2 := by rw [pp_39.2.2.2]; exact pp_35.2.2
      refine ⟨?_, ?_, m_⟩
      · unfold rmR; rw [if_pos z_]
        show nI (P.2.1.eraseIdx v).length = _
        rw [List.length_eraseIdx, if_pos hv]
      · unfold rmE rmH
        rw [if_pos z_, if_pos z_, nI_toNat (by omega)]
        exact ⟨pp_39.1, hT.sm t_, ⟨D0, hD.sm d_ (by omega) (by omega)⟩, pp_24.1.sm h_ eP_, hS.sm s_ e7_⟩)
  · have z_ := bI_eq0 hb_11
    refine V.iconst C ((-1)) c_m1 dX9_removeEquation_14 ?_
    exact V.iretS C R dX9_removeEquation_15 ⟨by unfold rmR; rw [if_neg (by rw [z_]; decide)], by unfold rmE rmH; rw [if_neg (by rw [z_]; decide), if_neg (by rw [z_]; decide)]; exact hI, Sm.refl _ _ _⟩
set_option maxRecDepth 100000 in
set_option maxHeartbeats 4000000 in
theorem ct_S_removeDisequation (G : Gl) (σ : SS) (n : Nat) (ch : Nat → Nat) (P : Prob) (hs : List Prob) (sl : Nat → Option Prob) (x : Int32) (hI : IS σ n ch P hs sl) : CI G mX9_removeDisequation [Rf G 0, .int x] σ (fun r σ1 => r = rmR P.2.2 x ∧ IS σ1 n ch (rmD P x) (rmH P.2.2 hs P x) sl ∧ Sm 123 136 σ σ1) := by
  refine Ctr.of oX9_removeDisequation (Nat.le_of_ble_eq_true rfl) ?_
  intro X C R hnm hz0
  have C : Cx G X cX9_removeDisequation 2 RX9 6 141 0 0 := C
  have R : Cr G X (some .int) 0 0 _ := R
  show V G X 2 0 0 0 [(0, Rf G 0), (1, .int x)] [] (wld G σ)
  have kk_0 := sk_0
  have kk_1 := sk_1
  have kk_6 := sk_6
  have kk_9 := sk_9
  have kk_11 := sk_11
  have kk_15 := sk_15
  have kk_19 := sk_19
  have kk_29 := sk_29
  have kk_91 := sk_91
  have kk_101 := sk_101
  have kk_111 := sk_111
  have kk_113 := sk_113
  have kk_116 := sk_116
  have kk_119 := sk_119
  have hC := hI.1
  have hW := hC.2.1
  obtain ⟨hT, ⟨D0, hD⟩, hH, hS⟩ := hI.2
  have l10_ := hW.2.1
  have l3_ := hW.2.2.1
  refine V.aload_n C 0 rfl rfl dX9_removeDisequation_0 ?_
  refine V.getR C fX9_28 dX9_removeDisequation_1 (by assumption) rfl ?_
  refine V.getR C fX9_129 dX9_removeDisequation_4 (by assumption) rfl ?_
  refine V.iload_n C 1 rfl rfl dX9_removeDisequation_7 ?_
  refine V.cVi C lX9_116 oX6_has dX9_removeDisequation_8 (ct_St_has G σ 15 3 P.2.2.length x SA_15 hC.di (by omega)) (by assumption) rfl rfl (Nat.le_of_ble_eq_true rfl) ⟨Nat.le_of_ble_eq_true rfl, Nat.le_of_ble_eq_true rfl⟩ ⟨Nat.le_of_ble_eq_true rfl, Nat.le_of_ble_eq_true rfl⟩ (fun rr_8 σ8 pp_8 => ?_)
  obtain ⟨ee_8, ff_8⟩ := pp_8
  rw [ee_8, ff_8]
  refine V.if_ne C 16 dX9_removeDisequation_11 rfl (fun hb_11 => ?_) (fun hb_11 => ?_)
  · have z_ := bI_ne0 hb_11
    obtain ⟨v, hv, rfl⟩ := inB_of (by omega) z_
    refine V.aload_n C 0 rfl rfl dX9_removeDisequation_16 ?_
    refine V.getR C fX9_38 dX9_removeDisequation_17 (by assumption) rfl ?_
    refine V.aload_n C 0 rfl rfl dX9_removeDisequation_20 ?_
    refine V.getR C fX9_28 dX9_removeDisequation_21 (by assumption) rfl ?_
    refine V.cVv C lX9_99 oX2_push dX9_removeDisequation_24 (ct_Hi_push G σ hs P hH hC.1 hW.okP) (by assumption) rfl rfl (Nat.le_of_ble_eq_true rfl) ⟨Nat.le_of_ble_eq_true rfl, Nat.le_of_ble_eq_true rfl⟩ ⟨Nat.le_of_ble_eq_true rfl, Nat.le_of_ble_eq_true rfl⟩ (fun σ24 pp_24 => ?_)
    have p9_ := hC.1.frx pp_24.2 (by omega)
    refine V.aload_n C 0 rfl rfl dX9_removeDisequation_27 ?_
    refine V.getR C fX9_28 dX9_removeDisequation_28 (by assumption) rfl ?_
    refine V.getR C fX9_129 dX9_removeDisequation_31 (by assumption) rfl ?_
    refine V.iload_n C 1 rfl rfl dX9_removeDisequation_34 ?_
    refine V.cVv C lX9_122 oX6_drop dX9_removeDisequation_35 (ct_St_drop G σ24 15 3 v P.2.2 SA_15 (p9_.2.2) (hW.okL2) hv) (by assumption) rfl rfl (Nat.le_of_ble_eq_true rfl) ⟨Nat.le_of_ble_eq_true rfl, Nat.le_of_ble_eq_true rfl⟩ ⟨Nat.le_of_ble_eq_true rfl, Nat.le_of_ble_eq_true rfl⟩ (fun σ35 pp_35 => ?_)
    have P35_ : RP σ35 9 (P.1, P.2.1, P.2.2.eraseIdx v) := ⟨by rw [pp_35.2.A (by omega)]; exact p9_.1, p9_.2.1.fr pp_35.2 (by omega), pp_35.1⟩
    refine V.aload_n C 0 rfl rfl dX9_removeDisequation_38 ?_
    refine V.cVv C lX9_106 oX9_slice dX9_removeDisequation_39 (ct_S_slice G σ35 (P.1, P.2.1, P.2.2.eraseIdx v) P35_ (hW.erD v)) (by assumption) rfl rfl (Nat.le_of_ble_eq_true rfl) ⟨Nat.le_of_ble_eq_true rfl, Nat.le_of_ble_eq_true rfl⟩ ⟨Nat.le_of_ble_eq_true rfl, Nat.le_of_ble_eq_true rfl⟩ (fun σ39 pp_39 => ?_)
    refine V.aload_n C 0 rfl rfl dX9_removeDisequation_42 ?_
    refine V.getR C fX9_28 dX9_removeDisequation_43 (by assumption) rfl ?_
    refine V.getR C fX9_129 dX9_removeDisequation_46 (by assumption) rfl ?_
    refine V.cVi C lX9_126 oX6_count dX9_removeDisequation_49 (ct_St_count G σ39 15 3 SA_15) (by assumption) rfl rfl (Nat.le_of_ble_eq_true rfl) ⟨Nat.le_of_ble_eq_true rfl, Nat.le_of_ble_eq_true rfl⟩ ⟨Nat.le_of_ble_eq_true rfl, Nat.le_of_ble_eq_true rfl⟩ (fun rr_49 σ49 pp_49 => ?_)
    obtain ⟨ee_49, ff_49⟩ := pp_49
    rw [ee_49, ff_49]
    rw [pp_39.1.di]
    exact V.iretS C R dX9_removeDisequation_52 (by
      have s_ : Sm 91 111 σ σ39 := ((pp_24.2.sm (by omega)).trans (pp_35.2.sm (by omega))).trans (pp_39.2.sm (by omega) (by omega))
      have m_ : Sm 123 136 σ σ39 := ((pp_24.2.sm (by omega)).trans (pp_35.2.sm (by omega))).trans (pp_39.2.sm (by omega) (by omega))
      have d_ : Sm 19 29 σ σ39 := ((pp_24.2.sm (by omega)).trans (pp_35.2.sm (by omega))).trans (pp_39.2.sm (by omega) (by omega))
      have t_ : Sm 1 3 σ σ39 := ((pp_24.2.sm (by omega)).trans (pp_35.2.sm (by omega))).trans (pp_39.2.sm (by omega) (by omega))
      have h_ : Sm 29 91 σ24 σ39 := (pp_35.2.sm (by omega)).trans (pp_39.2.sm (by omega) (by omega))
      have e7_ : σ39.1 0 7 = σ.1 0 7 := by
        rw [pp_39.2.2.1, pp_35.2.F (by omega), (pp_24.2 0 (by omega)).1]
      have eP_ : σ39.2.2.2 = σ24.2.2.2 := by rw [pp_39.2.2.2]; exact pp_35.2.2
      refine ⟨?_, ?_, m_⟩
      · unfold rmR; rw [if_pos z_]
        show nI (P.2.2.eraseIdx v).length = _
        rw [List.length_eraseIdx, if_pos hv]
      · unfold rmD rmH
        rw [if_pos z_, if_pos z_, nI_toNat (by omega)]
        exact ⟨pp_39.1, hT.sm t_, ⟨D0, hD.sm d_ (by omega) (by omega)⟩, pp_24.1.sm h_ eP_, hS.sm s_ e7_⟩)
  · have z_ := bI_eq0 hb_11
    refine V.iconst C ((-1)) c_m1 dX9_removeDisequation_14 ?_
    exact V.iretS C R dX9_removeDisequation_15 ⟨by unfold rmR; rw [if_neg (by rw [z_]; decide)], by unfold rmD rmH; rw [if_neg (by rw [z_]; decide), if_neg (by rw [z_]; decide)]; exact hI, Sm.refl _ _ _⟩
