/-! The model's flat problems; readStatement, readDeclaration, readItem. -/
def fAt (f : Nat → Int32) (a : Nat) (s : Stm) : Prop := f a = nI s.1 ∧ (∀ k, k < s.1 → f (a + 1 + k) = nI (s.2.1 k)) ∧ (∀ k, k < s.1 → f (a + 17 + k) = nI (s.2.2 k))
/-- a problem in a row of 439 numbers -/
def FP (f : Nat → Int32) (P : Prob) : Prop := (∀ v, v < 8 → f v = nI (P.1 v)) ∧ f 8 = nI P.2.1.length ∧ f 9 = nI P.2.2.length ∧ (∀ (i : Nat) (s : Stm), P.2.1[i]? = some s → fAt f (10 + 33 * i) s) ∧ (∀ (i : Nat) (s : Stm), P.2.2[i]? = some s → fAt f (10 + 33 * (10 + i)) s)
theorem fAt.same {f g : Nat → Int32} {a : Nat} {s : Stm} (h : fAt f a s) (hs : s.1 ≤ 16) (hg : ∀ j, a ≤ j → j < a + 33 → g j = f j) : fAt g a s :=
  ⟨by rw [hg a (by omega) (by omega)]; exact h.1, fun k hk => by rw [hg _ (by omega) (by omega)]; exact h.2.1 k hk, fun k hk => by rw [hg _ (by omega) (by omega)]; exact h.2.2 k hk⟩
theorem FP.copy {f g : Nat → Int32} {P : Prob} (h : FP f P) (hw : wfP P) (hg : ∀ j, j < 439 → g j = f j) : FP g P := by
  refine ⟨fun v hv => by rw [hg v (by omega)]; exact h.1 v hv, by rw [hg _ (by decide)]; exact h.2.1, by rw [hg _ (by decide)]; exact h.2.2.1, fun i s hs => ?_, fun i s hs => ?_⟩
  · have hi := (List.getElem?_eq_some_iff.mp hs).1
    have := hw.2.1
    exact (h.2.2.2.1 i s hs).same (hw.2.2.2.1 i s hs).2.1 (fun j h1 h2 => hg j (by omega))
  · have hi := (List.getElem?_eq_some_iff.mp hs).1
    have := hw.2.2.1
    exact (h.2.2.2.2 i s hs).same (hw.2.2.2.2 i s hs).2.1 (fun j h1 h2 => hg j (by omega))
def addS (neg : Bool) (P : Prob) (s : Stm) : Prob := if neg then (P.1, P.2.1, P.2.2 ++ [s]) else (P.1, P.2.1 ++ [s], P.2.2)
def idxS (neg : Bool) (P : Prob) : Nat := if neg then 10 + P.2.2.length else P.2.1.length
def cntS (neg : Bool) : Nat := if neg then 9 else 8
def lenS (neg : Bool) (P : Prob) : Nat := if neg then P.2.2.length else P.2.1.length
def capS (neg : Bool) : Nat := if neg then 3 else 10
theorem app_get {l : List Stm} {t : Stm} {i : Nat} {s : Stm} (h : (l ++ [t])[i]? = some s) : l[i]? = some s ∨ (i = l.length ∧ s = t) := by
  rw [List.getElem?_append] at h
  split at h
  · exact Or.inl h
  · rcases Nat.eq_zero_or_pos (i - l.length) with q | q
    · rw [q] at h; cases h; exact Or.inr ⟨by omega, rfl⟩
    · rw [List.getElem?_eq_none (by simp; omega)] at h; cases h
theorem FP.add {f g : Nat → Int32} {P : Prob} {neg : Bool} {s : Stm} (h : FP f P) (hw : wfP P) (hl : lenS neg P < capS neg) (h1 : ∀ j, j ≠ cntS neg → (j < 10 + 33 * idxS neg P ∨ 10 + 33 * idxS neg P + 33 ≤ j) → g j = f j) (h2 : g (cntS neg) = nI (lenS neg P + 1)) (h3 : fAt g (10 + 33 * idxS neg P) s) : FP g (addS neg P s) := by
  have l1 := hw.2.1
  have l2 := hw.2.2.1
  cases neg with
  | false =>
    have hl : P.2.1.length < 10 := hl
    have h1 : ∀ j, j ≠ 8 → (j < 10 + 33 * P.2.1.length ∨ 10 + 33 * P.2.1.length + 33 ≤ j) → g j = f j := h1
    refine ⟨fun v hv => by rw [h1 v (by omega) (by omega)]; exact h.1 v hv, by show g 8 = nI (P.2.1 ++ [s]).length; rw [List.length_append]; exact h2, by rw [h1 9 (by omega) (by omega)]; exact h.2.2.1, fun i t ht => ?_, fun i t ht => ?_⟩
    · rcases app_get ht with q | ⟨q, rfl⟩
      · have hi := (List.getElem?_eq_some_iff.mp q).1
        exact (h.2.2.2.1 i t q).same (hw.2.2.2.1 i t q).2.1 (fun j z1 z2 => h1 j (by omega) (by omega))
      · rw [q]; exact h3
    · have hi := (List.getElem?_eq_some_iff.mp ht).1
      exact (h.2.2.2.2 i t ht).same (hw.2.2.2.2 i t ht).2.1 (fun j z1 z2 => h1 j (by omega) (by omega))
  | true =>
    have hl : P.2.2.length < 3 := hl
    have h1 : ∀ j, j ≠ 9 → (j < 10 + 33 * (10 + P.2.2.length) ∨ 10 + 33 * (10 + P.2.2.length) + 33 ≤ j) → g j = f j := h1
    refine ⟨fun v hv => by rw [h1 v (by omega) (by omega)]; exact h.1 v hv, by rw [h1 8 (by omega) (by omega)]; exact h.2.1, by show g 9 = nI (P.2.2 ++ [s]).length; rw [List.length_append]; exact h2, fun i t ht => ?_, fun i t ht => ?_⟩
    · have hi : i < P.2.1.length := (List.getElem?_eq_some_iff.mp ht).1
      exact (h.2.2.2.1 i t ht).same (hw.2.2.2.1 i t ht).2.1 (fun j z1 z2 => h1 j (by omega) (by omega))
    · rcases app_get ht with q | ⟨q, rfl⟩
      · have hi := (List.getElem?_eq_some_iff.mp q).1
        exact (h.2.2.2.2 i t q).same (hw.2.2.2.2 i t q).2.1 (fun j z1 z2 => h1 j (by omega) (by omega))
      · rw [q]; exact h3
theorem FP.cnt {f : Nat → Int32} {P : Prob} (h : FP f P) (neg : Bool) : f (cntS neg) = nI (lenS neg P) := by
  cases neg
  · exact h.2.1
  · exact h.2.2.1
theorem idx_le {P : Prob} {neg : Bool} (h : lenS neg P < capS neg) : idxS neg P ≤ 12 := by
  cases neg
  · have : P.2.1.length < 10 := h
    show P.2.1.length ≤ 12; omega
  · have : P.2.2.length < 3 := h
    show 10 + P.2.2.length ≤ 12; omega
theorem cnt_lt (neg : Bool) : cntS neg < 10 ∧ 8 ≤ cntS neg := by cases neg <;> decide
section
variable {ch : Nat → Nat} {n : Nat} {w : Nat → Nat} {a : Nat}
theorem ps_e1 {e : Nat} (h : pTerm ch n w a = .error e) : pStm ch n w a = .error e := by unfold pStm; rw [h]
theorem ps_e2 {bs : List Nat} {b : Nat} (h : pTerm ch n w a = .ok (bs, b)) (h2 : ¬ (bs.length ≤ 16 ∧ kKT ch n b = 61)) : pStm ch n w a = .error b := by unfold pStm; rw [h]; simp only [if_neg h2]
theorem ps_e3 {bs : List Nat} {b e : Nat} (h : pTerm ch n w a = .ok (bs, b)) (h2 : bs.length ≤ 16 ∧ kKT ch n b = 61) (h3 : pTerm ch n w (nxT ch n b) = .error e) : pStm ch n w a = .error e := by unfold pStm; rw [h]; simp only [if_pos h2, h3]
theorem ps_e4 {bs cs : List Nat} {b c : Nat} (h : pTerm ch n w a = .ok (bs, b)) (h2 : bs.length ≤ 16 ∧ kKT ch n b = 61) (h3 : pTerm ch n w (nxT ch n b) = .ok (cs, c)) (h4 : ¬ (cs.length = bs.length ∧ kKT ch n c = 59)) : pStm ch n w a = .error c := by unfold pStm; rw [h]; simp only [if_pos h2, h3, if_neg h4]
theorem ps_ok {bs cs : List Nat} {b c : Nat} (h : pTerm ch n w a = .ok (bs, b)) (h2 : bs.length ≤ 16 ∧ kKT ch n b = 61) (h3 : pTerm ch n w (nxT ch n b) = .ok (cs, c)) (h4 : cs.length = bs.length ∧ kKT ch n c = 59) : pStm ch n w a = .ok ((bs.length, rowT bs, rowT cs), nxT ch n c) := by unfold pStm; rw [h]; simp only [if_pos h2, h3, if_pos h4]
end
set_option maxRecDepth 100000 in
set_option maxHeartbeats 4000000 in
theorem ct_M_stm (G : Gl) (σ : SS) (n : Nat) (ch : Nat → Nat) (a : Nat) (P : Prob) (neg : Bool) (hO : Ok σ n ch a) (hP : FP (σ.2.1 125) P) (hwf : wfP P) (hl : lenS neg P < capS neg) : CV G mX10_readStatement [Rf G 123, .int (bI neg)] σ (fun σ1 => ((∃ s b, pStm ch n P.1 a = .ok (s, b) ∧ Ok σ1 n ch b ∧ FP (σ1.2.1 125) (addS neg P s)) ∨ (∃ e, pStm ch n P.1 a = .error e ∧ Er σ1 e)) ∧ FM [9, 10, 11, 12, 13, 15, 16] [125, 130] σ σ1) := by
  refine Ctr.of oX10_readStatement (Nat.le_of_ble_eq_true rfl) ?_
  intro X C R hnm hz0
  have C : Cx G X cX10_readStatement 5 RX10 8 174 0 0 := C
  have R : Cr G X none 0 0 _ := R
  show V G X 5 0 0 0 [(0, Rf G 123), (1, .int (bI neg))] [] (wld G σ)
  have kk_123 := sk_123
  have kk_124 := sk_124
  have kk_125 := sk_125
  have kk_129 := sk_129
  have kk_130 := sk_130
  obtain ⟨idx, hidx⟩ : ∃ i, i = idxS neg P := ⟨_, rfl⟩
  obtain ⟨at_, hat⟩ : ∃ i, i = 10 + 33 * idx := ⟨_, rfl⟩
  have i12_ := idx_le hl
  rw [← hidx] at i12_
  have e37 : ∀ (e : Nat) (σ1 : SS), pStm ch n P.1 a = .error e → Er σ1 e → FM [9, 10, 11, 12, 13, 15, 16] [125, 130] σ σ1 → V G X 5 0 0 37 [(0, Rf G 123), (1, .int (bI neg)), (2, .int (nI idx)), (3, .int (nI at_))] [] (wld G σ1) := by
    intro e σ1  he hE hF1
    refine V.aload_n C 0 rfl rfl dX10_readStatement_37 ?_
    refine V.getI C fX10_96 dX10_readStatement_38 (by assumption) rfl ?_
    refine V.istore C dX10_readStatement_41 (by decide) ?_
    refine V.aload_n C 0 rfl rfl dX10_readStatement_43 ?_
    refine V.aload_n C 0 rfl rfl dX10_readStatement_44 ?_
    refine V.bipush C (nI 61) b_61 dX10_readStatement_45 ?_
    refine V.cVi C lX10_105 oX10_isSign dX10_readStatement_47 (ct_M_sign G σ1 _) (by assumption) rfl rfl (Nat.le_of_ble_eq_true rfl) ⟨Nat.le_of_ble_eq_true rfl, Nat.le_of_ble_eq_true rfl⟩ ⟨Nat.le_of_ble_eq_true rfl, Nat.le_of_ble_eq_true rfl⟩ (fun rr_47 σ47 pp_47 => ?_)
    obtain ⟨ee_47, ff_47⟩ := pp_47
    rw [ee_47, ff_47]
    refine V.if_eq C 64 dX10_readStatement_50 rfl (fun hb_50 => ?_) (fun hb_50 => ?_)
    · refine V.iconst C (nI 0) c_0 dX10_readStatement_64 ?_
      refine V.cVi C lX10_92 oX10_take dX10_readStatement_65 (ct_M_takeE G σ1 _ hE.ne) (by assumption) rfl rfl (Nat.le_of_ble_eq_true rfl) ⟨Nat.le_of_ble_eq_true rfl, Nat.le_of_ble_eq_true rfl⟩ ⟨Nat.le_of_ble_eq_true rfl, Nat.le_of_ble_eq_true rfl⟩ (fun rr_65 σ65 pp_65 => ?_)
      rw [pp_65]
      refine V.pop C rfl dX10_readStatement_68 ?_
      refine V.aload_n C 0 rfl rfl dX10_readStatement_69 ?_
      refine V.cVi C lX10_85 oX10_isFine dX10_readStatement_70 (ct_M_fine G σ1) (by assumption) rfl rfl (Nat.le_of_ble_eq_true rfl) ⟨Nat.le_of_ble_eq_true rfl, Nat.le_of_ble_eq_true rfl⟩ ⟨Nat.le_of_ble_eq_true rfl, Nat.le_of_ble_eq_true rfl⟩ (fun rr_70 σ70 pp_70 => ?_)
      obtain ⟨ee_70, ff_70⟩ := pp_70
      rw [ee_70, ff_70]
      refine V.if_eq C 91 dX10_readStatement_73 rfl (fun hb_73 => ?_) (fun hb_73 => ?_)
      · refine V.aload_n C 0 rfl rfl dX10_readStatement_91 ?_
        refine V.cVi C lX10_85 oX10_isFine dX10_readStatement_92 (ct_M_fine G σ1) (by assumption) rfl rfl (Nat.le_of_ble_eq_true rfl) ⟨Nat.le_of_ble_eq_true rfl, Nat.le_of_ble_eq_true rfl⟩ ⟨Nat.le_of_ble_eq_true rfl, Nat.le_of_ble_eq_true rfl⟩ (fun rr_92 σ92 pp_92 => ?_)
        obtain ⟨ee_92, ff_92⟩ := pp_92
        rw [ee_92, ff_92]
        refine V.if_eq C 102 dX10_readStatement_95 rfl (fun hb_95 => ?_) (fun hb_95 => ?_)
        · refine V.aload_n C 0 rfl rfl dX10_readStatement_102 ?_
          refine V.aload_n C 0 rfl rfl dX10_readStatement_103 ?_
          refine V.bipush C (nI 59) b_59 dX10_readStatement_104 ?_
          refine V.cVi C lX10_105 oX10_isSign dX10_readStatement_106 (ct_M_sign G σ1 _) (by assumption) rfl rfl (Nat.le_of_ble_eq_true rfl) ⟨Nat.le_of_ble_eq_true rfl, Nat.le_of_ble_eq_true rfl⟩ ⟨Nat.le_of_ble_eq_true rfl, Nat.le_of_ble_eq_true rfl⟩ (fun rr_106 σ106 pp_106 => ?_)
          obtain ⟨ee_106, ff_106⟩ := pp_106
          rw [ee_106, ff_106]
          refine V.if_eq C 125 dX10_readStatement_109 rfl (fun hb_109 => ?_) (fun hb_109 => ?_)
          · refine V.iconst C (nI 0) c_0 dX10_readStatement_125 ?_
            refine V.cVi C lX10_92 oX10_take dX10_readStatement_126 (ct_M_takeE G σ1 _ hE.ne) (by assumption) rfl rfl (Nat.le_of_ble_eq_true rfl) ⟨Nat.le_of_ble_eq_true rfl, Nat.le_of_ble_eq_true rfl⟩ ⟨Nat.le_of_ble_eq_true rfl, Nat.le_of_ble_eq_true rfl⟩ (fun rr_126 σ126 pp_126 => ?_)
            rw [pp_126]
            refine V.pop C rfl dX10_readStatement_129 ?_
            refine V.aload_n C 0 rfl rfl dX10_readStatement_130 ?_
            refine V.cVi C lX10_85 oX10_isFine dX10_readStatement_131 (ct_M_fine G σ1) (by assumption) rfl rfl (Nat.le_of_ble_eq_true rfl) ⟨Nat.le_of_ble_eq_true rfl, Nat.le_of_ble_eq_true rfl⟩ ⟨Nat.le_of_ble_eq_true rfl, Nat.le_of_ble_eq_true rfl⟩ (fun rr_131 σ131 pp_131 => ?_)
            obtain ⟨ee_131, ff_131⟩ := pp_131
            rw [ee_131, ff_131]
            refine V.if_eq C 167 dX10_readStatement_134 rfl (fun hb_134 => ?_) (fun hb_134 => ?_)
            · exact V.vretS C R dX10_readStatement_167 ⟨Or.inr ⟨e, he, hE⟩, hF1⟩
            · exact absurd (bI_ne0 hb_134) (by rw [decide_eq_false hE.ne]; decide)
          · refine V.aload_n C 0 rfl rfl dX10_readStatement_112 ?_
            refine V.getI C fX10_96 dX10_readStatement_113 (by assumption) rfl ?_
            refine V.iload C rfl dX10_readStatement_116 ?_
            refine V.icmp_ne C 125 dX10_readStatement_118 rfl (fun hb_118 => ?_) (fun hb_118 => ?_)
            · refine V.iconst C (nI 0) c_0 dX10_readStatement_125 ?_
              refine V.cVi C lX10_92 oX10_take dX10_readStatement_126 (ct_M_takeE G σ1 _ hE.ne) (by assumption) rfl rfl (Nat.le_of_ble_eq_true rfl) ⟨Nat.le_of_ble_eq_true rfl, Nat.le_of_ble_eq_true rfl⟩ ⟨Nat.le_of_ble_eq_true rfl, Nat.le_of_ble_eq_true rfl⟩ (fun rr_126 σ126 pp_126 => ?_)
              rw [pp_126]
              refine V.pop C rfl dX10_readStatement_129 ?_
              refine V.aload_n C 0 rfl rfl dX10_readStatement_130 ?_
              refine V.cVi C lX10_85 oX10_isFine dX10_readStatement_131 (ct_M_fine G σ1) (by assumption) rfl rfl (Nat.le_of_ble_eq_true rfl) ⟨Nat.le_of_ble_eq_true rfl, Nat.le_of_ble_eq_true rfl⟩ ⟨Nat.le_of_ble_eq_true rfl, Nat.le_of_ble_eq_true rfl⟩ (fun rr_131 σ131 pp_131 => ?_)
              obtain ⟨ee_131, ff_131⟩ := pp_131
              rw [ee_131, ff_131]
              refine V.if_eq C 167 dX10_readStatement_134 rfl (fun hb_134 => ?_) (fun hb_134 => ?_)
              · exact V.vretS C R dX10_readStatement_167 ⟨Or.inr ⟨e, he, hE⟩, hF1⟩
              · exact absurd (bI_ne0 hb_134) (by rw [decide_eq_false hE.ne]; decide)
            · refine V.iconst C (nI 1) c_1 dX10_readStatement_121 ?_
              refine V.goto C 126 dX10_readStatement_122 rfl ?_
              refine V.cVi C lX10_92 oX10_take dX10_readStatement_126 (ct_M_takeE G σ1 _ hE.ne) (by assumption) rfl rfl (Nat.le_of_ble_eq_true rfl) ⟨Nat.le_of_ble_eq_true rfl, Nat.le_of_ble_eq_true rfl⟩ ⟨Nat.le_of_ble_eq_true rfl, Nat.le_of_ble_eq_true rfl⟩ (fun rr_126 σ126 pp_126 => ?_)
              rw [pp_126]
              refine V.pop C rfl dX10_readStatement_129 ?_
              refine V.aload_n C 0 rfl rfl dX10_readStatement_130 ?_
              refine V.cVi C lX10_85 oX10_isFine dX10_readStatement_131 (ct_M_fine G σ1) (by assumption) rfl rfl (Nat.le_of_ble_eq_true rfl) ⟨Nat.le_of_ble_eq_true rfl, Nat.le_of_ble_eq_true rfl⟩ ⟨Nat.le_of_ble_eq_true rfl, Nat.le_of_ble_eq_true rfl⟩ (fun rr_131 σ131 pp_131 => ?_)
              obtain ⟨ee_131, ff_131⟩ := pp_131
              rw [ee_131, ff_131]
              refine V.if_eq C 167 dX10_readStatement_134 rfl (fun hb_134 => ?_) (fun hb_134 => ?_)
              · exact V.vretS C R dX10_readStatement_167 ⟨Or.inr ⟨e, he, hE⟩, hF1⟩
              · exact absurd (bI_ne0 hb_134) (by rw [decide_eq_false hE.ne]; decide)
        · exact absurd (bI_ne0 hb_95) (by rw [decide_eq_false hE.ne]; decide)
      · exact absurd (bI_ne0 hb_73) (by rw [decide_eq_false hE.ne]; decide)
    · refine V.iload C rfl dX10_readStatement_53 ?_
      refine V.bipush C (nI 16) b_16 dX10_readStatement_55 ?_
      refine V.icmp_gt C 64 dX10_readStatement_57 rfl (fun hb_57 => ?_) (fun hb_57 => ?_)
      · refine V.iconst C (nI 0) c_0 dX10_readStatement_64 ?_
        refine V.cVi C lX10_92 oX10_take dX10_readStatement_65 (ct_M_takeE G σ1 _ hE.ne) (by assumption) rfl rfl (Nat.le_of_ble_eq_true rfl) ⟨Nat.le_of_ble_eq_true rfl, Nat.le_of_ble_eq_true rfl⟩ ⟨Nat.le_of_ble_eq_true rfl, Nat.le_of_ble_eq_true rfl⟩ (fun rr_65 σ65 pp_65 => ?_)
        rw [pp_65]
        refine V.pop C rfl dX10_readStatement_68 ?_
        refine V.aload_n C 0 rfl rfl dX10_readStatement_69 ?_
        refine V.cVi C lX10_85 oX10_isFine dX10_readStatement_70 (ct_M_fine G σ1) (by assumption) rfl rfl (Nat.le_of_ble_eq_true rfl) ⟨Nat.le_of_ble_eq_true rfl, Nat.le_of_ble_eq_true rfl⟩ ⟨Nat.le_of_ble_eq_true rfl, Nat.le_of_ble_eq_true rfl⟩ (fun rr_70 σ70 pp_70 => ?_)
        obtain ⟨ee_70, ff_70⟩ := pp_70
        rw [ee_70, ff_70]
        refine V.if_eq C 91 dX10_readStatement_73 rfl (fun hb_73 => ?_) (fun hb_73 => ?_)
        · refine V.aload_n C 0 rfl rfl dX10_readStatement_91 ?_
          refine V.cVi C lX10_85 oX10_isFine dX10_readStatement_92 (ct_M_fine G σ1) (by assumption) rfl rfl (Nat.le_of_ble_eq_true rfl) ⟨Nat.le_of_ble_eq_true rfl, Nat.le_of_ble_eq_true rfl⟩ ⟨Nat.le_of_ble_eq_true rfl, Nat.le_of_ble_eq_true rfl⟩ (fun rr_92 σ92 pp_92 => ?_)
          obtain ⟨ee_92, ff_92⟩ := pp_92
          rw [ee_92, ff_92]
          refine V.if_eq C 102 dX10_readStatement_95 rfl (fun hb_95 => ?_) (fun hb_95 => ?_)
          · refine V.aload_n C 0 rfl rfl dX10_readStatement_102 ?_
            refine V.aload_n C 0 rfl rfl dX10_readStatement_103 ?_
            refine V.bipush C (nI 59) b_59 dX10_readStatement_104 ?_
            refine V.cVi C lX10_105 oX10_isSign dX10_readStatement_106 (ct_M_sign G σ1 _) (by assumption) rfl rfl (Nat.le_of_ble_eq_true rfl) ⟨Nat.le_of_ble_eq_true rfl, Nat.le_of_ble_eq_true rfl⟩ ⟨Nat.le_of_ble_eq_true rfl, Nat.le_of_ble_eq_true rfl⟩ (fun rr_106 σ106 pp_106 => ?_)
            obtain ⟨ee_106, ff_106⟩ := pp_106
            rw [ee_106, ff_106]
            refine V.if_eq C 125 dX10_readStatement_109 rfl (fun hb_109 => ?_) (fun hb_109 => ?_)
            · refine V.iconst C (nI 0) c_0 dX10_readStatement_125 ?_
              refine V.cVi C lX10_92 oX10_take dX10_readStatement_126 (ct_M_takeE G σ1 _ hE.ne) (by assumption) rfl rfl (Nat.le_of_ble_eq_true rfl) ⟨Nat.le_of_ble_eq_true rfl, Nat.le_of_ble_eq_true rfl⟩ ⟨Nat.le_of_ble_eq_true rfl, Nat.le_of_ble_eq_true rfl⟩ (fun rr_126 σ126 pp_126 => ?_)
              rw [pp_126]
              refine V.pop C rfl dX10_readStatement_129 ?_
              refine V.aload_n C 0 rfl rfl dX10_readStatement_130 ?_
              refine V.cVi C lX10_85 oX10_isFine dX10_readStatement_131 (ct_M_fine G σ1) (by assumption) rfl rfl (Nat.le_of_ble_eq_true rfl) ⟨Nat.le_of_ble_eq_true rfl, Nat.le_of_ble_eq_true rfl⟩ ⟨Nat.le_of_ble_eq_true rfl, Nat.le_of_ble_eq_true rfl⟩ (fun rr_131 σ131 pp_131 => ?_)
              obtain ⟨ee_131, ff_131⟩ := pp_131
              rw [ee_131, ff_131]
              refine V.if_eq C 167 dX10_readStatement_134 rfl (fun hb_134 => ?_) (fun hb_134 => ?_)
              · exact V.vretS C R dX10_readStatement_167 ⟨Or.inr ⟨e, he, hE⟩, hF1⟩
              · exact absurd (bI_ne0 hb_134) (by rw [decide_eq_false hE.ne]; decide)
            · refine V.aload_n C 0 rfl rfl dX10_readStatement_112 ?_
              refine V.getI C fX10_96 dX10_readStatement_113 (by assumption) rfl ?_
              refine V.iload C rfl dX10_readStatement_116 ?_
              refine V.icmp_ne C 125 dX10_readStatement_118 rfl (fun hb_118 => ?_) (fun hb_118 => ?_)
              · refine V.iconst C (nI 0) c_0 dX10_readStatement_125 ?_
                refine V.cVi C lX10_92 oX10_take dX10_readStatement_126 (ct_M_takeE G σ1 _ hE.ne) (by assumption) rfl rfl (Nat.le_of_ble_eq_true rfl) ⟨Nat.le_of_ble_eq_true rfl, Nat.le_of_ble_eq_true rfl⟩ ⟨Nat.le_of_ble_eq_true rfl, Nat.le_of_ble_eq_true rfl⟩ (fun rr_126 σ126 pp_126 => ?_)
                rw [pp_126]
                refine V.pop C rfl dX10_readStatement_129 ?_
                refine V.aload_n C 0 rfl rfl dX10_readStatement_130 ?_
                refine V.cVi C lX10_85 oX10_isFine dX10_readStatement_131 (ct_M_fine G σ1) (by assumption) rfl rfl (Nat.le_of_ble_eq_true rfl) ⟨Nat.le_of_ble_eq_true rfl, Nat.le_of_ble_eq_true rfl⟩ ⟨Nat.le_of_ble_eq_true rfl, Nat.le_of_ble_eq_true rfl⟩ (fun rr_131 σ131 pp_131 => ?_)
                obtain ⟨ee_131, ff_131⟩ := pp_131
                rw [ee_131, ff_131]
                refine V.if_eq C 167 dX10_readStatement_134 rfl (fun hb_134 => ?_) (fun hb_134 => ?_)
                · exact V.vretS C R dX10_readStatement_167 ⟨Or.inr ⟨e, he, hE⟩, hF1⟩
                · exact absurd (bI_ne0 hb_134) (by rw [decide_eq_false hE.ne]; decide)
              · refine V.iconst C (nI 1) c_1 dX10_readStatement_121 ?_
                refine V.goto C 126 dX10_readStatement_122 rfl ?_
                refine V.cVi C lX10_92 oX10_take dX10_readStatement_126 (ct_M_takeE G σ1 _ hE.ne) (by assumption) rfl rfl (Nat.le_of_ble_eq_true rfl) ⟨Nat.le_of_ble_eq_true rfl, Nat.le_of_ble_eq_true rfl⟩ ⟨Nat.le_of_ble_eq_true rfl, Nat.le_of_ble_eq_true rfl⟩ (fun rr_126 σ126 pp_126 => ?_)
                rw [pp_126]
                refine V.pop C rfl dX10_readStatement_129 ?_
                refine V.aload_n C 0 rfl rfl dX10_readStatement_130 ?_
                refine V.cVi C lX10_85 oX10_isFine dX10_readStatement_131 (ct_M_fine G σ1) (by assumption) rfl rfl (Nat.le_of_ble_eq_true rfl) ⟨Nat.le_of_ble_eq_true rfl, Nat.le_of_ble_eq_true rfl⟩ ⟨Nat.le_of_ble_eq_true rfl, Nat.le_of_ble_eq_true rfl⟩ (fun rr_131 σ131 pp_131 => ?_)
                obtain ⟨ee_131, ff_131⟩ := pp_131
                rw [ee_131, ff_131]
                refine V.if_eq C 167 dX10_readStatement_134 rfl (fun hb_134 => ?_) (fun hb_134 => ?_)
                · exact V.vretS C R dX10_readStatement_167 ⟨Or.inr ⟨e, he, hE⟩, hF1⟩
                · exact absurd (bI_ne0 hb_134) (by rw [decide_eq_false hE.ne]; decide)
          · exact absurd (bI_ne0 hb_95) (by rw [decide_eq_false hE.ne]; decide)
        · exact absurd (bI_ne0 hb_73) (by rw [decide_eq_false hE.ne]; decide)
      · refine V.iconst C (nI 1) c_1 dX10_readStatement_60 ?_
        refine V.goto C 65 dX10_readStatement_61 rfl ?_
        refine V.cVi C lX10_92 oX10_take dX10_readStatement_65 (ct_M_takeE G σ1 _ hE.ne) (by assumption) rfl rfl (Nat.le_of_ble_eq_true rfl) ⟨Nat.le_of_ble_eq_true rfl, Nat.le_of_ble_eq_true rfl⟩ ⟨Nat.le_of_ble_eq_true rfl, Nat.le_of_ble_eq_true rfl⟩ (fun rr_65 σ65 pp_65 => ?_)
        rw [pp_65]
        refine V.pop C rfl dX10_readStatement_68 ?_
        refine V.aload_n C 0 rfl rfl dX10_readStatement_69 ?_
        refine V.cVi C lX10_85 oX10_isFine dX10_readStatement_70 (ct_M_fine G σ1) (by assumption) rfl rfl (Nat.le_of_ble_eq_true rfl) ⟨Nat.le_of_ble_eq_true rfl, Nat.le_of_ble_eq_true rfl⟩ ⟨Nat.le_of_ble_eq_true rfl, Nat.le_of_ble_eq_true rfl⟩ (fun rr_70 σ70 pp_70 => ?_)
        obtain ⟨ee_70, ff_70⟩ := pp_70
        rw [ee_70, ff_70]
        refine V.if_eq C 91 dX10_readStatement_73 rfl (fun hb_73 => ?_) (fun hb_73 => ?_)
        · refine V.aload_n C 0 rfl rfl dX10_readStatement_91 ?_
          refine V.cVi C lX10_85 oX10_isFine dX10_readStatement_92 (ct_M_fine G σ1) (by assumption) rfl rfl (Nat.le_of_ble_eq_true rfl) ⟨Nat.le_of_ble_eq_true rfl, Nat.le_of_ble_eq_true rfl⟩ ⟨Nat.le_of_ble_eq_true rfl, Nat.le_of_ble_eq_true rfl⟩ (fun rr_92 σ92 pp_92 => ?_)
          obtain ⟨ee_92, ff_92⟩ := pp_92
          rw [ee_92, ff_92]
          refine V.if_eq C 102 dX10_readStatement_95 rfl (fun hb_95 => ?_) (fun hb_95 => ?_)
          · refine V.aload_n C 0 rfl rfl dX10_readStatement_102 ?_
            refine V.aload_n C 0 rfl rfl dX10_readStatement_103 ?_
            refine V.bipush C (nI 59) b_59 dX10_readStatement_104 ?_
            refine V.cVi C lX10_105 oX10_isSign dX10_readStatement_106 (ct_M_sign G σ1 _) (by assumption) rfl rfl (Nat.le_of_ble_eq_true rfl) ⟨Nat.le_of_ble_eq_true rfl, Nat.le_of_ble_eq_true rfl⟩ ⟨Nat.le_of_ble_eq_true rfl, Nat.le_of_ble_eq_true rfl⟩ (fun rr_106 σ106 pp_106 => ?_)
            obtain ⟨ee_106, ff_106⟩ := pp_106
            rw [ee_106, ff_106]
            refine V.if_eq C 125 dX10_readStatement_109 rfl (fun hb_109 => ?_) (fun hb_109 => ?_)
            · refine V.iconst C (nI 0) c_0 dX10_readStatement_125 ?_
              refine V.cVi C lX10_92 oX10_take dX10_readStatement_126 (ct_M_takeE G σ1 _ hE.ne) (by assumption) rfl rfl (Nat.le_of_ble_eq_true rfl) ⟨Nat.le_of_ble_eq_true rfl, Nat.le_of_ble_eq_true rfl⟩ ⟨Nat.le_of_ble_eq_true rfl, Nat.le_of_ble_eq_true rfl⟩ (fun rr_126 σ126 pp_126 => ?_)
              rw [pp_126]
              refine V.pop C rfl dX10_readStatement_129 ?_
              refine V.aload_n C 0 rfl rfl dX10_readStatement_130 ?_
              refine V.cVi C lX10_85 oX10_isFine dX10_readStatement_131 (ct_M_fine G σ1) (by assumption) rfl rfl (Nat.le_of_ble_eq_true rfl) ⟨Nat.le_of_ble_eq_true rfl, Nat.le_of_ble_eq_true rfl⟩ ⟨Nat.le_of_ble_eq_true rfl, Nat.le_of_ble_eq_true rfl⟩ (fun rr_131 σ131 pp_131 => ?_)
              obtain ⟨ee_131, ff_131⟩ := pp_131
              rw [ee_131, ff_131]
              refine V.if_eq C 167 dX10_readStatement_134 rfl (fun hb_134 => ?_) (fun hb_134 => ?_)
              · exact V.vretS C R dX10_readStatement_167 ⟨Or.inr ⟨e, he, hE⟩, hF1⟩
              · exact absurd (bI_ne0 hb_134) (by rw [decide_eq_false hE.ne]; decide)
            · refine V.aload_n C 0 rfl rfl dX10_readStatement_112 ?_
              refine V.getI C fX10_96 dX10_readStatement_113 (by assumption) rfl ?_
              refine V.iload C rfl dX10_readStatement_116 ?_
              refine V.icmp_ne C 125 dX10_readStatement_118 rfl (fun hb_118 => ?_) (fun hb_118 => ?_)
              · refine V.iconst C (nI 0) c_0 dX10_readStatement_125 ?_
                refine V.cVi C lX10_92 oX10_take dX10_readStatement_126 (ct_M_takeE G σ1 _ hE.ne) (by assumption) rfl rfl (Nat.le_of_ble_eq_true rfl) ⟨Nat.le_of_ble_eq_true rfl, Nat.le_of_ble_eq_true rfl⟩ ⟨Nat.le_of_ble_eq_true rfl, Nat.le_of_ble_eq_true rfl⟩ (fun rr_126 σ126 pp_126 => ?_)
                rw [pp_126]
                refine V.pop C rfl dX10_readStatement_129 ?_
                refine V.aload_n C 0 rfl rfl dX10_readStatement_130 ?_
                refine V.cVi C lX10_85 oX10_isFine dX10_readStatement_131 (ct_M_fine G σ1) (by assumption) rfl rfl (Nat.le_of_ble_eq_true rfl) ⟨Nat.le_of_ble_eq_true rfl, Nat.le_of_ble_eq_true rfl⟩ ⟨Nat.le_of_ble_eq_true rfl, Nat.le_of_ble_eq_true rfl⟩ (fun rr_131 σ131 pp_131 => ?_)
                obtain ⟨ee_131, ff_131⟩ := pp_131
                rw [ee_131, ff_131]
                refine V.if_eq C 167 dX10_readStatement_134 rfl (fun hb_134 => ?_) (fun hb_134 => ?_)
                · exact V.vretS C R dX10_readStatement_167 ⟨Or.inr ⟨e, he, hE⟩, hF1⟩
                · exact absurd (bI_ne0 hb_134) (by rw [decide_eq_false hE.ne]; decide)
              · refine V.iconst C (nI 1) c_1 dX10_readStatement_121 ?_
                refine V.goto C 126 dX10_readStatement_122 rfl ?_
                refine V.cVi C lX10_92 oX10_take dX10_readStatement_126 (ct_M_takeE G σ1 _ hE.ne) (by assumption) rfl rfl (Nat.le_of_ble_eq_true rfl) ⟨Nat.le_of_ble_eq_true rfl, Nat.le_of_ble_eq_true rfl⟩ ⟨Nat.le_of_ble_eq_true rfl, Nat.le_of_ble_eq_true rfl⟩ (fun rr_126 σ126 pp_126 => ?_)
                rw [pp_126]
                refine V.pop C rfl dX10_readStatement_129 ?_
                refine V.aload_n C 0 rfl rfl dX10_readStatement_130 ?_
                refine V.cVi C lX10_85 oX10_isFine dX10_readStatement_131 (ct_M_fine G σ1) (by assumption) rfl rfl (Nat.le_of_ble_eq_true rfl) ⟨Nat.le_of_ble_eq_true rfl, Nat.le_of_ble_eq_true rfl⟩ ⟨Nat.le_of_ble_eq_true rfl, Nat.le_of_ble_eq_true rfl⟩ (fun rr_131 σ131 pp_131 => ?_)
                obtain ⟨ee_131, ff_131⟩ := pp_131
                rw [ee_131, ff_131]
                refine V.if_eq C 167 dX10_readStatement_134 rfl (fun hb_134 => ?_) (fun hb_134 => ?_)
                · exact V.vretS C R dX10_readStatement_167 ⟨Or.inr ⟨e, he, hE⟩, hF1⟩
                · exact absurd (bI_ne0 hb_134) (by rw [decide_eq_false hE.ne]; decide)
          · exact absurd (bI_ne0 hb_95) (by rw [decide_eq_false hE.ne]; decide)
        · exact absurd (bI_ne0 hb_73) (by rw [decide_eq_false hE.ne]; decide)
  have e69 : ∀ (e : Nat) (σ1 : SS) (x4 : Int32), pStm ch n P.1 a = .error e → Er σ1 e → FM [9, 10, 11, 12, 13, 15, 16] [125, 130] σ σ1 → V G X 5 0 0 69 [(0, Rf G 123), (1, .int (bI neg)), (2, .int (nI idx)), (3, .int (nI at_)), (4, .int x4)] [] (wld G σ1) := by
    intro e σ1 x4 he hE hF1
    refine V.aload_n C 0 rfl rfl dX10_readStatement_69 ?_
    refine V.cVi C lX10_85 oX10_isFine dX10_readStatement_70 (ct_M_fine G σ1) (by assumption) rfl rfl (Nat.le_of_ble_eq_true rfl) ⟨Nat.le_of_ble_eq_true rfl, Nat.le_of_ble_eq_true rfl⟩ ⟨Nat.le_of_ble_eq_true rfl, Nat.le_of_ble_eq_true rfl⟩ (fun rr_70 σ70 pp_70 => ?_)
    obtain ⟨ee_70, ff_70⟩ := pp_70
    rw [ee_70, ff_70]
    refine V.if_eq C 91 dX10_readStatement_73 rfl (fun hb_73 => ?_) (fun hb_73 => ?_)
    · refine V.aload_n C 0 rfl rfl dX10_readStatement_91 ?_
      refine V.cVi C lX10_85 oX10_isFine dX10_readStatement_92 (ct_M_fine G σ1) (by assumption) rfl rfl (Nat.le_of_ble_eq_true rfl) ⟨Nat.le_of_ble_eq_true rfl, Nat.le_of_ble_eq_true rfl⟩ ⟨Nat.le_of_ble_eq_true rfl, Nat.le_of_ble_eq_true rfl⟩ (fun rr_92 σ92 pp_92 => ?_)
      obtain ⟨ee_92, ff_92⟩ := pp_92
      rw [ee_92, ff_92]
      refine V.if_eq C 102 dX10_readStatement_95 rfl (fun hb_95 => ?_) (fun hb_95 => ?_)
      · refine V.aload_n C 0 rfl rfl dX10_readStatement_102 ?_
        refine V.aload_n C 0 rfl rfl dX10_readStatement_103 ?_
        refine V.bipush C (nI 59) b_59 dX10_readStatement_104 ?_
        refine V.cVi C lX10_105 oX10_isSign dX10_readStatement_106 (ct_M_sign G σ1 _) (by assumption) rfl rfl (Nat.le_of_ble_eq_true rfl) ⟨Nat.le_of_ble_eq_true rfl, Nat.le_of_ble_eq_true rfl⟩ ⟨Nat.le_of_ble_eq_true rfl, Nat.le_of_ble_eq_true rfl⟩ (fun rr_106 σ106 pp_106 => ?_)
        obtain ⟨ee_106, ff_106⟩ := pp_106
        rw [ee_106, ff_106]
        refine V.if_eq C 125 dX10_readStatement_109 rfl (fun hb_109 => ?_) (fun hb_109 => ?_)
        · refine V.iconst C (nI 0) c_0 dX10_readStatement_125 ?_
          refine V.cVi C lX10_92 oX10_take dX10_readStatement_126 (ct_M_takeE G σ1 _ hE.ne) (by assumption) rfl rfl (Nat.le_of_ble_eq_true rfl) ⟨Nat.le_of_ble_eq_true rfl, Nat.le_of_ble_eq_true rfl⟩ ⟨Nat.le_of_ble_eq_true rfl, Nat.le_of_ble_eq_true rfl⟩ (fun rr_126 σ126 pp_126 => ?_)
          rw [pp_126]
          refine V.pop C rfl dX10_readStatement_129 ?_
          refine V.aload_n C 0 rfl rfl dX10_readStatement_130 ?_
          refine V.cVi C lX10_85 oX10_isFine dX10_readStatement_131 (ct_M_fine G σ1) (by assumption) rfl rfl (Nat.le_of_ble_eq_true rfl) ⟨Nat.le_of_ble_eq_true rfl, Nat.le_of_ble_eq_true rfl⟩ ⟨Nat.le_of_ble_eq_true rfl, Nat.le_of_ble_eq_true rfl⟩ (fun rr_131 σ131 pp_131 => ?_)
          obtain ⟨ee_131, ff_131⟩ := pp_131
          rw [ee_131, ff_131]
          refine V.if_eq C 167 dX10_readStatement_134 rfl (fun hb_134 => ?_) (fun hb_134 => ?_)
          · exact V.vretS C R dX10_readStatement_167 ⟨Or.inr ⟨e, he, hE⟩, hF1⟩
          · exact absurd (bI_ne0 hb_134) (by rw [decide_eq_false hE.ne]; decide)
        · refine V.aload_n C 0 rfl rfl dX10_readStatement_112 ?_
          refine V.getI C fX10_96 dX10_readStatement_113 (by assumption) rfl ?_
          refine V.iload C rfl dX10_readStatement_116 ?_
          refine V.icmp_ne C 125 dX10_readStatement_118 rfl (fun hb_118 => ?_) (fun hb_118 => ?_)
          · refine V.iconst C (nI 0) c_0 dX10_readStatement_125 ?_
            refine V.cVi C lX10_92 oX10_take dX10_readStatement_126 (ct_M_takeE G σ1 _ hE.ne) (by assumption) rfl rfl (Nat.le_of_ble_eq_true rfl) ⟨Nat.le_of_ble_eq_true rfl, Nat.le_of_ble_eq_true rfl⟩ ⟨Nat.le_of_ble_eq_true rfl, Nat.le_of_ble_eq_true rfl⟩ (fun rr_126 σ126 pp_126 => ?_)
            rw [pp_126]
            refine V.pop C rfl dX10_readStatement_129 ?_
            refine V.aload_n C 0 rfl rfl dX10_readStatement_130 ?_
            refine V.cVi C lX10_85 oX10_isFine dX10_readStatement_131 (ct_M_fine G σ1) (by assumption) rfl rfl (Nat.le_of_ble_eq_true rfl) ⟨Nat.le_of_ble_eq_true rfl, Nat.le_of_ble_eq_true rfl⟩ ⟨Nat.le_of_ble_eq_true rfl, Nat.le_of_ble_eq_true rfl⟩ (fun rr_131 σ131 pp_131 => ?_)
            obtain ⟨ee_131, ff_131⟩ := pp_131
            rw [ee_131, ff_131]
            refine V.if_eq C 167 dX10_readStatement_134 rfl (fun hb_134 => ?_) (fun hb_134 => ?_)
            · exact V.vretS C R dX10_readStatement_167 ⟨Or.inr ⟨e, he, hE⟩, hF1⟩
            · exact absurd (bI_ne0 hb_134) (by rw [decide_eq_false hE.ne]; decide)
          · refine V.iconst C (nI 1) c_1 dX10_readStatement_121 ?_
            refine V.goto C 126 dX10_readStatement_122 rfl ?_
            refine V.cVi C lX10_92 oX10_take dX10_readStatement_126 (ct_M_takeE G σ1 _ hE.ne) (by assumption) rfl rfl (Nat.le_of_ble_eq_true rfl) ⟨Nat.le_of_ble_eq_true rfl, Nat.le_of_ble_eq_true rfl⟩ ⟨Nat.le_of_ble_eq_true rfl, Nat.le_of_ble_eq_true rfl⟩ (fun rr_126 σ126 pp_126 => ?_)
            rw [pp_126]
            refine V.pop C rfl dX10_readStatement_129 ?_
            refine V.aload_n C 0 rfl rfl dX10_readStatement_130 ?_
            refine V.cVi C lX10_85 oX10_isFine dX10_readStatement_131 (ct_M_fine G σ1) (by assumption) rfl rfl (Nat.le_of_ble_eq_true rfl) ⟨Nat.le_of_ble_eq_true rfl, Nat.le_of_ble_eq_true rfl⟩ ⟨Nat.le_of_ble_eq_true rfl, Nat.le_of_ble_eq_true rfl⟩ (fun rr_131 σ131 pp_131 => ?_)
            obtain ⟨ee_131, ff_131⟩ := pp_131
            rw [ee_131, ff_131]
            refine V.if_eq C 167 dX10_readStatement_134 rfl (fun hb_134 => ?_) (fun hb_134 => ?_)
            · exact V.vretS C R dX10_readStatement_167 ⟨Or.inr ⟨e, he, hE⟩, hF1⟩
            · exact absurd (bI_ne0 hb_134) (by rw [decide_eq_false hE.ne]; decide)
      · exact absurd (bI_ne0 hb_95) (by rw [decide_eq_false hE.ne]; decide)
    · exact absurd (bI_ne0 hb_73) (by rw [decide_eq_false hE.ne]; decide)
  have e102 : ∀ (e : Nat) (σ1 : SS) (x4 : Int32), pStm ch n P.1 a = .error e → Er σ1 e → FM [9, 10, 11, 12, 13, 15, 16] [125, 130] σ σ1 → V G X 5 0 0 102 [(0, Rf G 123), (1, .int (bI neg)), (2, .int (nI idx)), (3, .int (nI at_)), (4, .int x4)] [] (wld G σ1) := by
    intro e σ1 x4 he hE hF1
    refine V.aload_n C 0 rfl rfl dX10_readStatement_102 ?_
    refine V.aload_n C 0 rfl rfl dX10_readStatement_103 ?_
    refine V.bipush C (nI 59) b_59 dX10_readStatement_104 ?_
    refine V.cVi C lX10_105 oX10_isSign dX10_readStatement_106 (ct_M_sign G σ1 _) (by assumption) rfl rfl (Nat.le_of_ble_eq_true rfl) ⟨Nat.le_of_ble_eq_true rfl, Nat.le_of_ble_eq_true rfl⟩ ⟨Nat.le_of_ble_eq_true rfl, Nat.le_of_ble_eq_true rfl⟩ (fun rr_106 σ106 pp_106 => ?_)
    obtain ⟨ee_106, ff_106⟩ := pp_106
    rw [ee_106, ff_106]
    refine V.if_eq C 125 dX10_readStatement_109 rfl (fun hb_109 => ?_) (fun hb_109 => ?_)
    · refine V.iconst C (nI 0) c_0 dX10_readStatement_125 ?_
      refine V.cVi C lX10_92 oX10_take dX10_readStatement_126 (ct_M_takeE G σ1 _ hE.ne) (by assumption) rfl rfl (Nat.le_of_ble_eq_true rfl) ⟨Nat.le_of_ble_eq_true rfl, Nat.le_of_ble_eq_true rfl⟩ ⟨Nat.le_of_ble_eq_true rfl, Nat.le_of_ble_eq_true rfl⟩ (fun rr_126 σ126 pp_126 => ?_)
      rw [pp_126]
      refine V.pop C rfl dX10_readStatement_129 ?_
      refine V.aload_n C 0 rfl rfl dX10_readStatement_130 ?_
      refine V.cVi C lX10_85 oX10_isFine dX10_readStatement_131 (ct_M_fine G σ1) (by assumption) rfl rfl (Nat.le_of_ble_eq_true rfl) ⟨Nat.le_of_ble_eq_true rfl, Nat.le_of_ble_eq_true rfl⟩ ⟨Nat.le_of_ble_eq_true rfl, Nat.le_of_ble_eq_true rfl⟩ (fun rr_131 σ131 pp_131 => ?_)
      obtain ⟨ee_131, ff_131⟩ := pp_131
      rw [ee_131, ff_131]
      refine V.if_eq C 167 dX10_readStatement_134 rfl (fun hb_134 => ?_) (fun hb_134 => ?_)
      · exact V.vretS C R dX10_readStatement_167 ⟨Or.inr ⟨e, he, hE⟩, hF1⟩
      · exact absurd (bI_ne0 hb_134) (by rw [decide_eq_false hE.ne]; decide)
    · refine V.aload_n C 0 rfl rfl dX10_readStatement_112 ?_
      refine V.getI C fX10_96 dX10_readStatement_113 (by assumption) rfl ?_
      refine V.iload C rfl dX10_readStatement_116 ?_
      refine V.icmp_ne C 125 dX10_readStatement_118 rfl (fun hb_118 => ?_) (fun hb_118 => ?_)
      · refine V.iconst C (nI 0) c_0 dX10_readStatement_125 ?_
        refine V.cVi C lX10_92 oX10_take dX10_readStatement_126 (ct_M_takeE G σ1 _ hE.ne) (by assumption) rfl rfl (Nat.le_of_ble_eq_true rfl) ⟨Nat.le_of_ble_eq_true rfl, Nat.le_of_ble_eq_true rfl⟩ ⟨Nat.le_of_ble_eq_true rfl, Nat.le_of_ble_eq_true rfl⟩ (fun rr_126 σ126 pp_126 => ?_)
        rw [pp_126]
        refine V.pop C rfl dX10_readStatement_129 ?_
        refine V.aload_n C 0 rfl rfl dX10_readStatement_130 ?_
        refine V.cVi C lX10_85 oX10_isFine dX10_readStatement_131 (ct_M_fine G σ1) (by assumption) rfl rfl (Nat.le_of_ble_eq_true rfl) ⟨Nat.le_of_ble_eq_true rfl, Nat.le_of_ble_eq_true rfl⟩ ⟨Nat.le_of_ble_eq_true rfl, Nat.le_of_ble_eq_true rfl⟩ (fun rr_131 σ131 pp_131 => ?_)
        obtain ⟨ee_131, ff_131⟩ := pp_131
        rw [ee_131, ff_131]
        refine V.if_eq C 167 dX10_readStatement_134 rfl (fun hb_134 => ?_) (fun hb_134 => ?_)
        · exact V.vretS C R dX10_readStatement_167 ⟨Or.inr ⟨e, he, hE⟩, hF1⟩
        · exact absurd (bI_ne0 hb_134) (by rw [decide_eq_false hE.ne]; decide)
      · refine V.iconst C (nI 1) c_1 dX10_readStatement_121 ?_
        refine V.goto C 126 dX10_readStatement_122 rfl ?_
        refine V.cVi C lX10_92 oX10_take dX10_readStatement_126 (ct_M_takeE G σ1 _ hE.ne) (by assumption) rfl rfl (Nat.le_of_ble_eq_true rfl) ⟨Nat.le_of_ble_eq_true rfl, Nat.le_of_ble_eq_true rfl⟩ ⟨Nat.le_of_ble_eq_true rfl, Nat.le_of_ble_eq_true rfl⟩ (fun rr_126 σ126 pp_126 => ?_)
        rw [pp_126]
        refine V.pop C rfl dX10_readStatement_129 ?_
        refine V.aload_n C 0 rfl rfl dX10_readStatement_130 ?_
        refine V.cVi C lX10_85 oX10_isFine dX10_readStatement_131 (ct_M_fine G σ1) (by assumption) rfl rfl (Nat.le_of_ble_eq_true rfl) ⟨Nat.le_of_ble_eq_true rfl, Nat.le_of_ble_eq_true rfl⟩ ⟨Nat.le_of_ble_eq_true rfl, Nat.le_of_ble_eq_true rfl⟩ (fun rr_131 σ131 pp_131 => ?_)
        obtain ⟨ee_131, ff_131⟩ := pp_131
        rw [ee_131, ff_131]
        refine V.if_eq C 167 dX10_readStatement_134 rfl (fun hb_134 => ?_) (fun hb_134 => ?_)
        · exact V.vretS C R dX10_readStatement_167 ⟨Or.inr ⟨e, he, hE⟩, hF1⟩
        · exact absurd (bI_ne0 hb_134) (by rw [decide_eq_false hE.ne]; decide)
  have e130 : ∀ (e : Nat) (σ1 : SS) (x4 : Int32), pStm ch n P.1 a = .error e → Er σ1 e → FM [9, 10, 11, 12, 13, 15, 16] [125, 130] σ σ1 → V G X 5 0 0 130 [(0, Rf G 123), (1, .int (bI neg)), (2, .int (nI idx)), (3, .int (nI at_)), (4, .int x4)] [] (wld G σ1) := by
    intro e σ1 x4 he hE hF1
    refine V.aload_n C 0 rfl rfl dX10_readStatement_130 ?_
    refine V.cVi C lX10_85 oX10_isFine dX10_readStatement_131 (ct_M_fine G σ1) (by assumption) rfl rfl (Nat.le_of_ble_eq_true rfl) ⟨Nat.le_of_ble_eq_true rfl, Nat.le_of_ble_eq_true rfl⟩ ⟨Nat.le_of_ble_eq_true rfl, Nat.le_of_ble_eq_true rfl⟩ (fun rr_131 σ131 pp_131 => ?_)
    obtain ⟨ee_131, ff_131⟩ := pp_131
    rw [ee_131, ff_131]
    refine V.if_eq C 167 dX10_readStatement_134 rfl (fun hb_134 => ?_) (fun hb_134 => ?_)
    · exact V.vretS C R dX10_readStatement_167 ⟨Or.inr ⟨e, he, hE⟩, hF1⟩
    · exact absurd (bI_ne0 hb_134) (by rw [decide_eq_false hE.ne]; decide)
  have t33 : V G X 5 0 0 33 [(0, Rf G 123), (1, .int (bI neg)), (2, .int (nI idx)), (3, .int (nI at_))] [] (wld G σ) := by
    refine V.aload_n C 0 rfl rfl dX10_readStatement_33 ?_
    refine V.cVv C lX10_125 oX10_readTerm dX10_readStatement_34 (ct_M_term G σ n ch a P.1 hO (fun v hv => ⟨hP.1 v hv, hwf.1 v hv⟩)) (by assumption) rfl rfl (Nat.le_of_ble_eq_true rfl) ⟨Nat.le_of_ble_eq_true rfl, Nat.le_of_ble_eq_true rfl⟩ ⟨Nat.le_of_ble_eq_true rfl, Nat.le_of_ble_eq_true rfl⟩ (fun σ34 pp_34 => ?_)
    refine Or.elim (pp_34.1.symm) (fun hB_ => ?_) (fun hB_ => ?_)
    · obtain ⟨e_, pe_, er_⟩ := hB_
      exact e37 e_ σ34 (ps_e1 pe_) er_ (pp_34.2.mono (by decide) (by decide))
    obtain ⟨bs_, b_, pe_, ok_, hR34⟩ := hB_
    have lb_ := hR34.2.1
    refine V.aload_n C 0 rfl rfl dX10_readStatement_37 ?_
    refine V.getI C fX10_96 dX10_readStatement_38 (by assumption) rfl ?_
    rw [hR34.1]
    refine V.istore C dX10_readStatement_41 (by decide) ?_
    refine V.aload_n C 0 rfl rfl dX10_readStatement_43 ?_
    refine V.aload_n C 0 rfl rfl dX10_readStatement_44 ?_
    refine V.bipush C (nI 61) b_61 dX10_readStatement_45 ?_
    refine V.cVi C lX10_105 oX10_isSign dX10_readStatement_47 (ct_M_sign G σ34 (nI 61)) (by assumption) rfl rfl (Nat.le_of_ble_eq_true rfl) ⟨Nat.le_of_ble_eq_true rfl, Nat.le_of_ble_eq_true rfl⟩ ⟨Nat.le_of_ble_eq_true rfl, Nat.le_of_ble_eq_true rfl⟩ (fun rr_47 σ47 pp_47 => ?_)
    obtain ⟨ee_47, ff_47⟩ := pp_47
    rw [ee_47, ff_47, ok_.sg (by decide)]
    refine V.if_eq C 64 dX10_readStatement_50 rfl (fun hb_50 => ?_) (fun hb_50 => ?_)
    · have z50_ : ¬ kKT ch n b_ = 61 := of_decide_eq_false (bI_eq0 hb_50)
      have no_ : ¬ (bs_.length ≤ 16 ∧ kKT ch n b_ = 61) := fun q => z50_ q.2
      refine V.iconst C (nI 0) c_0 dX10_readStatement_64 ?_
      show V G X 5 0 0 65 _ [.int (bI false), Rf G 123] (wld G σ34)
      refine V.cVi C lX10_92 oX10_take dX10_readStatement_65 (ct_M_take G σ34 n ch b_ false ok_ (fun q => absurd q (by decide))) (by assumption) rfl rfl (Nat.le_of_ble_eq_true rfl) ⟨Nat.le_of_ble_eq_true rfl, Nat.le_of_ble_eq_true rfl⟩ ⟨Nat.le_of_ble_eq_true rfl, Nat.le_of_ble_eq_true rfl⟩ (fun rr_65 σ65 pp_65 => ?_)
      refine V.pop C rfl dX10_readStatement_68 ?_
      refine V.lvs (lv' := [(0, Rf G 123), (1, .int (bI neg)), (2, .int (nI idx)), (3, .int (nI at_)), (4, .int (nI bs_.length))]) rfl ?_
      exact e69 b_ σ65 _ (ps_e2 pe_ no_) (pp_65.2.2.1 rfl) ((pp_34.2.mono (by decide) (by decide)).trans (pp_65.2.2.2.mono (by decide) (by decide)))
    · have z50_ : kKT ch n b_ = 61 := of_decide_eq_true (bI_ne0 hb_50)
      refine V.iload C rfl dX10_readStatement_53 ?_
      refine V.bipush C (nI 16) b_16 dX10_readStatement_55 ?_
      refine V.icmp_gt C 64 dX10_readStatement_57 rfl (fun hb_57 => ?_) (fun hb_57 => ?_)
      · have no_ : ¬ (bs_.length ≤ 16 ∧ kKT ch n b_ = 61) := fun q => absurd ((nI_ltI (by decide) (by omega)).mp hb_57) (by omega)
        refine V.iconst C (nI 0) c_0 dX10_readStatement_64 ?_
        show V G X 5 0 0 65 _ [.int (bI false), Rf G 123] (wld G σ34)
        refine V.cVi C lX10_92 oX10_take dX10_readStatement_65 (ct_M_take G σ34 n ch b_ false ok_ (fun q => absurd q (by decide))) (by assumption) rfl rfl (Nat.le_of_ble_eq_true rfl) ⟨Nat.le_of_ble_eq_true rfl, Nat.le_of_ble_eq_true rfl⟩ ⟨Nat.le_of_ble_eq_true rfl, Nat.le_of_ble_eq_true rfl⟩ (fun rr_65 σ65 pp_65 => ?_)
        refine V.pop C rfl dX10_readStatement_68 ?_
        refine V.lvs (lv' := [(0, Rf G 123), (1, .int (bI neg)), (2, .int (nI idx)), (3, .int (nI at_)), (4, .int (nI bs_.length))]) rfl ?_
        exact e69 b_ σ65 _ (ps_e2 pe_ no_) (pp_65.2.2.1 rfl) ((pp_34.2.mono (by decide) (by decide)).trans (pp_65.2.2.2.mono (by decide) (by decide)))
      · have z57_ : bs_.length ≤ 16 := Nat.le_of_not_lt (fun q => hb_57 (nI_lt q (by omega)))
        refine V.iconst C (nI 1) c_1 dX10_readStatement_60 ?_
        refine V.goto C 65 dX10_readStatement_61 rfl ?_
        show V G X 5 0 0 65 _ [.int (bI true), Rf G 123] (wld G σ34)
        refine V.cVi C lX10_92 oX10_take dX10_readStatement_65 (ct_M_take G σ34 n ch b_ true ok_ (fun _ => kKT_lt (ch := ch) (by rw [z50_]; decide))) (by assumption) rfl rfl (Nat.le_of_ble_eq_true rfl) ⟨Nat.le_of_ble_eq_true rfl, Nat.le_of_ble_eq_true rfl⟩ ⟨Nat.le_of_ble_eq_true rfl, Nat.le_of_ble_eq_true rfl⟩ (fun rr_65 σ65 pp_65 => ?_)
        have o65_ := pp_65.2.1 rfl
        have f_65 := pp_65.2.2.2
        have F65_ : FM [9, 10, 11, 12, 13, 15, 16] [130] σ σ65 := pp_34.2.trans (f_65.mono (by decide) (by decide))
        have hR65 := hR34.fm f_65 (by decide) (by decide)
        refine V.pop C rfl dX10_readStatement_68 ?_
        refine V.aload_n C 0 rfl rfl dX10_readStatement_69 ?_
        refine V.cVi C lX10_85 oX10_isFine dX10_readStatement_70 (ct_M_fine G σ65) (by assumption) rfl rfl (Nat.le_of_ble_eq_true rfl) ⟨Nat.le_of_ble_eq_true rfl, Nat.le_of_ble_eq_true rfl⟩ ⟨Nat.le_of_ble_eq_true rfl, Nat.le_of_ble_eq_true rfl⟩ (fun rr_70 σ70 pp_70 => ?_)
        obtain ⟨ee_70, ff_70⟩ := pp_70
        rw [ee_70, ff_70]
        refine V.if_eq C 91 dX10_readStatement_73 rfl (fun hb_73 => ?_) (fun hb_73 => ?_)
        · exact absurd (bI_eq0 hb_73) (by rw [decide_eq_true o65_.2.2]; decide)
        · refine V.aload_n C 0 rfl rfl dX10_readStatement_76 ?_
          refine V.getR C fX10_13 dX10_readStatement_77 (by assumption) rfl ?_
          refine V.iload_n C 3 rfl rfl dX10_readStatement_80 ?_
          refine V.iload C rfl dX10_readStatement_81 ?_
          refine V.iastN C dX10_readStatement_83 (by assumption) (by omega) ?_
          have F83_ : FM [] [125] σ65 (sA σ65 125 (va_up (σ65.2.1 125) at_ (nI bs_.length))) := (FM.refl _ _ _).sA _ (by decide)
          refine V.aload_n C 0 rfl rfl dX10_readStatement_84 ?_
          refine V.iload_n C 3 rfl rfl dX10_readStatement_85 ?_
          refine V.iconst C (nI 1) c_1 dX10_readStatement_86 ?_
          refine V.iadd C dX10_readStatement_87 ?_
          rw [nI_add]
          refine V.cVv C lX10_128 oX10_putTerm dX10_readStatement_88 (ct_M_putTerm G _ bs_ (at_ + 1) (hR65.fm F83_ (by decide) (by decide)) z57_ (by omega)) (by assumption) rfl rfl (Nat.le_of_ble_eq_true rfl) ⟨Nat.le_of_ble_eq_true rfl, Nat.le_of_ble_eq_true rfl⟩ ⟨Nat.le_of_ble_eq_true rfl, Nat.le_of_ble_eq_true rfl⟩ (fun σ88 pp_88 => ?_)
          obtain ⟨r88_, kk88_, f_88⟩ := pp_88
          have g88_ : ∀ j, (j < at_ ∨ at_ + 17 ≤ j) → σ88.2.1 125 j = σ.2.1 125 j := fun j hj => by
            rw [kk88_ j (by omega), sA_A, up_ne _ _ (by omega), F65_.a (by decide)]
          have w88_ : σ88.2.1 125 at_ = nI bs_.length := by rw [kk88_ at_ (by omega), sA_A, up_eq]
          have k88_ : ∀ j, (j < at_) → σ88.2.1 125 j = σ.2.1 125 j := fun j hj => g88_ j (Or.inl hj)
          have o88_ := (o65_.fm F83_ (by decide) (by decide)).fm f_88 (by decide) (by decide)
          have F88_ : FM [9, 10, 11, 12, 13, 15, 16] [125, 130] σ σ88 := (F65_.mono (by decide) (by decide)).trans ((F83_.trans f_88).mono (by decide) (by decide))
          refine V.aload_n C 0 rfl rfl dX10_readStatement_91 ?_
          refine V.cVi C lX10_85 oX10_isFine dX10_readStatement_92 (ct_M_fine G σ88) (by assumption) rfl rfl (Nat.le_of_ble_eq_true rfl) ⟨Nat.le_of_ble_eq_true rfl, Nat.le_of_ble_eq_true rfl⟩ ⟨Nat.le_of_ble_eq_true rfl, Nat.le_of_ble_eq_true rfl⟩ (fun rr_92 σ92 pp_92 => ?_)
          obtain ⟨ee_92, ff_92⟩ := pp_92
          rw [ee_92, ff_92]
          refine V.if_eq C 102 dX10_readStatement_95 rfl (fun hb_95 => ?_) (fun hb_95 => ?_)
          · exact absurd (bI_eq0 hb_95) (by rw [decide_eq_true o88_.2.2]; decide)
          · refine V.aload_n C 0 rfl rfl dX10_readStatement_98 ?_
            refine V.cVv C lX10_125 oX10_readTerm dX10_readStatement_99 (ct_M_term G σ88 n ch _ P.1 o88_ (fun v hv => ⟨by rw [k88_ v (by omega)]; exact hP.1 v hv, hwf.1 v hv⟩)) (by assumption) rfl rfl (Nat.le_of_ble_eq_true rfl) ⟨Nat.le_of_ble_eq_true rfl, Nat.le_of_ble_eq_true rfl⟩ ⟨Nat.le_of_ble_eq_true rfl, Nat.le_of_ble_eq_true rfl⟩ (fun σ99 pp_99 => ?_)
            have F99_ := F88_.trans (pp_99.2.mono (by decide) (by decide))
            refine Or.elim (pp_99.1.symm) (fun hB_ => ?_) (fun hB_ => ?_)
            · obtain ⟨e_, pc_, er_⟩ := hB_
              refine V.lvs (lv' := [(0, Rf G 123), (1, .int (bI neg)), (2, .int (nI idx)), (3, .int (nI at_)), (4, .int (nI bs_.length))]) rfl ?_
              exact e102 e_ σ99 _ (ps_e3 pe_ ⟨z57_, z50_⟩ pc_) er_ F99_
            obtain ⟨cs_, c_, pc_, ok2_, hR99⟩ := hB_
            have lc_ := hR99.2.1
            refine V.aload_n C 0 rfl rfl dX10_readStatement_102 ?_
            refine V.aload_n C 0 rfl rfl dX10_readStatement_103 ?_
            refine V.bipush C (nI 59) b_59 dX10_readStatement_104 ?_
            refine V.cVi C lX10_105 oX10_isSign dX10_readStatement_106 (ct_M_sign G σ99 (nI 59)) (by assumption) rfl rfl (Nat.le_of_ble_eq_true rfl) ⟨Nat.le_of_ble_eq_true rfl, Nat.le_of_ble_eq_true rfl⟩ ⟨Nat.le_of_ble_eq_true rfl, Nat.le_of_ble_eq_true rfl⟩ (fun rr_106 σ106 pp_106 => ?_)
            obtain ⟨ee_106, ff_106⟩ := pp_106
            rw [ee_106, ff_106, ok2_.sg (by decide)]
            refine V.if_eq C 125 dX10_readStatement_109 rfl (fun hb_109 => ?_) (fun hb_109 => ?_)
            · have z109_ : ¬ kKT ch n c_ = 59 := of_decide_eq_false (bI_eq0 hb_109)
              have no_ : ¬ (cs_.length = bs_.length ∧ kKT ch n c_ = 59) := fun q => z109_ q.2
              refine V.iconst C (nI 0) c_0 dX10_readStatement_125 ?_
              show V G X 5 0 0 126 _ [.int (bI false), Rf G 123] (wld G σ99)
              refine V.cVi C lX10_92 oX10_take dX10_readStatement_126 (ct_M_take G σ99 n ch c_ false ok2_ (fun q => absurd q (by decide))) (by assumption) rfl rfl (Nat.le_of_ble_eq_true rfl) ⟨Nat.le_of_ble_eq_true rfl, Nat.le_of_ble_eq_true rfl⟩ ⟨Nat.le_of_ble_eq_true rfl, Nat.le_of_ble_eq_true rfl⟩ (fun rr_126 σ126 pp_126 => ?_)
              refine V.pop C rfl dX10_readStatement_129 ?_
              refine V.lvs (lv' := [(0, Rf G 123), (1, .int (bI neg)), (2, .int (nI idx)), (3, .int (nI at_)), (4, .int (nI bs_.length))]) rfl ?_
              exact e130 c_ σ126 _ (ps_e4 pe_ ⟨z57_, z50_⟩ pc_ no_) (pp_126.2.2.1 rfl) (F99_.trans (pp_126.2.2.2.mono (by decide) (by decide)))
            · have z109_ : kKT ch n c_ = 59 := of_decide_eq_true (bI_ne0 hb_109)
              refine V.aload_n C 0 rfl rfl dX10_readStatement_112 ?_
              refine V.getI C fX10_96 dX10_readStatement_113 (by assumption) rfl ?_
              rw [hR99.1]
              refine V.iload C rfl dX10_readStatement_116 ?_
              refine V.icmp_ne C 125 dX10_readStatement_118 rfl (fun hb_118 => ?_) (fun hb_118 => ?_)
              · have no_ : ¬ (cs_.length = bs_.length ∧ kKT ch n c_ = 59) := fun q => hb_118 (by rw [q.1])
                refine V.iconst C (nI 0) c_0 dX10_readStatement_125 ?_
                show V G X 5 0 0 126 _ [.int (bI false), Rf G 123] (wld G σ99)
                refine V.cVi C lX10_92 oX10_take dX10_readStatement_126 (ct_M_take G σ99 n ch c_ false ok2_ (fun q => absurd q (by decide))) (by assumption) rfl rfl (Nat.le_of_ble_eq_true rfl) ⟨Nat.le_of_ble_eq_true rfl, Nat.le_of_ble_eq_true rfl⟩ ⟨Nat.le_of_ble_eq_true rfl, Nat.le_of_ble_eq_true rfl⟩ (fun rr_126 σ126 pp_126 => ?_)
                refine V.pop C rfl dX10_readStatement_129 ?_
                refine V.lvs (lv' := [(0, Rf G 123), (1, .int (bI neg)), (2, .int (nI idx)), (3, .int (nI at_)), (4, .int (nI bs_.length))]) rfl ?_
                exact e130 c_ σ126 _ (ps_e4 pe_ ⟨z57_, z50_⟩ pc_ no_) (pp_126.2.2.1 rfl) (F99_.trans (pp_126.2.2.2.mono (by decide) (by decide)))
              · have z118_ : cs_.length = bs_.length := nI_pe (by omega) (by omega) hb_118
                refine V.iconst C (nI 1) c_1 dX10_readStatement_121 ?_
                refine V.goto C 126 dX10_readStatement_122 rfl ?_
                show V G X 5 0 0 126 _ [.int (bI true), Rf G 123] (wld G σ99)
                refine V.cVi C lX10_92 oX10_take dX10_readStatement_126 (ct_M_take G σ99 n ch c_ true ok2_ (fun _ => kKT_lt (ch := ch) (by rw [z109_]; decide))) (by assumption) rfl rfl (Nat.le_of_ble_eq_true rfl) ⟨Nat.le_of_ble_eq_true rfl, Nat.le_of_ble_eq_true rfl⟩ ⟨Nat.le_of_ble_eq_true rfl, Nat.le_of_ble_eq_true rfl⟩ (fun rr_126 σ126 pp_126 => ?_)
                have o126_ := pp_126.2.1 rfl
                have f_126 := pp_126.2.2.2
                have F126_ := F99_.trans (f_126.mono (by decide) (by decide))
                have hR126 := hR99.fm f_126 (by decide) (by decide)
                have d126_ : σ126.2.1 125 = σ88.2.1 125 := by rw [f_126.a (by decide), pp_99.2.a (by decide)]
                refine V.pop C rfl dX10_readStatement_129 ?_
                refine V.aload_n C 0 rfl rfl dX10_readStatement_130 ?_
                refine V.cVi C lX10_85 oX10_isFine dX10_readStatement_131 (ct_M_fine G σ126) (by assumption) rfl rfl (Nat.le_of_ble_eq_true rfl) ⟨Nat.le_of_ble_eq_true rfl, Nat.le_of_ble_eq_true rfl⟩ ⟨Nat.le_of_ble_eq_true rfl, Nat.le_of_ble_eq_true rfl⟩ (fun rr_131 σ131 pp_131 => ?_)
                obtain ⟨ee_131, ff_131⟩ := pp_131
                rw [ee_131, ff_131]
                refine V.if_eq C 167 dX10_readStatement_134 rfl (fun hb_134 => ?_) (fun hb_134 => ?_)
                · exact absurd (bI_eq0 hb_134) (by rw [decide_eq_true o126_.2.2]; decide)
                · refine V.aload_n C 0 rfl rfl dX10_readStatement_137 ?_
                  refine V.iload_n C 3 rfl rfl dX10_readStatement_138 ?_
                  refine V.iconst C (nI 1) c_1 dX10_readStatement_139 ?_
                  refine V.iadd C dX10_readStatement_140 ?_
                  refine V.bipush C (nI 16) b_16 dX10_readStatement_141 ?_
                  refine V.iadd C dX10_readStatement_143 ?_
                  rw [nI_add, nI_add]
                  refine V.cVv C lX10_128 oX10_putTerm dX10_readStatement_144 (ct_M_putTerm G σ126 cs_ (at_ + 17) hR126 (by omega) (by omega)) (by assumption) rfl rfl (Nat.le_of_ble_eq_true rfl) ⟨Nat.le_of_ble_eq_true rfl, Nat.le_of_ble_eq_true rfl⟩ ⟨Nat.le_of_ble_eq_true rfl, Nat.le_of_ble_eq_true rfl⟩ (fun σ144 pp_144 => ?_)
                  obtain ⟨r144_, k144_, f_144⟩ := pp_144
                  have c144_ : σ144.2.1 125 (cntS neg) = nI (lenS neg P) := by
                    have := cnt_lt neg
                    rw [k144_ _ (by omega), d126_, k88_ _ (by omega)]; exact hP.cnt neg
                  refine V.aload_n C 0 rfl rfl dX10_readStatement_147 ?_
                  refine V.getR C fX10_13 dX10_readStatement_148 (by assumption) rfl ?_
                  refine V.iload_n C 1 rfl rfl dX10_readStatement_151 ?_
                  refine V.if_eq C 160 dX10_readStatement_152 rfl (fun hb_152 => ?_) (fun hb_152 => ?_)
                  · have zn_ : neg = false := bI_eq0 hb_152
                    refine V.bipush C (nI 8) b_8 dX10_readStatement_160 ?_
                    refine V.dup2 C rfl rfl dX10_readStatement_162 ?_
                    refine V.ialdN C dX10_readStatement_163 (by assumption) (by omega) ?_
                    rw [show σ144.2.1 125 8 = nI (lenS false P) from (by rw [zn_] at c144_; exact c144_)]
                    refine V.iconst C (nI 1) c_1 dX10_readStatement_164 ?_
                    refine V.iadd C dX10_readStatement_165 ?_
                    rw [nI_add]
                    refine V.iastN C dX10_readStatement_166 (by assumption) (by omega) ?_
                    exact V.vretS C R dX10_readStatement_167 (by
                      have Fe_ : FM [] [125] σ144 (sA σ144 125 (va_up (σ144.2.1 125) 8 (nI (lenS false P + 1)))) := (FM.refl _ _ _).sA _ (by decide)
                      refine ⟨Or.inl ⟨_, _, ps_ok pe_ ⟨z57_, z50_⟩ pc_ ⟨z118_, z109_⟩, (o126_.fm f_144 (by decide) (by decide)).fm Fe_ (by decide) (by decide), ?_⟩, F126_.trans ((f_144.trans Fe_).mono (by decide) (by decide))⟩
                      rw [zn_]
                      rw [zn_] at hl hidx
                      rw [sA_A]
                      have hat2_ : at_ = 10 + 33 * idxS false P := by rw [hat, hidx]
                      refine hP.add hwf hl (fun j j1 j2 => ?_) (up_eq _ _ _) ?_
                      · have j1 : j ≠ 8 := j1
                        rw [← hat2_] at j2
                        rw [up_ne _ _ j1, k144_ j (by omega), d126_, g88_ j (by omega)]
                      · rw [← hat2_]
                        refine ⟨?_, fun k hk => ?_, fun k hk => ?_⟩
                        · rw [up_ne _ _ (by omega), k144_ _ (by omega), d126_]; exact w88_
                        · have hk : k < bs_.length := hk
                          rw [up_ne _ _ (by omega), k144_ _ (by omega), d126_]; exact r88_ k hk
                        · have hk : k < bs_.length := hk
                          rw [up_ne _ _ (by omega)]; exact r144_ k (by omega))
                  · have zn_ : neg = true := bI_ne0 hb_152
                    refine V.bipush C (nI 9) b_9 dX10_readStatement_155 ?_
                    refine V.goto C 162 dX10_readStatement_157 rfl ?_
                    refine V.dup2 C rfl rfl dX10_readStatement_162 ?_
                    refine V.ialdN C dX10_readStatement_163 (by assumption) (by omega) ?_
                    rw [show σ144.2.1 125 9 = nI (lenS true P) from (by rw [zn_] at c144_; exact c144_)]
                    refine V.iconst C (nI 1) c_1 dX10_readStatement_164 ?_
                    refine V.iadd C dX10_readStatement_165 ?_
                    rw [nI_add]
                    refine V.iastN C dX10_readStatement_166 (by assumption) (by omega) ?_
                    exact V.vretS C R dX10_readStatement_167 (by
                      have Fe_ : FM [] [125] σ144 (sA σ144 125 (va_up (σ144.2.1 125) 9 (nI (lenS true P + 1)))) := (FM.refl _ _ _).sA _ (by decide)
                      refine ⟨Or.inl ⟨_, _, ps_ok pe_ ⟨z57_, z50_⟩ pc_ ⟨z118_, z109_⟩, (o126_.fm f_144 (by decide) (by decide)).fm Fe_ (by decide) (by decide), ?_⟩, F126_.trans ((f_144.trans Fe_).mono (by decide) (by decide))⟩
                      rw [zn_]
                      rw [zn_] at hl hidx
                      rw [sA_A]
                      have hat2_ : at_ = 10 + 33 * idxS true P := by rw [hat, hidx]
                      refine hP.add hwf hl (fun j j1 j2 => ?_) (up_eq _ _ _) ?_
                      · have j1 : j ≠ 9 := j1
                        rw [← hat2_] at j2
                        rw [up_ne _ _ j1, k144_ j (by omega), d126_, g88_ j (by omega)]
                      · rw [← hat2_]
                        refine ⟨?_, fun k hk => ?_, fun k hk => ?_⟩
                        · rw [up_ne _ _ (by omega), k144_ _ (by omega), d126_]; exact w88_
                        · have hk : k < bs_.length := hk
                          rw [up_ne _ _ (by omega), k144_ _ (by omega), d126_]; exact r88_ k hk
                        · have hk : k < bs_.length := hk
                          rw [up_ne _ _ (by omega)]; exact r144_ k (by omega))
  refine V.iload_n C 1 rfl rfl dX10_readStatement_0 ?_
  refine V.if_eq C 17 dX10_readStatement_1 rfl (fun hb_1 => ?_) (fun hb_1 => ?_)
  · have zn_ : neg = false := bI_eq0 hb_1
    refine V.aload_n C 0 rfl rfl dX10_readStatement_17 ?_
    refine V.getR C fX10_13 dX10_readStatement_18 (by assumption) rfl ?_
    refine V.bipush C (nI 8) b_8 dX10_readStatement_21 ?_
    refine V.ialdN C dX10_readStatement_23 (by assumption) (by omega) ?_
    rw [hP.2.1]
    refine V.istore_n C 2 dX10_readStatement_24 rfl (by decide) ?_
    refine V.bipush C (nI 10) b_10 dX10_readStatement_25 ?_
    refine V.bipush C (nI 33) b_33 dX10_readStatement_27 ?_
    refine V.iload_n C 2 rfl rfl dX10_readStatement_29 ?_
    refine V.imul C dX10_readStatement_30 ?_
    rw [nI_mul]
    refine V.iadd C dX10_readStatement_31 ?_
    rw [nI_add]
    refine V.istore_n C 3 dX10_readStatement_32 rfl (by decide) ?_
    refine V.lvs (lv' := [(0, Rf G 123), (1, .int (bI neg)), (2, .int (nI idx)), (3, .int (nI at_))]) (by rw [hat, hidx, zn_]; rfl) ?_
    exact t33
  · have zn_ : neg = true := bI_ne0 hb_1
    refine V.bipush C (nI 10) b_10 dX10_readStatement_4 ?_
    refine V.aload_n C 0 rfl rfl dX10_readStatement_6 ?_
    refine V.getR C fX10_13 dX10_readStatement_7 (by assumption) rfl ?_
    refine V.bipush C (nI 9) b_9 dX10_readStatement_10 ?_
    refine V.ialdN C dX10_readStatement_12 (by assumption) (by omega) ?_
    rw [hP.2.2.1]
    refine V.iadd C dX10_readStatement_13 ?_
    rw [nI_add]
    refine V.goto C 24 dX10_readStatement_14 rfl ?_
    refine V.istore_n C 2 dX10_readStatement_24 rfl (by decide) ?_
    refine V.bipush C (nI 10) b_10 dX10_readStatement_25 ?_
    refine V.bipush C (nI 33) b_33 dX10_readStatement_27 ?_
    refine V.iload_n C 2 rfl rfl dX10_readStatement_29 ?_
    refine V.imul C dX10_readStatement_30 ?_
    rw [nI_mul]
    refine V.iadd C dX10_readStatement_31 ?_
    rw [nI_add]
    refine V.istore_n C 3 dX10_readStatement_32 rfl (by decide) ?_
    refine V.lvs (lv' := [(0, Rf G 123), (1, .int (bI neg)), (2, .int (nI idx)), (3, .int (nI at_))]) (by rw [hat, hidx, zn_]; rfl) ?_
    exact t33
theorem pd_no {ch : Nat → Nat} {n : Nat} {P : Prob} {b : Nat} (h : ¬ (kKT ch n b = 258 ∧ P.1 (ch b - 97) = 0)) : pDecl ch n P b = .error b := by unfold pDecl; rw [if_neg h]
theorem pd_e1 {ch : Nat → Nat} {n : Nat} {P : Prob} {b : Nat} (h : kKT ch n b = 258 ∧ P.1 (ch b - 97) = 0) (h1 : numB ch n (nxT ch n b) 1 16 = false) : pDecl ch n P b = .error (nxT ch n b) := by
  unfold pDecl; rw [if_pos h]
  rcases numB_f h1 with q | ⟨x, q, q2⟩
  · rw [q]
  · rw [q]; simp only [if_neg q2]
theorem pd_e2 {ch : Nat → Nat} {n : Nat} {P : Prob} {b x : Nat} (h : kKT ch n b = 258 ∧ P.1 (ch b - 97) = 0) (h1 : numT ch n (nxT ch n b) = some x) (h2 : 1 ≤ x ∧ x ≤ 16) (h3 : ¬ kKT ch n (nxT ch n (nxT ch n b)) = 59) : pDecl ch n P b = .error (nxT ch n (nxT ch n b)) := by
  unfold pDecl; rw [if_pos h, h1]; simp only [if_pos h2, if_neg h3]
theorem pd_ok {ch : Nat → Nat} {n : Nat} {P : Prob} {b x : Nat} (h : kKT ch n b = 258 ∧ P.1 (ch b - 97) = 0) (h1 : numT ch n (nxT ch n b) = some x) (h2 : 1 ≤ x ∧ x ≤ 16) (h3 : kKT ch n (nxT ch n (nxT ch n b)) = 59) : pDecl ch n P b = .ok ((va_up P.1 (ch b - 97) x, P.2.1, P.2.2), nxT ch n (nxT ch n (nxT ch n b))) := by
  unfold pDecl; rw [if_pos h, h1]; simp only [if_pos h2, if_pos h3]
theorem FP.decl {f : Nat → Int32} {P : Prob} {v x : Nat} (h : FP f P) (hw : wfP P) (hv : v < 8) : FP (va_up f v (nI x)) (va_up P.1 v x, P.2.1, P.2.2) := by
  have l1 := hw.2.1
  have l2 := hw.2.2.1
  refine ⟨fun u hu => ?_, by rw [up_ne _ _ (by omega)]; exact h.2.1, by rw [up_ne _ _ (by omega)]; exact h.2.2.1, fun i t ht => (h.2.2.2.1 i t ht).same (hw.2.2.2.1 i t ht).2.1 (fun j z1 z2 => up_ne _ _ (by omega)), fun i t ht => (h.2.2.2.2 i t ht).same (hw.2.2.2.2 i t ht).2.1 (fun j z1 z2 => up_ne _ _ (by omega))⟩
  show va_up f v (nI x) u = nI (va_up P.1 v x u)
  by_cases e : u = v
  · rw [e, up_eq, up_eq]
  · rw [up_ne _ _ e, up_ne _ _ e]; exact h.1 u hu
set_option maxRecDepth 100000 in
set_option maxHeartbeats 4000000 in
theorem ct_M_decl (G : Gl) (σ : SS) (n : Nat) (ch : Nat → Nat) (a : Nat) (P : Prob) (hO : Ok σ n ch a) (hP : FP (σ.2.1 125) P) (hwf : wfP P) (lt_ : a < n) : CV G mX10_readDeclaration [Rf G 123] σ (fun σ1 => ((∃ P1 b, pDecl ch n P (nxT ch n a) = .ok (P1, b) ∧ Ok σ1 n ch b ∧ FP (σ1.2.1 125) P1) ∨ (∃ e, pDecl ch n P (nxT ch n a) = .error e ∧ Er σ1 e)) ∧ FM [9, 10, 11, 12, 13] [125] σ σ1) := by
  refine Ctr.of oX10_readDeclaration (Nat.le_of_ble_eq_true rfl) ?_
  intro X C R hnm hz0
  have C : Cx G X cX10_readDeclaration 3 RX10 5 110 0 0 := C
  have R : Cr G X none 0 0 _ := R
  show V G X 3 0 0 0 [(0, Rf G 123)] [] (wld G σ)
  have kk_123 := sk_123
  have kk_124 := sk_124
  have kk_125 := sk_125
  have kk_129 := sk_129
  have kk_130 := sk_130
  have e46 : ∀ (e : Nat) (σ1 : SS) (x1 : Int32), pDecl ch n P (nxT ch n a) = .error e → Er σ1 e → FM [9, 10, 11, 12, 13] [125] σ σ1 → V G X 3 0 0 46 [(0, Rf G 123), (1, .int x1)] [] (wld G σ1) := by
    intro e σ1 x1 he hE hF1
    refine V.aload_n C 0 rfl rfl dX10_readDeclaration_46 ?_
    refine V.iconst C (nI 1) c_1 dX10_readDeclaration_47 ?_
    refine V.bipush C (nI 16) b_16 dX10_readDeclaration_48 ?_
    refine V.cVi C lX10_108 oX10_number dX10_readDeclaration_50 (ct_M_numberE G σ1 _ _ hE.ne) (by assumption) rfl rfl (Nat.le_of_ble_eq_true rfl) ⟨Nat.le_of_ble_eq_true rfl, Nat.le_of_ble_eq_true rfl⟩ ⟨Nat.le_of_ble_eq_true rfl, Nat.le_of_ble_eq_true rfl⟩ (fun rr_50 σ50 pp_50 => ?_)
    rw [pp_50]
    refine V.istore_n C 2 dX10_readDeclaration_53 rfl (by decide) ?_
    refine V.aload_n C 0 rfl rfl dX10_readDeclaration_54 ?_
    refine V.aload_n C 0 rfl rfl dX10_readDeclaration_55 ?_
    refine V.bipush C (nI 59) b_59 dX10_readDeclaration_56 ?_
    refine V.cVi C lX10_105 oX10_isSign dX10_readDeclaration_58 (ct_M_sign G σ1 _) (by assumption) rfl rfl (Nat.le_of_ble_eq_true rfl) ⟨Nat.le_of_ble_eq_true rfl, Nat.le_of_ble_eq_true rfl⟩ ⟨Nat.le_of_ble_eq_true rfl, Nat.le_of_ble_eq_true rfl⟩ (fun rr_58 σ58 pp_58 => ?_)
    obtain ⟨ee_58, ff_58⟩ := pp_58
    rw [ee_58, ff_58]
    refine V.cVi C lX10_92 oX10_take dX10_readDeclaration_61 (ct_M_takeE G σ1 _ hE.ne) (by assumption) rfl rfl (Nat.le_of_ble_eq_true rfl) ⟨Nat.le_of_ble_eq_true rfl, Nat.le_of_ble_eq_true rfl⟩ ⟨Nat.le_of_ble_eq_true rfl, Nat.le_of_ble_eq_true rfl⟩ (fun rr_61 σ61 pp_61 => ?_)
    rw [pp_61]
    refine V.pop C rfl dX10_readDeclaration_64 ?_
    refine V.aload_n C 0 rfl rfl dX10_readDeclaration_65 ?_
    refine V.cVi C lX10_85 oX10_isFine dX10_readDeclaration_66 (ct_M_fine G σ1) (by assumption) rfl rfl (Nat.le_of_ble_eq_true rfl) ⟨Nat.le_of_ble_eq_true rfl, Nat.le_of_ble_eq_true rfl⟩ ⟨Nat.le_of_ble_eq_true rfl, Nat.le_of_ble_eq_true rfl⟩ (fun rr_66 σ66 pp_66 => ?_)
    obtain ⟨ee_66, ff_66⟩ := pp_66
    rw [ee_66, ff_66]
    refine V.if_eq C 79 dX10_readDeclaration_69 rfl (fun hb_69 => ?_) (fun hb_69 => ?_)
    · exact V.vretS C R dX10_readDeclaration_79 ⟨Or.inr ⟨e, he, hE⟩, hF1⟩
    · exact absurd (bI_ne0 hb_69) (by rw [decide_eq_false hE.ne]; decide)
  have e54 : ∀ (e : Nat) (σ1 : SS) (x1 x2 : Int32), pDecl ch n P (nxT ch n a) = .error e → Er σ1 e → FM [9, 10, 11, 12, 13] [125] σ σ1 → V G X 3 0 0 54 [(0, Rf G 123), (1, .int x1), (2, .int x2)] [] (wld G σ1) := by
    intro e σ1 x1 x2 he hE hF1
    refine V.aload_n C 0 rfl rfl dX10_readDeclaration_54 ?_
    refine V.aload_n C 0 rfl rfl dX10_readDeclaration_55 ?_
    refine V.bipush C (nI 59) b_59 dX10_readDeclaration_56 ?_
    refine V.cVi C lX10_105 oX10_isSign dX10_readDeclaration_58 (ct_M_sign G σ1 _) (by assumption) rfl rfl (Nat.le_of_ble_eq_true rfl) ⟨Nat.le_of_ble_eq_true rfl, Nat.le_of_ble_eq_true rfl⟩ ⟨Nat.le_of_ble_eq_true rfl, Nat.le_of_ble_eq_true rfl⟩ (fun rr_58 σ58 pp_58 => ?_)
    obtain ⟨ee_58, ff_58⟩ := pp_58
    rw [ee_58, ff_58]
    refine V.cVi C lX10_92 oX10_take dX10_readDeclaration_61 (ct_M_takeE G σ1 _ hE.ne) (by assumption) rfl rfl (Nat.le_of_ble_eq_true rfl) ⟨Nat.le_of_ble_eq_true rfl, Nat.le_of_ble_eq_true rfl⟩ ⟨Nat.le_of_ble_eq_true rfl, Nat.le_of_ble_eq_true rfl⟩ (fun rr_61 σ61 pp_61 => ?_)
    rw [pp_61]
    refine V.pop C rfl dX10_readDeclaration_64 ?_
    refine V.aload_n C 0 rfl rfl dX10_readDeclaration_65 ?_
    refine V.cVi C lX10_85 oX10_isFine dX10_readDeclaration_66 (ct_M_fine G σ1) (by assumption) rfl rfl (Nat.le_of_ble_eq_true rfl) ⟨Nat.le_of_ble_eq_true rfl, Nat.le_of_ble_eq_true rfl⟩ ⟨Nat.le_of_ble_eq_true rfl, Nat.le_of_ble_eq_true rfl⟩ (fun rr_66 σ66 pp_66 => ?_)
    obtain ⟨ee_66, ff_66⟩ := pp_66
    rw [ee_66, ff_66]
    refine V.if_eq C 79 dX10_readDeclaration_69 rfl (fun hb_69 => ?_) (fun hb_69 => ?_)
    · exact V.vretS C R dX10_readDeclaration_79 ⟨Or.inr ⟨e, he, hE⟩, hF1⟩
    · exact absurd (bI_ne0 hb_69) (by rw [decide_eq_false hE.ne]; decide)
  have e65 : ∀ (e : Nat) (σ1 : SS) (x1 x2 : Int32), pDecl ch n P (nxT ch n a) = .error e → Er σ1 e → FM [9, 10, 11, 12, 13] [125] σ σ1 → V G X 3 0 0 65 [(0, Rf G 123), (1, .int x1), (2, .int x2)] [] (wld G σ1) := by
    intro e σ1 x1 x2 he hE hF1
    refine V.aload_n C 0 rfl rfl dX10_readDeclaration_65 ?_
    refine V.cVi C lX10_85 oX10_isFine dX10_readDeclaration_66 (ct_M_fine G σ1) (by assumption) rfl rfl (Nat.le_of_ble_eq_true rfl) ⟨Nat.le_of_ble_eq_true rfl, Nat.le_of_ble_eq_true rfl⟩ ⟨Nat.le_of_ble_eq_true rfl, Nat.le_of_ble_eq_true rfl⟩ (fun rr_66 σ66 pp_66 => ?_)
    obtain ⟨ee_66, ff_66⟩ := pp_66
    rw [ee_66, ff_66]
    refine V.if_eq C 79 dX10_readDeclaration_69 rfl (fun hb_69 => ?_) (fun hb_69 => ?_)
    · exact V.vretS C R dX10_readDeclaration_79 ⟨Or.inr ⟨e, he, hE⟩, hF1⟩
    · exact absurd (bI_ne0 hb_69) (by rw [decide_eq_false hE.ne]; decide)
  refine V.aload_n C 0 rfl rfl dX10_readDeclaration_0 ?_
  refine V.iconst C (nI 1) c_1 dX10_readDeclaration_1 ?_
  show V G X 3 0 0 2 _ [.int (bI true), Rf G 123] (wld G σ)
  refine V.cVi C lX10_92 oX10_take dX10_readDeclaration_2 (ct_M_take G σ n ch a true hO (fun _ => lt_)) (by assumption) rfl rfl (Nat.le_of_ble_eq_true rfl) ⟨Nat.le_of_ble_eq_true rfl, Nat.le_of_ble_eq_true rfl⟩ ⟨Nat.le_of_ble_eq_true rfl, Nat.le_of_ble_eq_true rfl⟩ (fun rr_2 σ2 pp_2 => ?_)
  have o2_ := pp_2.2.1 rfl
  have f_2 := pp_2.2.2.2
  have hP2 : FP (σ2.2.1 125) P := by rw [f_2.a (by decide)]; exact hP
  refine V.pop C rfl dX10_readDeclaration_5 ?_
  refine V.aload_n C 0 rfl rfl dX10_readDeclaration_6 ?_
  refine V.aload_n C 0 rfl rfl dX10_readDeclaration_7 ?_
  refine V.cVi C lX10_102 oX10_isName dX10_readDeclaration_8 (ct_M_name G σ2) (by assumption) rfl rfl (Nat.le_of_ble_eq_true rfl) ⟨Nat.le_of_ble_eq_true rfl, Nat.le_of_ble_eq_true rfl⟩ ⟨Nat.le_of_ble_eq_true rfl, Nat.le_of_ble_eq_true rfl⟩ (fun rr_8 σ8 pp_8 => ?_)
  obtain ⟨ee_8, ff_8⟩ := pp_8
  rw [ee_8, ff_8, o2_.nm]
  refine V.if_eq C 41 dX10_readDeclaration_11 rfl (fun hb_11 => ?_) (fun hb_11 => ?_)
  · have z_ : ¬ kKT ch n (nxT ch n a) = 258 := of_decide_eq_false (bI_eq0 hb_11)
    have no_ : ¬ (kKT ch n (nxT ch n a) = 258 ∧ P.1 (ch (nxT ch n a) - 97) = 0) := fun q => z_ q.1
    refine V.iconst C (nI 0) c_0 dX10_readDeclaration_41 ?_
    show V G X 3 0 0 42 _ [.int (bI false), Rf G 123] (wld G σ2)
    refine V.cVi C lX10_92 oX10_take dX10_readDeclaration_42 (ct_M_take G σ2 n ch (nxT ch n a) false o2_ (fun q => absurd q (by decide))) (by assumption) rfl rfl (Nat.le_of_ble_eq_true rfl) ⟨Nat.le_of_ble_eq_true rfl, Nat.le_of_ble_eq_true rfl⟩ ⟨Nat.le_of_ble_eq_true rfl, Nat.le_of_ble_eq_true rfl⟩ (fun rr_42 σ42 pp_42 => ?_)
    refine V.istore_n C 1 dX10_readDeclaration_45 rfl (by decide) ?_
    refine V.lvs (lv' := [(0, Rf G 123), (1, .int rr_42)]) rfl ?_
    exact e46 _ σ42 _ (pd_no no_) (pp_42.2.2.1 rfl) ((f_2.trans pp_42.2.2.2).mono (by decide) (by decide))
  · have z_ : kKT ch n (nxT ch n a) = 258 := of_decide_eq_true (bI_ne0 hb_11)
    obtain ⟨ltb_, c97_, c105_⟩ := name_lt hO.ch z_
    obtain ⟨v, hv_⟩ : ∃ v, ch (nxT ch n a) - 97 = v := ⟨_, rfl⟩
    have v8 : v < 8 := by omega
    have val_ : valM ch n (nxT ch n a) = nI v := by unfold valM; rw [z_, hv_]; rfl
    refine V.aload_n C 0 rfl rfl dX10_readDeclaration_14 ?_
    refine V.getR C fX10_13 dX10_readDeclaration_15 (by assumption) rfl ?_
    refine V.aload_n C 0 rfl rfl dX10_readDeclaration_18 ?_
    refine V.cVi C lX10_102 oX10_isName dX10_readDeclaration_19 (ct_M_name G σ2) (by assumption) rfl rfl (Nat.le_of_ble_eq_true rfl) ⟨Nat.le_of_ble_eq_true rfl, Nat.le_of_ble_eq_true rfl⟩ ⟨Nat.le_of_ble_eq_true rfl, Nat.le_of_ble_eq_true rfl⟩ (fun rr_19 σ19 pp_19 => ?_)
    obtain ⟨ee_19, ff_19⟩ := pp_19
    rw [ee_19, ff_19, o2_.nm]
    refine V.if_eq C 32 dX10_readDeclaration_22 rfl (fun hb_22 => ?_) (fun hb_22 => ?_)
    · exact absurd z_ (of_decide_eq_false (bI_eq0 hb_22))
    · refine V.aload_n C 0 rfl rfl dX10_readDeclaration_25 ?_
      refine V.getI C fX10_68 dX10_readDeclaration_26 (by assumption) rfl ?_
      rw [o2_.2.1.2.2.2.2, val_]
      refine V.goto C 33 dX10_readDeclaration_29 rfl ?_
      refine V.ialdN C dX10_readDeclaration_33 (by assumption) (by omega) ?_
      rw [hP2.1 v v8]
      refine V.if_ne C 41 dX10_readDeclaration_34 rfl (fun hb_34 => ?_) (fun hb_34 => ?_)
      · have no_ : ¬ (kKT ch n (nxT ch n a) = 258 ∧ P.1 (ch (nxT ch n a) - 97) = 0) := fun q => hb_34 (by rw [hv_] at q; rw [q.2]; rfl)
        refine V.iconst C (nI 0) c_0 dX10_readDeclaration_41 ?_
        show V G X 3 0 0 42 _ [.int (bI false), Rf G 123] (wld G σ2)
        refine V.cVi C lX10_92 oX10_take dX10_readDeclaration_42 (ct_M_take G σ2 n ch (nxT ch n a) false o2_ (fun q => absurd q (by decide))) (by assumption) rfl rfl (Nat.le_of_ble_eq_true rfl) ⟨Nat.le_of_ble_eq_true rfl, Nat.le_of_ble_eq_true rfl⟩ ⟨Nat.le_of_ble_eq_true rfl, Nat.le_of_ble_eq_true rfl⟩ (fun rr_42 σ42 pp_42 => ?_)
        refine V.istore_n C 1 dX10_readDeclaration_45 rfl (by decide) ?_
        refine V.lvs (lv' := [(0, Rf G 123), (1, .int rr_42)]) rfl ?_
        exact e46 _ σ42 _ (pd_no no_) (pp_42.2.2.1 rfl) ((f_2.trans pp_42.2.2.2).mono (by decide) (by decide))
      · have w0_ : P.1 v = 0 := nI_pe (by have := hwf.1 v v8; omega) (by decide) (show _ = nI 0 from hb_34)
        have yes_ : kKT ch n (nxT ch n a) = 258 ∧ P.1 (ch (nxT ch n a) - 97) = 0 := ⟨z_, by rw [hv_]; exact w0_⟩
        refine V.iconst C (nI 1) c_1 dX10_readDeclaration_37 ?_
        refine V.goto C 42 dX10_readDeclaration_38 rfl ?_
        show V G X 3 0 0 42 _ [.int (bI true), Rf G 123] (wld G σ2)
        refine V.cVi C lX10_92 oX10_take dX10_readDeclaration_42 (ct_M_take G σ2 n ch (nxT ch n a) true o2_ (fun _ => ltb_)) (by assumption) rfl rfl (Nat.le_of_ble_eq_true rfl) ⟨Nat.le_of_ble_eq_true rfl, Nat.le_of_ble_eq_true rfl⟩ ⟨Nat.le_of_ble_eq_true rfl, Nat.le_of_ble_eq_true rfl⟩ (fun rr_42 σ42 pp_42 => ?_)
        rw [pp_42.1, val_]
        have o42_ := pp_42.2.1 rfl
        have F42_ := f_2.trans pp_42.2.2.2
        refine V.istore_n C 1 dX10_readDeclaration_45 rfl (by decide) ?_
        refine V.aload_n C 0 rfl rfl dX10_readDeclaration_46 ?_
        refine V.iconst C (nI 1) c_1 dX10_readDeclaration_47 ?_
        refine V.bipush C (nI 16) b_16 dX10_readDeclaration_48 ?_
        refine V.cVi C lX10_108 oX10_number dX10_readDeclaration_50 (ct_M_number G σ42 n ch _ 1 16 o42_ (by decide) (by decide)) (by assumption) rfl rfl (Nat.le_of_ble_eq_true rfl) ⟨Nat.le_of_ble_eq_true rfl, Nat.le_of_ble_eq_true rfl⟩ ⟨Nat.le_of_ble_eq_true rfl, Nat.le_of_ble_eq_true rfl⟩ (fun rr_50 σ50 pp_50 => ?_)
        refine V.istore_n C 2 dX10_readDeclaration_53 rfl (by decide) ?_
        have F50_ := F42_.trans pp_50.2.2.2
        refine Or.elim (b_tf (numB ch n (nxT ch n (nxT ch n a)) 1 16)) (fun hB_ => ?_) (fun hB_ => ?_)
        · refine V.lvs (lv' := [(0, Rf G 123), (1, .int (nI v)), (2, .int rr_50)]) rfl ?_
          exact e54 _ σ50 _ _ (pd_e1 yes_ hB_) (pp_50.2.2.1 hB_) (F50_.mono (by decide) (by decide))
        obtain ⟨x, hx_, x1_, x16_, lt50_, val50_⟩ := numB_t hB_
        rw [pp_50.1, val50_]
        have o50_ := pp_50.2.1 hB_
        refine V.aload_n C 0 rfl rfl dX10_readDeclaration_54 ?_
        refine V.aload_n C 0 rfl rfl dX10_readDeclaration_55 ?_
        refine V.bipush C (nI 59) b_59 dX10_readDeclaration_56 ?_
        refine V.cVi C lX10_105 oX10_isSign dX10_readDeclaration_58 (ct_M_sign G σ50 (nI 59)) (by assumption) rfl rfl (Nat.le_of_ble_eq_true rfl) ⟨Nat.le_of_ble_eq_true rfl, Nat.le_of_ble_eq_true rfl⟩ ⟨Nat.le_of_ble_eq_true rfl, Nat.le_of_ble_eq_true rfl⟩ (fun rr_58 σ58 pp_58 => ?_)
        obtain ⟨ee_58, ff_58⟩ := pp_58
        rw [ee_58, ff_58, o50_.sg (by decide)]
        refine V.cVi C lX10_92 oX10_take dX10_readDeclaration_61 (ct_M_take G σ50 n ch _ (decide (kKT ch n (nxT ch n (nxT ch n (nxT ch n a))) = 59)) o50_ (fun q => kKT_lt (ch := ch) (by rw [of_decide_eq_true q]; decide))) (by assumption) rfl rfl (Nat.le_of_ble_eq_true rfl) ⟨Nat.le_of_ble_eq_true rfl, Nat.le_of_ble_eq_true rfl⟩ ⟨Nat.le_of_ble_eq_true rfl, Nat.le_of_ble_eq_true rfl⟩ (fun rr_61 σ61 pp_61 => ?_)
        refine V.pop C rfl dX10_readDeclaration_64 ?_
        have F61_ := F50_.trans pp_61.2.2.2
        refine Or.elim (b_tf (decide (kKT ch n (nxT ch n (nxT ch n (nxT ch n a))) = 59))) (fun hB_ => ?_) (fun hB_ => ?_)
        · refine V.lvs (lv' := [(0, Rf G 123), (1, .int (nI v)), (2, .int (nI x))]) rfl ?_
          exact e65 _ σ61 _ _ (pd_e2 yes_ hx_ ⟨x1_, x16_⟩ (of_decide_eq_false hB_)) (pp_61.2.2.1 hB_) (F61_.mono (by decide) (by decide))
        have o61_ := pp_61.2.1 hB_
        have k59_ := of_decide_eq_true hB_
        refine V.aload_n C 0 rfl rfl dX10_readDeclaration_65 ?_
        refine V.cVi C lX10_85 oX10_isFine dX10_readDeclaration_66 (ct_M_fine G σ61) (by assumption) rfl rfl (Nat.le_of_ble_eq_true rfl) ⟨Nat.le_of_ble_eq_true rfl, Nat.le_of_ble_eq_true rfl⟩ ⟨Nat.le_of_ble_eq_true rfl, Nat.le_of_ble_eq_true rfl⟩ (fun rr_66 σ66 pp_66 => ?_)
        obtain ⟨ee_66, ff_66⟩ := pp_66
        rw [ee_66, ff_66]
        refine V.if_eq C 79 dX10_readDeclaration_69 rfl (fun hb_69 => ?_) (fun hb_69 => ?_)
        · exact absurd (bI_eq0 hb_69) (by rw [decide_eq_true o61_.2.2]; decide)
        · refine V.aload_n C 0 rfl rfl dX10_readDeclaration_72 ?_
          refine V.getR C fX10_13 dX10_readDeclaration_73 (by assumption) rfl ?_
          refine V.iload_n C 1 rfl rfl dX10_readDeclaration_76 ?_
          refine V.iload_n C 2 rfl rfl dX10_readDeclaration_77 ?_
          refine V.iastN C dX10_readDeclaration_78 (by assumption) (by omega) ?_
          exact V.vretS C R dX10_readDeclaration_79 (by
            have Fe_ : FM [] [125] σ61 (sA σ61 125 (va_up (σ61.2.1 125) v (nI x))) := (FM.refl _ _ _).sA _ (by decide)
            refine ⟨Or.inl ⟨_, _, pd_ok yes_ hx_ ⟨x1_, x16_⟩ k59_, o61_.fm Fe_ (by decide) (by decide), ?_⟩, (F61_.mono (by decide) (by decide)).trans (Fe_.mono (by decide) (by decide))⟩
            rw [sA_A, hv_, F61_.a (by decide)]
            exact hP.decl hwf v8)
