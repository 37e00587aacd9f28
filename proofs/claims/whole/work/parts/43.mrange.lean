/-! The model's readRange, readConstant, readPart. -/
theorem b_tf (b : Bool) : b = false ∨ b = true := by cases b <;> simp
section
variable {ch : Nat → Nat} {n : Nat}
theorem numB_f {a lo hi : Nat} (h : numB ch n a lo hi = false) : numT ch n a = none ∨ ∃ x, numT ch n a = some x ∧ ¬ (lo ≤ x ∧ x ≤ hi) := by
  unfold numB at h
  cases hq : numT ch n a with
  | none => exact Or.inl rfl
  | some x => rw [hq] at h; exact Or.inr ⟨x, rfl, of_decide_eq_false h⟩
theorem pr_e1 {b h : Nat} (h1 : numB ch n b 0 h = false) : pRange ch n b h = .error b := by
  unfold pRange
  rcases numB_f h1 with q | ⟨x, q, q2⟩
  · rw [q]
  · rw [q]; simp only [if_neg (show ¬ x ≤ h by omega)]
theorem pr_e2 {b h x : Nat} (h1 : numT ch n b = some x) (h2 : x ≤ h) (h3 : ¬ kKT ch n (nxT ch n b) = 58) : pRange ch n b h = .error (nxT ch n b) := by
  unfold pRange; rw [h1]; simp only [if_pos h2, if_neg h3]
theorem pr_e3 {b h x : Nat} (h1 : numT ch n b = some x) (h2 : x ≤ h) (h3 : kKT ch n (nxT ch n b) = 58) (h4 : numB ch n (nxT ch n (nxT ch n b)) 0 x = false) : pRange ch n b h = .error (nxT ch n (nxT ch n b)) := by
  unfold pRange; rw [h1]; simp only [if_pos h2, if_pos h3]
  rcases numB_f h4 with q | ⟨y, q, q2⟩
  · rw [q]
  · rw [q]; simp only [if_neg (show ¬ y ≤ x by omega)]
theorem pr_e4 {b h x y : Nat} (h1 : numT ch n b = some x) (h2 : x ≤ h) (h3 : kKT ch n (nxT ch n b) = 58) (h4 : numT ch n (nxT ch n (nxT ch n b)) = some y) (h5 : y ≤ x) (h6 : ¬ kKT ch n (nxT ch n (nxT ch n (nxT ch n b))) = 93) : pRange ch n b h = .error (nxT ch n (nxT ch n (nxT ch n b))) := by
  unfold pRange; rw [h1]; simp only [if_pos h2, if_pos h3, h4, if_pos h5, if_neg h6]
theorem pr_ok {b h x y : Nat} (h1 : numT ch n b = some x) (h2 : x ≤ h) (h3 : kKT ch n (nxT ch n b) = 58) (h4 : numT ch n (nxT ch n (nxT ch n b)) = some y) (h5 : y ≤ x) (h6 : kKT ch n (nxT ch n (nxT ch n (nxT ch n b))) = 93) : pRange ch n b h = .ok (x, y, nxT ch n (nxT ch n (nxT ch n (nxT ch n b)))) := by
  unfold pRange; rw [h1]; simp only [if_pos h2, if_pos h3, h4, if_pos h5, if_pos h6]
theorem pp_rng {w : Nat → Nat} {a pt e : Nat} (z : ¬ kKT ch n a = 37) (h : kKT ch n a = 258) (hw : ¬ w (ch a - 97) = 0) (h91 : kKT ch n (nxT ch n a) = 91) (he : pRange ch n (nxT ch n (nxT ch n a)) (w (ch a - 97) - 1) = .error e) : pPart ch n w a pt = .error e := by
  unfold pPart; rw [if_neg z, if_pos ⟨h, hw⟩, if_pos h91, he]
theorem pp_rngo {w : Nat → Nat} {a pt x y b : Nat} (z : ¬ kKT ch n a = 37) (h : kKT ch n a = 258) (hw : ¬ w (ch a - 97) = 0) (h91 : kKT ch n (nxT ch n a) = 91) (he : pRange ch n (nxT ch n (nxT ch n a)) (w (ch a - 97) - 1) = .ok (x, y, b)) : pPart ch n w a pt = .ok (rngB (ch a - 97) pt x (x + 1 - y), b) := by
  unfold pPart; rw [if_neg z, if_pos ⟨h, hw⟩, if_pos h91, he]
theorem pp_all {w : Nat → Nat} {a pt : Nat} (z : ¬ kKT ch n a = 37) (h : kKT ch n a = 258) (hw : ¬ w (ch a - 97) = 0) (h91 : ¬ kKT ch n (nxT ch n a) = 91) : pPart ch n w a pt = .ok (rngB (ch a - 97) pt (w (ch a - 97) - 1) (w (ch a - 97) - 1 + 1 - 0), nxT ch n a) := by
  unfold pPart; rw [if_neg z, if_pos ⟨h, hw⟩, if_neg h91]
theorem pp_no {w : Nat → Nat} {a pt : Nat} (z : ¬ kKT ch n a = 37) (h : ¬ (kKT ch n a = 258 ∧ ¬ w (ch a - 97) = 0)) : pPart ch n w a pt = .error a := by
  unfold pPart; rw [if_neg z, if_neg h]
theorem Ok.sg {σ : SS} {a c : Nat} (h : Ok σ n ch a) (hs : isSg c = true) : decide (σ.1 123 11 = 3 ∧ σ.1 123 12 = nI c) = decide (kKT ch n a = c) := by
  rw [h.2.1.2.2.2.1, h.2.1.2.2.2.2, sign_iff h.ch hs]
theorem Ok.nm {σ : SS} {a : Nat} (h : Ok σ n ch a) : decide (σ.1 123 11 = 1 ∧ σ.1 123 12 < 8) = decide (kKT ch n a = 258) := by
  rw [h.2.1.2.2.2.1, h.2.1.2.2.2.2, name_iff h.ch]
theorem Ok.le {σ : SS} {a : Nat} (h : Ok σ n ch a) : a ≤ 200 := by have := h.2.1.1; have := h.1.2.1; omega
end
set_option maxRecDepth 100000 in
set_option maxHeartbeats 4000000 in
theorem ct_M_range (G : Gl) (σ : SS) (n : Nat) (ch : Nat → Nat) (a pt : Nat) (w : Nat → Nat) (bs : List Nat) (hO : Ok σ n ch a) (hR : RMb σ bs) (hl : bs.length < 2 ^ 27) (hpt : σ.1 123 16 = nI pt) (hw : ∀ v, v < 8 → σ.2.1 125 v = nI (w v) ∧ w v ≤ 16) (hn37 : ¬ kKT ch n a = 37) : CV G mX10_readRange [Rf G 123] σ (fun σ1 => ((∃ l b, pPart ch n w a pt = .ok (l, b) ∧ Ok σ1 n ch b ∧ RMb σ1 (bs ++ l)) ∨ (∃ e, pPart ch n w a pt = .error e ∧ Er σ1 e)) ∧ FM [9, 10, 11, 12, 13, 15] [130] σ σ1) := by
  refine Ctr.of oX10_readRange (Nat.le_of_ble_eq_true rfl) ?_
  intro X C R hnm hz0
  have C : Cx G X cX10_readRange 5 RX10 5 110 0 0 := C
  have R : Cr G X none 0 0 _ := R
  show V G X 5 0 0 0 [(0, Rf G 123)] [] (wld G σ)
  have kk_123 := sk_123
  have kk_124 := sk_124
  have kk_125 := sk_125
  have kk_129 := sk_129
  have kk_130 := sk_130
  have e40 : ∀ (e : Nat) (σ1 : SS) (x1 : Int32), pPart ch n w a pt = .error e → Er σ1 e → FM [9, 10, 11, 12, 13, 15] [130] σ σ1 → V G X 5 0 0 40 [(0, Rf G 123), (1, .int x1)] [] (wld G σ1) := by
    intro e σ1 x1 he hE hF1
    refine V.aload_n C 0 rfl rfl dX10_readRange_40 ?_
    refine V.cVi C lX10_85 oX10_isFine dX10_readRange_41 (ct_M_fine G σ1) (by assumption) rfl rfl (Nat.le_of_ble_eq_true rfl) ⟨Nat.le_of_ble_eq_true rfl, Nat.le_of_ble_eq_true rfl⟩ ⟨Nat.le_of_ble_eq_true rfl, Nat.le_of_ble_eq_true rfl⟩ (fun rr_41 σ41 pp_41 => ?_)
    obtain ⟨ee_41, ff_41⟩ := pp_41
    rw [ee_41, ff_41]
    refine V.if_eq C 58 dX10_readRange_44 rfl (fun hb_44 => ?_) (fun hb_44 => ?_)
    · refine V.iconst C (nI 0) c_0 dX10_readRange_58 ?_
      refine V.istore_n C 2 dX10_readRange_59 rfl (by decide) ?_
      refine V.iconst C (nI 0) c_0 dX10_readRange_60 ?_
      refine V.istore_n C 3 dX10_readRange_61 rfl (by decide) ?_
      refine V.aload_n C 0 rfl rfl dX10_readRange_62 ?_
      refine V.cVi C lX10_85 oX10_isFine dX10_readRange_63 (ct_M_fine G σ1) (by assumption) rfl rfl (Nat.le_of_ble_eq_true rfl) ⟨Nat.le_of_ble_eq_true rfl, Nat.le_of_ble_eq_true rfl⟩ ⟨Nat.le_of_ble_eq_true rfl, Nat.le_of_ble_eq_true rfl⟩ (fun rr_63 σ63 pp_63 => ?_)
      obtain ⟨ee_63, ff_63⟩ := pp_63
      rw [ee_63, ff_63]
      refine V.if_eq C 120 dX10_readRange_66 rfl (fun hb_66 => ?_) (fun hb_66 => ?_)
      · refine V.iload_n C 2 rfl rfl dX10_readRange_120 ?_
        refine V.istore C dX10_readRange_121 (by decide) ?_
        refine V.aload_n C 0 rfl rfl dX10_readRange_123 ?_
        refine V.cVi C lX10_85 oX10_isFine dX10_readRange_124 (ct_M_fine G σ1) (by assumption) rfl rfl (Nat.le_of_ble_eq_true rfl) ⟨Nat.le_of_ble_eq_true rfl, Nat.le_of_ble_eq_true rfl⟩ ⟨Nat.le_of_ble_eq_true rfl, Nat.le_of_ble_eq_true rfl⟩ (fun rr_124 σ124 pp_124 => ?_)
        obtain ⟨ee_124, ff_124⟩ := pp_124
        rw [ee_124, ff_124]
        refine V.if_eq C 156 dX10_readRange_127 rfl (fun hb_127 => ?_) (fun hb_127 => ?_)
        · exact V.vretS C R dX10_readRange_156 ⟨Or.inr ⟨e, he, hE⟩, hF1⟩
        · exact absurd (bI_ne0 hb_127) (by rw [decide_eq_false hE.ne]; decide)
      · exact absurd (bI_ne0 hb_66) (by rw [decide_eq_false hE.ne]; decide)
    · exact absurd (bI_ne0 hb_44) (by rw [decide_eq_false hE.ne]; decide)
  have e91 : ∀ (e : Nat) (σ1 : SS) (x1 x2 x3 : Int32), pPart ch n w a pt = .error e → Er σ1 e → FM [9, 10, 11, 12, 13, 15] [130] σ σ1 → V G X 5 0 0 91 [(0, Rf G 123), (1, .int x1), (2, .int x2), (3, .int x3)] [] (wld G σ1) := by
    intro e σ1 x1 x2 x3 he hE hF1
    refine V.aload_n C 0 rfl rfl dX10_readRange_91 ?_
    refine V.aload_n C 0 rfl rfl dX10_readRange_92 ?_
    refine V.bipush C (nI 58) b_58 dX10_readRange_93 ?_
    refine V.cVi C lX10_105 oX10_isSign dX10_readRange_95 (ct_M_sign G σ1 _) (by assumption) rfl rfl (Nat.le_of_ble_eq_true rfl) ⟨Nat.le_of_ble_eq_true rfl, Nat.le_of_ble_eq_true rfl⟩ ⟨Nat.le_of_ble_eq_true rfl, Nat.le_of_ble_eq_true rfl⟩ (fun rr_95 σ95 pp_95 => ?_)
    obtain ⟨ee_95, ff_95⟩ := pp_95
    rw [ee_95, ff_95]
    refine V.cVi C lX10_92 oX10_take dX10_readRange_98 (ct_M_takeE G σ1 _ hE.ne) (by assumption) rfl rfl (Nat.le_of_ble_eq_true rfl) ⟨Nat.le_of_ble_eq_true rfl, Nat.le_of_ble_eq_true rfl⟩ ⟨Nat.le_of_ble_eq_true rfl, Nat.le_of_ble_eq_true rfl⟩ (fun rr_98 σ98 pp_98 => ?_)
    rw [pp_98]
    refine V.pop C rfl dX10_readRange_101 ?_
    refine V.aload_n C 0 rfl rfl dX10_readRange_102 ?_
    refine V.iconst C (nI 0) c_0 dX10_readRange_103 ?_
    refine V.iload_n C 2 rfl rfl dX10_readRange_104 ?_
    refine V.cVi C lX10_108 oX10_number dX10_readRange_105 (ct_M_numberE G σ1 _ _ hE.ne) (by assumption) rfl rfl (Nat.le_of_ble_eq_true rfl) ⟨Nat.le_of_ble_eq_true rfl, Nat.le_of_ble_eq_true rfl⟩ ⟨Nat.le_of_ble_eq_true rfl, Nat.le_of_ble_eq_true rfl⟩ (fun rr_105 σ105 pp_105 => ?_)
    rw [pp_105]
    refine V.istore_n C 3 dX10_readRange_108 rfl (by decide) ?_
    refine V.aload_n C 0 rfl rfl dX10_readRange_109 ?_
    refine V.aload_n C 0 rfl rfl dX10_readRange_110 ?_
    refine V.bipush C (nI 93) b_93 dX10_readRange_111 ?_
    refine V.cVi C lX10_105 oX10_isSign dX10_readRange_113 (ct_M_sign G σ1 _) (by assumption) rfl rfl (Nat.le_of_ble_eq_true rfl) ⟨Nat.le_of_ble_eq_true rfl, Nat.le_of_ble_eq_true rfl⟩ ⟨Nat.le_of_ble_eq_true rfl, Nat.le_of_ble_eq_true rfl⟩ (fun rr_113 σ113 pp_113 => ?_)
    obtain ⟨ee_113, ff_113⟩ := pp_113
    rw [ee_113, ff_113]
    refine V.cVi C lX10_92 oX10_take dX10_readRange_116 (ct_M_takeE G σ1 _ hE.ne) (by assumption) rfl rfl (Nat.le_of_ble_eq_true rfl) ⟨Nat.le_of_ble_eq_true rfl, Nat.le_of_ble_eq_true rfl⟩ ⟨Nat.le_of_ble_eq_true rfl, Nat.le_of_ble_eq_true rfl⟩ (fun rr_116 σ116 pp_116 => ?_)
    rw [pp_116]
    refine V.pop C rfl dX10_readRange_119 ?_
    refine V.iload_n C 2 rfl rfl dX10_readRange_120 ?_
    refine V.istore C dX10_readRange_121 (by decide) ?_
    refine V.aload_n C 0 rfl rfl dX10_readRange_123 ?_
    refine V.cVi C lX10_85 oX10_isFine dX10_readRange_124 (ct_M_fine G σ1) (by assumption) rfl rfl (Nat.le_of_ble_eq_true rfl) ⟨Nat.le_of_ble_eq_true rfl, Nat.le_of_ble_eq_true rfl⟩ ⟨Nat.le_of_ble_eq_true rfl, Nat.le_of_ble_eq_true rfl⟩ (fun rr_124 σ124 pp_124 => ?_)
    obtain ⟨ee_124, ff_124⟩ := pp_124
    rw [ee_124, ff_124]
    refine V.if_eq C 156 dX10_readRange_127 rfl (fun hb_127 => ?_) (fun hb_127 => ?_)
    · exact V.vretS C R dX10_readRange_156 ⟨Or.inr ⟨e, he, hE⟩, hF1⟩
    · exact absurd (bI_ne0 hb_127) (by rw [decide_eq_false hE.ne]; decide)
  have e102 : ∀ (e : Nat) (σ1 : SS) (x1 x2 x3 : Int32), pPart ch n w a pt = .error e → Er σ1 e → FM [9, 10, 11, 12, 13, 15] [130] σ σ1 → V G X 5 0 0 102 [(0, Rf G 123), (1, .int x1), (2, .int x2), (3, .int x3)] [] (wld G σ1) := by
    intro e σ1 x1 x2 x3 he hE hF1
    refine V.aload_n C 0 rfl rfl dX10_readRange_102 ?_
    refine V.iconst C (nI 0) c_0 dX10_readRange_103 ?_
    refine V.iload_n C 2 rfl rfl dX10_readRange_104 ?_
    refine V.cVi C lX10_108 oX10_number dX10_readRange_105 (ct_M_numberE G σ1 _ _ hE.ne) (by assumption) rfl rfl (Nat.le_of_ble_eq_true rfl) ⟨Nat.le_of_ble_eq_true rfl, Nat.le_of_ble_eq_true rfl⟩ ⟨Nat.le_of_ble_eq_true rfl, Nat.le_of_ble_eq_true rfl⟩ (fun rr_105 σ105 pp_105 => ?_)
    rw [pp_105]
    refine V.istore_n C 3 dX10_readRange_108 rfl (by decide) ?_
    refine V.aload_n C 0 rfl rfl dX10_readRange_109 ?_
    refine V.aload_n C 0 rfl rfl dX10_readRange_110 ?_
    refine V.bipush C (nI 93) b_93 dX10_readRange_111 ?_
    refine V.cVi C lX10_105 oX10_isSign dX10_readRange_113 (ct_M_sign G σ1 _) (by assumption) rfl rfl (Nat.le_of_ble_eq_true rfl) ⟨Nat.le_of_ble_eq_true rfl, Nat.le_of_ble_eq_true rfl⟩ ⟨Nat.le_of_ble_eq_true rfl, Nat.le_of_ble_eq_true rfl⟩ (fun rr_113 σ113 pp_113 => ?_)
    obtain ⟨ee_113, ff_113⟩ := pp_113
    rw [ee_113, ff_113]
    refine V.cVi C lX10_92 oX10_take dX10_readRange_116 (ct_M_takeE G σ1 _ hE.ne) (by assumption) rfl rfl (Nat.le_of_ble_eq_true rfl) ⟨Nat.le_of_ble_eq_true rfl, Nat.le_of_ble_eq_true rfl⟩ ⟨Nat.le_of_ble_eq_true rfl, Nat.le_of_ble_eq_true rfl⟩ (fun rr_116 σ116 pp_116 => ?_)
    rw [pp_116]
    refine V.pop C rfl dX10_readRange_119 ?_
    refine V.iload_n C 2 rfl rfl dX10_readRange_120 ?_
    refine V.istore C dX10_readRange_121 (by decide) ?_
    refine V.aload_n C 0 rfl rfl dX10_readRange_123 ?_
    refine V.cVi C lX10_85 oX10_isFine dX10_readRange_124 (ct_M_fine G σ1) (by assumption) rfl rfl (Nat.le_of_ble_eq_true rfl) ⟨Nat.le_of_ble_eq_true rfl, Nat.le_of_ble_eq_true rfl⟩ ⟨Nat.le_of_ble_eq_true rfl, Nat.le_of_ble_eq_true rfl⟩ (fun rr_124 σ124 pp_124 => ?_)
    obtain ⟨ee_124, ff_124⟩ := pp_124
    rw [ee_124, ff_124]
    refine V.if_eq C 156 dX10_readRange_127 rfl (fun hb_127 => ?_) (fun hb_127 => ?_)
    · exact V.vretS C R dX10_readRange_156 ⟨Or.inr ⟨e, he, hE⟩, hF1⟩
    · exact absurd (bI_ne0 hb_127) (by rw [decide_eq_false hE.ne]; decide)
  have e109 : ∀ (e : Nat) (σ1 : SS) (x1 x2 x3 : Int32), pPart ch n w a pt = .error e → Er σ1 e → FM [9, 10, 11, 12, 13, 15] [130] σ σ1 → V G X 5 0 0 109 [(0, Rf G 123), (1, .int x1), (2, .int x2), (3, .int x3)] [] (wld G σ1) := by
    intro e σ1 x1 x2 x3 he hE hF1
    refine V.aload_n C 0 rfl rfl dX10_readRange_109 ?_
    refine V.aload_n C 0 rfl rfl dX10_readRange_110 ?_
    refine V.bipush C (nI 93) b_93 dX10_readRange_111 ?_
    refine V.cVi C lX10_105 oX10_isSign dX10_readRange_113 (ct_M_sign G σ1 _) (by assumption) rfl rfl (Nat.le_of_ble_eq_true rfl) ⟨Nat.le_of_ble_eq_true rfl, Nat.le_of_ble_eq_true rfl⟩ ⟨Nat.le_of_ble_eq_true rfl, Nat.le_of_ble_eq_true rfl⟩ (fun rr_113 σ113 pp_113 => ?_)
    obtain ⟨ee_113, ff_113⟩ := pp_113
    rw [ee_113, ff_113]
    refine V.cVi C lX10_92 oX10_take dX10_readRange_116 (ct_M_takeE G σ1 _ hE.ne) (by assumption) rfl rfl (Nat.le_of_ble_eq_true rfl) ⟨Nat.le_of_ble_eq_true rfl, Nat.le_of_ble_eq_true rfl⟩ ⟨Nat.le_of_ble_eq_true rfl, Nat.le_of_ble_eq_true rfl⟩ (fun rr_116 σ116 pp_116 => ?_)
    rw [pp_116]
    refine V.pop C rfl dX10_readRange_119 ?_
    refine V.iload_n C 2 rfl rfl dX10_readRange_120 ?_
    refine V.istore C dX10_readRange_121 (by decide) ?_
    refine V.aload_n C 0 rfl rfl dX10_readRange_123 ?_
    refine V.cVi C lX10_85 oX10_isFine dX10_readRange_124 (ct_M_fine G σ1) (by assumption) rfl rfl (Nat.le_of_ble_eq_true rfl) ⟨Nat.le_of_ble_eq_true rfl, Nat.le_of_ble_eq_true rfl⟩ ⟨Nat.le_of_ble_eq_true rfl, Nat.le_of_ble_eq_true rfl⟩ (fun rr_124 σ124 pp_124 => ?_)
    obtain ⟨ee_124, ff_124⟩ := pp_124
    rw [ee_124, ff_124]
    refine V.if_eq C 156 dX10_readRange_127 rfl (fun hb_127 => ?_) (fun hb_127 => ?_)
    · exact V.vretS C R dX10_readRange_156 ⟨Or.inr ⟨e, he, hE⟩, hF1⟩
    · exact absurd (bI_ne0 hb_127) (by rw [decide_eq_false hE.ne]; decide)
  have e120 : ∀ (e : Nat) (σ1 : SS) (x1 x2 x3 : Int32), pPart ch n w a pt = .error e → Er σ1 e → FM [9, 10, 11, 12, 13, 15] [130] σ σ1 → V G X 5 0 0 120 [(0, Rf G 123), (1, .int x1), (2, .int x2), (3, .int x3)] [] (wld G σ1) := by
    intro e σ1 x1 x2 x3 he hE hF1
    refine V.iload_n C 2 rfl rfl dX10_readRange_120 ?_
    refine V.istore C dX10_readRange_121 (by decide) ?_
    refine V.aload_n C 0 rfl rfl dX10_readRange_123 ?_
    refine V.cVi C lX10_85 oX10_isFine dX10_readRange_124 (ct_M_fine G σ1) (by assumption) rfl rfl (Nat.le_of_ble_eq_true rfl) ⟨Nat.le_of_ble_eq_true rfl, Nat.le_of_ble_eq_true rfl⟩ ⟨Nat.le_of_ble_eq_true rfl, Nat.le_of_ble_eq_true rfl⟩ (fun rr_124 σ124 pp_124 => ?_)
    obtain ⟨ee_124, ff_124⟩ := pp_124
    rw [ee_124, ff_124]
    refine V.if_eq C 156 dX10_readRange_127 rfl (fun hb_127 => ?_) (fun hb_127 => ?_)
    · exact V.vretS C R dX10_readRange_156 ⟨Or.inr ⟨e, he, hE⟩, hF1⟩
    · exact absurd (bI_ne0 hb_127) (by rw [decide_eq_false hE.ne]; decide)
  have loop : ∀ (v h l b : Nat), v < 8 → h < 16 → l ≤ h → pPart ch n w a pt = .ok (rngB v pt h (h + 1 - l), b) → ∀ (mm k : Nat) (zs : List Nat) (σ2 : SS), k < mm → k ≤ h + 1 - l → zs ++ rngB v pt (l + k - 1) k = bs ++ rngB v pt h (h + 1 - l) → RMb σ2 zs → Ok σ2 n ch b → FM [9, 10, 11, 12, 13, 15] [130] σ σ2 → V G X 5 0 0 123 [(0, Rf G 123), (1, .int (nI v)), (2, .int (nI h)), (3, .int (nI l)), (4, .int (nI (l + k) - nI 1))] [] (wld G σ2) := by
    intro v h l b hv hh hl he m
    induction m with
    | zero =>
      intro k zs σ2 hm hk hz hRz hO2 hF2
      exact absurd hm (by omega)
    | succ m ih =>
      intro k zs σ2 hm hk hz hRz hO2 hF2
      refine V.aload_n C 0 rfl rfl dX10_readRange_123 ?_
      refine V.cVi C lX10_85 oX10_isFine dX10_readRange_124 (ct_M_fine G σ2) (by assumption) rfl rfl (Nat.le_of_ble_eq_true rfl) ⟨Nat.le_of_ble_eq_true rfl, Nat.le_of_ble_eq_true rfl⟩ ⟨Nat.le_of_ble_eq_true rfl, Nat.le_of_ble_eq_true rfl⟩ (fun rr_124 σ124 pp_124 => ?_)
      obtain ⟨ee_124, ff_124⟩ := pp_124
      rw [ee_124, ff_124]
      refine V.if_eq C 156 dX10_readRange_127 rfl (fun hb_127 => ?_) (fun hb_127 => ?_)
      · exact absurd (bI_eq0 hb_127) (by rw [decide_eq_true hO2.2.2]; decide)
      · refine V.iload C rfl dX10_readRange_130 ?_
        refine V.iload_n C 3 rfl rfl dX10_readRange_132 ?_
        refine V.icmp_lt C 156 dX10_readRange_133 rfl (fun hb_133 => ?_) (fun hb_133 => ?_)
        · have zk_ : k = 0 := by
            rcases Nat.eq_zero_or_pos k with q | q
            · exact q
            · rw [nI_sub (by omega)] at hb_133; have := (nI_ltI (by omega) (by omega)).mp hb_133; omega
          exact V.vretS C R dX10_readRange_156 (by
            subst zk_
            have he_ : zs = bs ++ rngB v pt h (h + 1 - l) := by rw [← hz]; simp [rngB]
            exact ⟨Or.inl ⟨_, _, he, hO2, by rw [← he_]; exact hRz⟩, hF2⟩)
        · have zk_ : 0 < k := by
            rcases Nat.eq_zero_or_pos k with q | q
            · exact absurd (by rw [q, Nat.add_zero]; exact nI_pred_lt (by omega)) hb_133
            · exact q
          obtain ⟨k1, rfl⟩ : ∃ k1, k = k1 + 1 := ⟨k - 1, by omega⟩
          have hlz_ : zs.length + (k1 + 1) = bs.length + (h + 1 - l) := by
            have := congrArg List.length hz
            rw [List.length_append, List.length_append, rngB_len, rngB_len] at this; exact this
          refine V.aload_n C 0 rfl rfl dX10_readRange_136 ?_
          refine V.bipush C (nI 16) b_16 dX10_readRange_137 ?_
          refine V.bipush C (nI 16) b_16 dX10_readRange_139 ?_
          refine V.iload_n C 1 rfl rfl dX10_readRange_141 ?_
          refine V.imul C dX10_readRange_142 ?_
          refine V.iadd C dX10_readRange_143 ?_
          refine V.iload C rfl dX10_readRange_144 ?_
          refine V.iadd C dX10_readRange_146 ?_
          rw [nI_mul, nI_add, show nI (l + (k1 + 1)) - nI 1 = nI (l + k1) by rw [nI_sub (by omega)]; congr 1, nI_add]
          refine V.cVv C lX10_112 oX10_addBit dX10_readRange_147 (ct_M_addBit G σ2 zs (16 + 16 * v + (l + k1)) pt hRz (by omega) (by rw [hF2.f (by decide)]; exact hpt)) (by assumption) rfl rfl (Nat.le_of_ble_eq_true rfl) ⟨Nat.le_of_ble_eq_true rfl, Nat.le_of_ble_eq_true rfl⟩ ⟨Nat.le_of_ble_eq_true rfl, Nat.le_of_ble_eq_true rfl⟩ (fun σ147 pp_147 => ?_)
          refine V.iinc C (nI (l + k1) - nI 1) dX10_readRange_150 rfl (i_dec _) (by decide) ?_
          refine V.goto C 123 dX10_readRange_153 rfl ?_
          refine V.lvs (lv' := [(0, Rf G 123), (1, .int (nI v)), (2, .int (nI h)), (3, .int (nI l)), (4, .int (nI (l + k1) - nI 1))]) rfl ?_
          refine ih k1 (zs ++ [16 + 16 * v + (l + k1) + 256 * pt]) σ147 (by omega) (by omega) ?_ pp_147.1 (hO2.fm pp_147.2 (by decide) (by decide)) (hF2.trans (pp_147.2.mono (by decide) (by decide)))
          rw [← hz, List.append_assoc]
          show zs ++ ((16 + 16 * v + (l + k1) + 256 * pt) :: rngB v pt (l + k1 - 1) k1) = zs ++ rngB v pt (l + (k1 + 1) - 1) (k1 + 1)
          rw [show l + (k1 + 1) - 1 = l + k1 by omega]; rfl
  refine V.aload_n C 0 rfl rfl dX10_readRange_0 ?_
  refine V.aload_n C 0 rfl rfl dX10_readRange_1 ?_
  refine V.getR C fX10_13 dX10_readRange_2 (by assumption) rfl ?_
  refine V.aload_n C 0 rfl rfl dX10_readRange_5 ?_
  refine V.cVi C lX10_102 oX10_isName dX10_readRange_6 (ct_M_name G σ) (by assumption) rfl rfl (Nat.le_of_ble_eq_true rfl) ⟨Nat.le_of_ble_eq_true rfl, Nat.le_of_ble_eq_true rfl⟩ ⟨Nat.le_of_ble_eq_true rfl, Nat.le_of_ble_eq_true rfl⟩ (fun rr_6 σ6 pp_6 => ?_)
  obtain ⟨ee_6, ff_6⟩ := pp_6
  rw [ee_6, ff_6, hO.nm]
  refine V.if_eq C 19 dX10_readRange_9 rfl (fun hb_9 => ?_) (fun hb_9 => ?_)
  · have z9_ : ¬ kKT ch n a = 258 := of_decide_eq_false (bI_eq0 hb_9)
    refine V.iconst C (nI 0) c_0 dX10_readRange_19 ?_
    refine V.ialdN C dX10_readRange_20 (by assumption) (by omega) ?_
    refine V.if_le C 35 dX10_readRange_21 rfl (fun hb_21 => ?_) (fun hb_21 => ?_)
    · skip
      refine V.iconst C (nI 0) c_0 dX10_readRange_35 ?_
      show V G X 5 0 0 36 _ [.int (bI false), Rf G 123] (wld G σ)
      refine V.cVi C lX10_92 oX10_take dX10_readRange_36 (ct_M_take G σ n ch a false hO (fun q => absurd q (by decide))) (by assumption) rfl rfl (Nat.le_of_ble_eq_true rfl) ⟨Nat.le_of_ble_eq_true rfl, Nat.le_of_ble_eq_true rfl⟩ ⟨Nat.le_of_ble_eq_true rfl, Nat.le_of_ble_eq_true rfl⟩ (fun rr_36 σ36 pp_36 => ?_)
      refine V.istore_n C 1 dX10_readRange_39 rfl (by decide) ?_
      refine V.lvs (lv' := [(0, Rf G 123), (1, .int rr_36)]) rfl ?_
      exact e40 a σ36 rr_36 (pp_no hn37 (fun q => z9_ q.1)) (pp_36.2.2.1 rfl) (pp_36.2.2.2.mono (by decide) (by decide))
    · skip
      refine V.aload_n C 0 rfl rfl dX10_readRange_24 ?_
      refine V.cVi C lX10_102 oX10_isName dX10_readRange_25 (ct_M_name G σ) (by assumption) rfl rfl (Nat.le_of_ble_eq_true rfl) ⟨Nat.le_of_ble_eq_true rfl, Nat.le_of_ble_eq_true rfl⟩ ⟨Nat.le_of_ble_eq_true rfl, Nat.le_of_ble_eq_true rfl⟩ (fun rr_25 σ25 pp_25 => ?_)
      obtain ⟨ee_25, ff_25⟩ := pp_25
      rw [ee_25, ff_25, hO.nm]
      refine V.if_eq C 35 dX10_readRange_28 rfl (fun hb_28 => ?_) (fun hb_28 => ?_)
      · refine V.iconst C (nI 0) c_0 dX10_readRange_35 ?_
        show V G X 5 0 0 36 _ [.int (bI false), Rf G 123] (wld G σ)
        refine V.cVi C lX10_92 oX10_take dX10_readRange_36 (ct_M_take G σ n ch a false hO (fun q => absurd q (by decide))) (by assumption) rfl rfl (Nat.le_of_ble_eq_true rfl) ⟨Nat.le_of_ble_eq_true rfl, Nat.le_of_ble_eq_true rfl⟩ ⟨Nat.le_of_ble_eq_true rfl, Nat.le_of_ble_eq_true rfl⟩ (fun rr_36 σ36 pp_36 => ?_)
        refine V.istore_n C 1 dX10_readRange_39 rfl (by decide) ?_
        refine V.lvs (lv' := [(0, Rf G 123), (1, .int rr_36)]) rfl ?_
        exact e40 a σ36 rr_36 (pp_no hn37 (fun q => z9_ q.1)) (pp_36.2.2.1 rfl) (pp_36.2.2.2.mono (by decide) (by decide))
      · exact absurd (of_decide_eq_true (bI_ne0 hb_28)) z9_
  · have z9_ : kKT ch n a = 258 := of_decide_eq_true (bI_ne0 hb_9)
    obtain ⟨lt_, c97_, c105_⟩ := name_lt hO.ch z9_
    obtain ⟨v, hv_⟩ : ∃ v, ch a - 97 = v := ⟨_, rfl⟩
    have v8 : v < 8 := by omega
    have w16_ := (hw v v8).2
    have val_ : valM ch n a = nI v := by unfold valM; rw [z9_, hv_]; rfl
    refine V.aload_n C 0 rfl rfl dX10_readRange_12 ?_
    refine V.getI C fX10_68 dX10_readRange_13 (by assumption) rfl ?_
    rw [hO.2.1.2.2.2.2, val_]
    refine V.goto C 20 dX10_readRange_16 rfl ?_
    refine V.ialdN C dX10_readRange_20 (by assumption) (by omega) ?_
    refine V.if_le C 35 dX10_readRange_21 rfl (fun hb_21 => ?_) (fun hb_21 => ?_)
    · skip
      have w0_ : w v = 0 := by
        rw [(hw v v8).1] at hb_21
        have := (nI_leI (by omega) (by decide)).mp (show nI (w v) ≤ nI 0 from hb_21)
        omega
      refine V.iconst C (nI 0) c_0 dX10_readRange_35 ?_
      show V G X 5 0 0 36 _ [.int (bI false), Rf G 123] (wld G σ)
      refine V.cVi C lX10_92 oX10_take dX10_readRange_36 (ct_M_take G σ n ch a false hO (fun q => absurd q (by decide))) (by assumption) rfl rfl (Nat.le_of_ble_eq_true rfl) ⟨Nat.le_of_ble_eq_true rfl, Nat.le_of_ble_eq_true rfl⟩ ⟨Nat.le_of_ble_eq_true rfl, Nat.le_of_ble_eq_true rfl⟩ (fun rr_36 σ36 pp_36 => ?_)
      refine V.istore_n C 1 dX10_readRange_39 rfl (by decide) ?_
      refine V.lvs (lv' := [(0, Rf G 123), (1, .int rr_36)]) rfl ?_
      exact e40 a σ36 rr_36 (pp_no hn37 (fun q => q.2 (by rw [hv_]; exact w0_))) (pp_36.2.2.1 rfl) (pp_36.2.2.2.mono (by decide) (by decide))
    · skip
      refine V.aload_n C 0 rfl rfl dX10_readRange_24 ?_
      refine V.cVi C lX10_102 oX10_isName dX10_readRange_25 (ct_M_name G σ) (by assumption) rfl rfl (Nat.le_of_ble_eq_true rfl) ⟨Nat.le_of_ble_eq_true rfl, Nat.le_of_ble_eq_true rfl⟩ ⟨Nat.le_of_ble_eq_true rfl, Nat.le_of_ble_eq_true rfl⟩ (fun rr_25 σ25 pp_25 => ?_)
      obtain ⟨ee_25, ff_25⟩ := pp_25
      rw [ee_25, ff_25, hO.nm]
      refine V.if_eq C 35 dX10_readRange_28 rfl (fun hb_28 => ?_) (fun hb_28 => ?_)
      · exact absurd z9_ (of_decide_eq_false (bI_eq0 hb_28))
      · have w0_ : ¬ w v = 0 := fun q => hb_21 (by rw [(hw v v8).1, q]; decide)
        have w0c_ : ¬ w (ch a - 97) = 0 := by rw [hv_]; exact w0_
        refine V.iconst C (nI 1) c_1 dX10_readRange_31 ?_
        refine V.goto C 36 dX10_readRange_32 rfl ?_
        show V G X 5 0 0 36 _ [.int (bI true), Rf G 123] (wld G σ)
        refine V.cVi C lX10_92 oX10_take dX10_readRange_36 (ct_M_take G σ n ch a true hO (fun _ => lt_)) (by assumption) rfl rfl (Nat.le_of_ble_eq_true rfl) ⟨Nat.le_of_ble_eq_true rfl, Nat.le_of_ble_eq_true rfl⟩ ⟨Nat.le_of_ble_eq_true rfl, Nat.le_of_ble_eq_true rfl⟩ (fun rr_36 σ36 pp_36 => ?_)
        obtain ⟨ee_36, y_36, _, f_36⟩ := pp_36
        rw [ee_36, val_]
        have o36_ := y_36 rfl
        have R36 := hR.fm f_36 (by decide) (by decide)
        refine V.istore_n C 1 dX10_readRange_39 rfl (by decide) ?_
        refine V.aload_n C 0 rfl rfl dX10_readRange_40 ?_
        refine V.cVi C lX10_85 oX10_isFine dX10_readRange_41 (ct_M_fine G σ36) (by assumption) rfl rfl (Nat.le_of_ble_eq_true rfl) ⟨Nat.le_of_ble_eq_true rfl, Nat.le_of_ble_eq_true rfl⟩ ⟨Nat.le_of_ble_eq_true rfl, Nat.le_of_ble_eq_true rfl⟩ (fun rr_41 σ41 pp_41 => ?_)
        obtain ⟨ee_41, ff_41⟩ := pp_41
        rw [ee_41, ff_41]
        refine V.if_eq C 58 dX10_readRange_44 rfl (fun hb_44 => ?_) (fun hb_44 => ?_)
        · exact absurd (bI_eq0 hb_44) (by rw [decide_eq_true o36_.2.2]; decide)
        · refine V.aload_n C 0 rfl rfl dX10_readRange_47 ?_
          refine V.getR C fX10_13 dX10_readRange_48 (by assumption) rfl ?_
          refine V.iload_n C 1 rfl rfl dX10_readRange_51 ?_
          refine V.ialdN C dX10_readRange_52 (by assumption) (by omega) ?_
          rw [f_36.a (by decide), (hw v v8).1]
          refine V.iconst C (nI 1) c_1 dX10_readRange_53 ?_
          refine V.isub C dX10_readRange_54 ?_
          rw [nI_sub (by omega)]
          refine V.goto C 59 dX10_readRange_55 rfl ?_
          refine V.istore_n C 2 dX10_readRange_59 rfl (by decide) ?_
          refine V.iconst C (nI 0) c_0 dX10_readRange_60 ?_
          refine V.istore_n C 3 dX10_readRange_61 rfl (by decide) ?_
          refine V.aload_n C 0 rfl rfl dX10_readRange_62 ?_
          refine V.cVi C lX10_85 oX10_isFine dX10_readRange_63 (ct_M_fine G σ36) (by assumption) rfl rfl (Nat.le_of_ble_eq_true rfl) ⟨Nat.le_of_ble_eq_true rfl, Nat.le_of_ble_eq_true rfl⟩ ⟨Nat.le_of_ble_eq_true rfl, Nat.le_of_ble_eq_true rfl⟩ (fun rr_63 σ63 pp_63 => ?_)
          obtain ⟨ee_63, ff_63⟩ := pp_63
          rw [ee_63, ff_63]
          refine V.if_eq C 120 dX10_readRange_66 rfl (fun hb_66 => ?_) (fun hb_66 => ?_)
          · exact absurd (bI_eq0 hb_66) (by rw [decide_eq_true o36_.2.2]; decide)
          · refine V.aload_n C 0 rfl rfl dX10_readRange_69 ?_
            refine V.bipush C (nI 91) b_91 dX10_readRange_70 ?_
            refine V.cVi C lX10_105 oX10_isSign dX10_readRange_72 (ct_M_sign G σ36 (nI 91)) (by assumption) rfl rfl (Nat.le_of_ble_eq_true rfl) ⟨Nat.le_of_ble_eq_true rfl, Nat.le_of_ble_eq_true rfl⟩ ⟨Nat.le_of_ble_eq_true rfl, Nat.le_of_ble_eq_true rfl⟩ (fun rr_72 σ72 pp_72 => ?_)
            obtain ⟨ee_72, ff_72⟩ := pp_72
            rw [ee_72, ff_72, o36_.sg (by decide)]
            refine V.if_eq C 120 dX10_readRange_75 rfl (fun hb_75 => ?_) (fun hb_75 => ?_)
            · have z75_ : ¬ kKT ch n (nxT ch n a) = 91 := of_decide_eq_false (bI_eq0 hb_75)
              refine V.iload_n C 2 rfl rfl dX10_readRange_120 ?_
              refine V.istore C dX10_readRange_121 (by decide) ?_
              refine V.lvs (lv' := [(0, Rf G 123), (1, .int (nI v)), (2, .int (nI (w v - 1))), (3, .int (nI 0)), (4, .int (nI (0 + ((w v - 1) + 1 - 0)) - nI 1))]) (by rw [show nI (0 + ((w v - 1) + 1 - 0)) - nI 1 = nI (w v - 1) by rw [nI_sub (by omega)]; congr 1; omega]; rfl) ?_
              exact loop v (w v - 1) 0 _ v8 (by omega) (by omega) (by rw [pp_all hn37 z9_ w0c_ z75_, hv_]) ((w v - 1) + 1 - 0 + 1) ((w v - 1) + 1 - 0) bs σ36 (by omega) (Nat.le_refl _) (by rw [show 0 + ((w v - 1) + 1 - 0) - 1 = (w v - 1) by omega]) R36 o36_ (f_36.mono (by decide) (by decide))
            · have z75_ : kKT ch n (nxT ch n a) = 91 := of_decide_eq_true (bI_ne0 hb_75)
              have lt91_ := kKT_lt (ch := ch) (n := n) (a := nxT ch n a) (by rw [z75_]; decide)
              refine V.aload_n C 0 rfl rfl dX10_readRange_78 ?_
              refine V.iconst C (nI 1) c_1 dX10_readRange_79 ?_
              show V G X 5 0 0 80 _ [.int (bI true), Rf G 123] (wld G σ36)
              refine V.cVi C lX10_92 oX10_take dX10_readRange_80 (ct_M_take G σ36 n ch _ true o36_ (fun _ => lt91_)) (by assumption) rfl rfl (Nat.le_of_ble_eq_true rfl) ⟨Nat.le_of_ble_eq_true rfl, Nat.le_of_ble_eq_true rfl⟩ ⟨Nat.le_of_ble_eq_true rfl, Nat.le_of_ble_eq_true rfl⟩ (fun rr_80 σ80 pp_80 => ?_)
              have o80_ := pp_80.2.1 rfl
              have F80_ : FM [9, 10, 11, 12, 13] [] σ σ80 := f_36.trans pp_80.2.2.2
              refine V.pop C rfl dX10_readRange_83 ?_
              refine V.aload_n C 0 rfl rfl dX10_readRange_84 ?_
              refine V.iconst C (nI 0) c_0 dX10_readRange_85 ?_
              refine V.iload_n C 2 rfl rfl dX10_readRange_86 ?_
              refine V.cVi C lX10_108 oX10_number dX10_readRange_87 (ct_M_number G σ80 n ch _ 0 (w v - 1) o80_ (by decide) (by omega)) (by assumption) rfl rfl (Nat.le_of_ble_eq_true rfl) ⟨Nat.le_of_ble_eq_true rfl, Nat.le_of_ble_eq_true rfl⟩ ⟨Nat.le_of_ble_eq_true rfl, Nat.le_of_ble_eq_true rfl⟩ (fun rr_87 σ87 pp_87 => ?_)
              refine V.istore_n C 2 dX10_readRange_90 rfl (by decide) ?_
              have F87_ := F80_.trans pp_87.2.2.2
              refine Or.elim (b_tf (numB ch n (nxT ch n (nxT ch n a)) 0 (w v - 1))) (fun hB_ => ?_) (fun hB_ => ?_)
              · refine V.lvs (lv' := [(0, Rf G 123), (1, .int (nI v)), (2, .int rr_87), (3, .int (nI 0))]) rfl ?_
                exact e91 _ σ87 _ _ _ (pp_rng hn37 z9_ w0c_ z75_ (by rw [hv_]; exact pr_e1 hB_)) (pp_87.2.2.1 hB_) (F87_.mono (by decide) (by decide))
              obtain ⟨x, hx_, _, xh_, lt87_, val87_⟩ := numB_t hB_
              rw [pp_87.1, val87_]
              have o87_ := pp_87.2.1 hB_
              refine V.aload_n C 0 rfl rfl dX10_readRange_91 ?_
              refine V.aload_n C 0 rfl rfl dX10_readRange_92 ?_
              refine V.bipush C (nI 58) b_58 dX10_readRange_93 ?_
              refine V.cVi C lX10_105 oX10_isSign dX10_readRange_95 (ct_M_sign G σ87 (nI 58)) (by assumption) rfl rfl (Nat.le_of_ble_eq_true rfl) ⟨Nat.le_of_ble_eq_true rfl, Nat.le_of_ble_eq_true rfl⟩ ⟨Nat.le_of_ble_eq_true rfl, Nat.le_of_ble_eq_true rfl⟩ (fun rr_95 σ95 pp_95 => ?_)
              obtain ⟨ee_95, ff_95⟩ := pp_95
              rw [ee_95, ff_95, o87_.sg (by decide)]
              refine V.cVi C lX10_92 oX10_take dX10_readRange_98 (ct_M_take G σ87 n ch _ (decide (kKT ch n (nxT ch n (nxT ch n (nxT ch n a))) = 58)) o87_ (fun q => kKT_lt (ch := ch) (by rw [of_decide_eq_true q]; decide))) (by assumption) rfl rfl (Nat.le_of_ble_eq_true rfl) ⟨Nat.le_of_ble_eq_true rfl, Nat.le_of_ble_eq_true rfl⟩ ⟨Nat.le_of_ble_eq_true rfl, Nat.le_of_ble_eq_true rfl⟩ (fun rr_98 σ98 pp_98 => ?_)
              refine V.pop C rfl dX10_readRange_101 ?_
              have F98_ := F87_.trans pp_98.2.2.2
              refine Or.elim (b_tf (decide (kKT ch n (nxT ch n (nxT ch n (nxT ch n a))) = 58))) (fun hB_ => ?_) (fun hB_ => ?_)
              · refine V.lvs (lv' := [(0, Rf G 123), (1, .int (nI v)), (2, .int (nI x)), (3, .int (nI 0))]) rfl ?_
                exact e102 _ σ98 _ _ _ (pp_rng hn37 z9_ w0c_ z75_ (by rw [hv_]; exact pr_e2 hx_ xh_ (of_decide_eq_false hB_))) (pp_98.2.2.1 hB_) (F98_.mono (by decide) (by decide))
              have k58_ := of_decide_eq_true hB_
              have o98_ := pp_98.2.1 hB_
              refine V.aload_n C 0 rfl rfl dX10_readRange_102 ?_
              refine V.iconst C (nI 0) c_0 dX10_readRange_103 ?_
              refine V.iload_n C 2 rfl rfl dX10_readRange_104 ?_
              refine V.cVi C lX10_108 oX10_number dX10_readRange_105 (ct_M_number G σ98 n ch _ 0 x o98_ (by decide) (by omega)) (by assumption) rfl rfl (Nat.le_of_ble_eq_true rfl) ⟨Nat.le_of_ble_eq_true rfl, Nat.le_of_ble_eq_true rfl⟩ ⟨Nat.le_of_ble_eq_true rfl, Nat.le_of_ble_eq_true rfl⟩ (fun rr_105 σ105 pp_105 => ?_)
              refine V.istore_n C 3 dX10_readRange_108 rfl (by decide) ?_
              have F105_ := F98_.trans pp_105.2.2.2
              refine Or.elim (b_tf (numB ch n (nxT ch n (nxT ch n (nxT ch n (nxT ch n a)))) 0 x)) (fun hB_ => ?_) (fun hB_ => ?_)
              · refine V.lvs (lv' := [(0, Rf G 123), (1, .int (nI v)), (2, .int (nI x)), (3, .int rr_105)]) rfl ?_
                exact e109 _ σ105 _ _ _ (pp_rng hn37 z9_ w0c_ z75_ (by rw [hv_]; exact pr_e3 hx_ xh_ k58_ hB_)) (pp_105.2.2.1 hB_) (F105_.mono (by decide) (by decide))
              obtain ⟨y, hy_, _, yx_, lt105_, val105_⟩ := numB_t hB_
              rw [pp_105.1, val105_]
              have o105_ := pp_105.2.1 hB_
              refine V.aload_n C 0 rfl rfl dX10_readRange_109 ?_
              refine V.aload_n C 0 rfl rfl dX10_readRange_110 ?_
              refine V.bipush C (nI 93) b_93 dX10_readRange_111 ?_
              refine V.cVi C lX10_105 oX10_isSign dX10_readRange_113 (ct_M_sign G σ105 (nI 93)) (by assumption) rfl rfl (Nat.le_of_ble_eq_true rfl) ⟨Nat.le_of_ble_eq_true rfl, Nat.le_of_ble_eq_true rfl⟩ ⟨Nat.le_of_ble_eq_true rfl, Nat.le_of_ble_eq_true rfl⟩ (fun rr_113 σ113 pp_113 => ?_)
              obtain ⟨ee_113, ff_113⟩ := pp_113
              rw [ee_113, ff_113, o105_.sg (by decide)]
              refine V.cVi C lX10_92 oX10_take dX10_readRange_116 (ct_M_take G σ105 n ch _ (decide (kKT ch n (nxT ch n (nxT ch n (nxT ch n (nxT ch n (nxT ch n a))))) = 93)) o105_ (fun q => kKT_lt (ch := ch) (by rw [of_decide_eq_true q]; decide))) (by assumption) rfl rfl (Nat.le_of_ble_eq_true rfl) ⟨Nat.le_of_ble_eq_true rfl, Nat.le_of_ble_eq_true rfl⟩ ⟨Nat.le_of_ble_eq_true rfl, Nat.le_of_ble_eq_true rfl⟩ (fun rr_116 σ116 pp_116 => ?_)
              refine V.pop C rfl dX10_readRange_119 ?_
              have F116_ := F105_.trans pp_116.2.2.2
              refine Or.elim (b_tf (decide (kKT ch n (nxT ch n (nxT ch n (nxT ch n (nxT ch n (nxT ch n a))))) = 93))) (fun hB_ => ?_) (fun hB_ => ?_)
              · refine V.lvs (lv' := [(0, Rf G 123), (1, .int (nI v)), (2, .int (nI x)), (3, .int (nI y))]) rfl ?_
                exact e120 _ σ116 _ _ _ (pp_rng hn37 z9_ w0c_ z75_ (by rw [hv_]; exact pr_e4 hx_ xh_ k58_ hy_ yx_ (of_decide_eq_false hB_))) (pp_116.2.2.1 hB_) (F116_.mono (by decide) (by decide))
              have k93_ := of_decide_eq_true hB_
              have o116_ := pp_116.2.1 hB_
              have R116 := hR.fm F116_ (by decide) (by decide)
              refine V.iload_n C 2 rfl rfl dX10_readRange_120 ?_
              refine V.istore C dX10_readRange_121 (by decide) ?_
              refine V.lvs (lv' := [(0, Rf G 123), (1, .int (nI v)), (2, .int (nI x)), (3, .int (nI y)), (4, .int (nI (y + (x + 1 - y)) - nI 1))]) (by rw [show nI (y + (x + 1 - y)) - nI 1 = nI x by rw [nI_sub (by omega)]; congr 1; omega]; rfl) ?_
              exact loop v x y _ v8 (by omega) (by omega) (by rw [pp_rngo hn37 z9_ w0c_ z75_ (by rw [hv_]; exact pr_ok hx_ xh_ k58_ hy_ yx_ k93_), hv_]) (x + 1 - y + 1) (x + 1 - y) bs σ116 (by omega) (Nat.le_refl _) (by rw [show y + (x + 1 - y) - 1 = x by omega]) R116 o116_ (F116_.mono (by decide) (by decide))
