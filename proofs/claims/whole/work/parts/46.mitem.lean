/-! The model's readItem. -/
section
variable {ch : Nat → Nat} {n : Nat} {a : Nat}
theorem tok1 (hc : ∀ i, i < n → ch i < 256) (h : tokM ch n a = 1) : kKT ch n a = 258 ∨ kKT ch n a = 259 ∨ kKT ch n a = 260 := by
  rcases tok_cases hc a with q | q | q | q | q | q | ⟨q, qb⟩
  case inr.inr.inl => exact Or.inl q
  case inr.inr.inr.inl => exact Or.inr (Or.inl q)
  case inr.inr.inr.inr.inl => exact Or.inr (Or.inr q)
  case inr.inr.inr.inr.inr.inr =>
    obtain ⟨z1, z2, z3⟩ := kdT_sg (a := a) hc (by omega)
    rw [(sig_tok hc z1 z2 z3).2.2] at h
    split at h <;> exact absurd h (by decide)
  all_goals
    unfold tokM at h
    rw [q] at h
    revert h
    generalize isSg (ch a) = bb
    intro h
    exfalso
    revert bb; decide
theorem tv_258 (q : kKT ch n a = 258) : tokM ch n a = 1 ∧ valM ch n a = nI (ch a - 97) := ⟨by unfold tokM; rw [q]; rfl, by unfold valM; rw [q]; rfl⟩
theorem tv_259 (q : kKT ch n a = 259) : tokM ch n a = 1 ∧ valM ch n a = 8 := ⟨by unfold tokM; rw [q]; rfl, by unfold valM; rw [q]; rfl⟩
theorem tv_260 (q : kKT ch n a = 260) : tokM ch n a = 1 ∧ valM ch n a = 9 := ⟨by unfold tokM; rw [q]; rfl, by unfold valM; rw [q]; rfl⟩
theorem vt_8 (hc : ∀ i, i < n → ch i < 256) (h : tokM ch n a = 1) (h8 : valM ch n a = nI 8) : kKT ch n a = 259 := by
  rcases tok1 hc h with q | q | q
  · have nl := name_lt hc q
    rw [(tv_258 q).2] at h8
    have := nI_pe (by omega) (by decide) h8; omega
  · exact q
  · rw [(tv_260 q).2] at h8; exact absurd h8 (by decide)
theorem vt_9 (hc : ∀ i, i < n → ch i < 256) (h : tokM ch n a = 1) (h8 : valM ch n a = nI 9) : kKT ch n a = 260 := by
  rcases tok1 hc h with q | q | q
  · have nl := name_lt hc q
    rw [(tv_258 q).2] at h8
    have := nI_pe (by omega) (by decide) h8; omega
  · rw [(tv_259 q).2] at h8; exact absurd h8 (by decide)
  · exact q
theorem ps_no {w : Nat → Nat} (h1 : ¬ kKT ch n a = 37) (h2 : ¬ kKT ch n a = 258) : pStm ch n w a = .error a := by
  refine ps_e1 ?_
  unfold pTerm
  rw [pp_no h1 (fun q => h2 q.1)]
theorem pi_not {P : Prob} (h1 : ¬ kKT ch n a = 259) (h2 : kKT ch n a = 260) : (¬ P.2.2.length < 3 → pItem ch n P a = .error a) ∧ (P.2.2.length < 3 → (∀ e, pStm ch n P.1 (nxT ch n a) = .error e → pItem ch n P a = .error e) ∧ ∀ s b, pStm ch n P.1 (nxT ch n a) = .ok (s, b) → pItem ch n P a = .ok (addS true P s, b)) :=
  ⟨fun q => by unfold pItem; rw [if_neg h1, if_pos h2, if_neg q], fun q => ⟨fun e he => by unfold pItem; rw [if_neg h1, if_pos h2, if_pos q, he], fun s b he => by unfold pItem; rw [if_neg h1, if_pos h2, if_pos q, he]; rfl⟩⟩
theorem pi_eq {P : Prob} (h1 : ¬ kKT ch n a = 259) (h2 : ¬ kKT ch n a = 260) : (¬ P.2.1.length < 10 → pItem ch n P a = .error a) ∧ (P.2.1.length < 10 → (∀ e, pStm ch n P.1 a = .error e → pItem ch n P a = .error e) ∧ ∀ s b, pStm ch n P.1 a = .ok (s, b) → pItem ch n P a = .ok (addS false P s, b)) :=
  ⟨fun q => by unfold pItem; rw [if_neg h1, if_neg h2, if_neg q], fun q => ⟨fun e he => by unfold pItem; rw [if_neg h1, if_neg h2, if_pos q, he], fun s b he => by unfold pItem; rw [if_neg h1, if_neg h2, if_pos q, he]; rfl⟩⟩
theorem pi_no {P : Prob} (h1 : ¬ kKT ch n a = 259) (h2 : ¬ kKT ch n a = 260) (h3 : ¬ kKT ch n a = 37) (h4 : ¬ kKT ch n a = 258) : pItem ch n P a = .error a := by
  by_cases q : P.2.1.length < 10
  · exact ((pi_eq h1 h2).2 q).1 a (ps_no h3 h4)
  · exact (pi_eq h1 h2).1 q
end
set_option maxRecDepth 100000 in
set_option maxHeartbeats 4000000 in
theorem ct_M_item (G : Gl) (σ : SS) (n : Nat) (ch : Nat → Nat) (a : Nat) (P : Prob) (hO : Ok σ n ch a) (hP : FP (σ.2.1 125) P) (hwf : wfP P) : CV G mX10_readItem [Rf G 123] σ (fun σ1 => ((∃ P1 b, pItem ch n P a = .ok (P1, b) ∧ Ok σ1 n ch b ∧ FP (σ1.2.1 125) P1) ∨ (∃ e, pItem ch n P a = .error e ∧ Er σ1 e)) ∧ FM [9, 10, 11, 12, 13, 15, 16] [125, 130] σ σ1) := by
  refine Ctr.of oX10_readItem (Nat.le_of_ble_eq_true rfl) ?_
  intro X C R hnm hz0
  have C : Cx G X cX10_readItem 1 RX10 9 198 0 0 := C
  have R : Cr G X none 0 0 _ := R
  show V G X 1 0 0 0 [(0, Rf G 123)] [] (wld G σ)
  have kk_123 := sk_123
  have kk_124 := sk_124
  have kk_125 := sk_125
  have kk_129 := sk_129
  have kk_130 := sk_130
  have t24 : ¬ kKT ch n a = 259 → V G X 1 0 0 24 [(0, Rf G 123)] [] (wld G σ) := by
    intro n259_
    refine V.aload_n C 0 rfl rfl dX10_readItem_24 ?_
    refine V.getI C fX10_71 dX10_readItem_25 (by assumption) rfl ?_
    rw [hO.2.1.2.2.2.1]
    refine V.iconst C (nI 1) c_1 dX10_readItem_28 ?_
    refine V.icmp_ne C 77 dX10_readItem_29 rfl (fun hb_29 => ?_) (fun hb_29 => ?_)
    · have n260_ : ¬ kKT ch n a = 260 := fun q => hb_29 (tv_260 q).1
      refine V.aload_n C 0 rfl rfl dX10_readItem_77 ?_
      refine V.cVi C lX10_102 oX10_isName dX10_readItem_78 (ct_M_name G σ) (by assumption) rfl rfl (Nat.le_of_ble_eq_true rfl) ⟨Nat.le_of_ble_eq_true rfl, Nat.le_of_ble_eq_true rfl⟩ ⟨Nat.le_of_ble_eq_true rfl, Nat.le_of_ble_eq_true rfl⟩ (fun rr_78 σ78 pp_78 => ?_)
      obtain ⟨ee_78, ff_78⟩ := pp_78
      rw [ee_78, ff_78, hO.nm]
      refine V.if_ne C 93 dX10_readItem_81 rfl (fun hb_81 => ?_) (fun hb_81 => ?_)
      · have l10_ := hwf.2.1
        refine V.aload_n C 0 rfl rfl dX10_readItem_93 ?_
        refine V.getR C fX10_13 dX10_readItem_94 (by assumption) rfl ?_
        refine V.bipush C (nI 8) b_8 dX10_readItem_97 ?_
        refine V.ialdN C dX10_readItem_99 (by assumption) (by omega) ?_
        rw [hP.2.1]
        refine V.bipush C (nI 10) b_10 dX10_readItem_100 ?_
        refine V.icmp_ge C 113 dX10_readItem_102 rfl (fun hb_102 => ?_) (fun hb_102 => ?_)
        · have er_ := (pi_eq (P := P) n259_ n260_).1 (fun q => absurd ((nI_leI (by decide) (by omega)).mp hb_102) (by omega))
          refine V.aload_n C 0 rfl rfl dX10_readItem_113 ?_
          refine V.iconst C (nI 0) c_0 dX10_readItem_114 ?_
          show V G X 1 0 0 115 _ [.int (bI false), Rf G 123] (wld G σ)
          refine V.cVi C lX10_92 oX10_take dX10_readItem_115 (ct_M_take G σ n ch a false hO (fun q => absurd q (by decide))) (by assumption) rfl rfl (Nat.le_of_ble_eq_true rfl) ⟨Nat.le_of_ble_eq_true rfl, Nat.le_of_ble_eq_true rfl⟩ ⟨Nat.le_of_ble_eq_true rfl, Nat.le_of_ble_eq_true rfl⟩ (fun rr_115 σ115 pp_115 => ?_)
          refine V.pop C rfl dX10_readItem_118 ?_
          exact V.vretS C R dX10_readItem_119 ⟨Or.inr ⟨a, er_, pp_115.2.2.1 rfl⟩, pp_115.2.2.2.mono (by decide) (by decide)⟩
        · have z102_ : P.2.1.length < 10 := Nat.lt_of_not_le (fun q => hb_102 (nI_le q (by omega)))
          refine V.aload_n C 0 rfl rfl dX10_readItem_105 ?_
          refine V.iconst C (nI 0) c_0 dX10_readItem_106 ?_
          show V G X 1 0 0 107 _ [.int (bI false), Rf G 123] (wld G σ)
          refine V.cVv C lX10_134 oX10_readStatement dX10_readItem_107 (ct_M_stm G σ n ch a P false hO hP hwf z102_) (by assumption) rfl rfl (Nat.le_of_ble_eq_true rfl) ⟨Nat.le_of_ble_eq_true rfl, Nat.le_of_ble_eq_true rfl⟩ ⟨Nat.le_of_ble_eq_true rfl, Nat.le_of_ble_eq_true rfl⟩ (fun σ107 pp_107 => ?_)
          refine V.goto C 119 dX10_readItem_110 rfl ?_
          exact V.vretS C R dX10_readItem_119 (by
            refine ⟨?_, pp_107.2⟩
            rcases pp_107.1 with ⟨s, b, h1, h2, h3⟩ | ⟨e, h1, h2⟩
            · exact Or.inl ⟨_, b, ((pi_eq n259_ n260_).2 z102_).2 s b h1, h2, h3⟩
            · exact Or.inr ⟨e, ((pi_eq n259_ n260_).2 z102_).1 e h1, h2⟩)
      · have n258_ : ¬ kKT ch n a = 258 := of_decide_eq_false (bI_eq0 hb_81)
        refine V.aload_n C 0 rfl rfl dX10_readItem_84 ?_
        refine V.bipush C (nI 37) b_37 dX10_readItem_85 ?_
        refine V.cVi C lX10_105 oX10_isSign dX10_readItem_87 (ct_M_sign G σ (nI 37)) (by assumption) rfl rfl (Nat.le_of_ble_eq_true rfl) ⟨Nat.le_of_ble_eq_true rfl, Nat.le_of_ble_eq_true rfl⟩ ⟨Nat.le_of_ble_eq_true rfl, Nat.le_of_ble_eq_true rfl⟩ (fun rr_87 σ87 pp_87 => ?_)
        obtain ⟨ee_87, ff_87⟩ := pp_87
        rw [ee_87, ff_87, hO.sg (by decide)]
        refine V.if_eq C 113 dX10_readItem_90 rfl (fun hb_90 => ?_) (fun hb_90 => ?_)
        · have n37_ : ¬ kKT ch n a = 37 := of_decide_eq_false (bI_eq0 hb_90)
          have er_ := pi_no (P := P) n259_ n260_ n37_ n258_
          refine V.aload_n C 0 rfl rfl dX10_readItem_113 ?_
          refine V.iconst C (nI 0) c_0 dX10_readItem_114 ?_
          show V G X 1 0 0 115 _ [.int (bI false), Rf G 123] (wld G σ)
          refine V.cVi C lX10_92 oX10_take dX10_readItem_115 (ct_M_take G σ n ch a false hO (fun q => absurd q (by decide))) (by assumption) rfl rfl (Nat.le_of_ble_eq_true rfl) ⟨Nat.le_of_ble_eq_true rfl, Nat.le_of_ble_eq_true rfl⟩ ⟨Nat.le_of_ble_eq_true rfl, Nat.le_of_ble_eq_true rfl⟩ (fun rr_115 σ115 pp_115 => ?_)
          refine V.pop C rfl dX10_readItem_118 ?_
          exact V.vretS C R dX10_readItem_119 ⟨Or.inr ⟨a, er_, pp_115.2.2.1 rfl⟩, pp_115.2.2.2.mono (by decide) (by decide)⟩
        · have l10_ := hwf.2.1
          refine V.aload_n C 0 rfl rfl dX10_readItem_93 ?_
          refine V.getR C fX10_13 dX10_readItem_94 (by assumption) rfl ?_
          refine V.bipush C (nI 8) b_8 dX10_readItem_97 ?_
          refine V.ialdN C dX10_readItem_99 (by assumption) (by omega) ?_
          rw [hP.2.1]
          refine V.bipush C (nI 10) b_10 dX10_readItem_100 ?_
          refine V.icmp_ge C 113 dX10_readItem_102 rfl (fun hb_102 => ?_) (fun hb_102 => ?_)
          · have er_ := (pi_eq (P := P) n259_ n260_).1 (fun q => absurd ((nI_leI (by decide) (by omega)).mp hb_102) (by omega))
            refine V.aload_n C 0 rfl rfl dX10_readItem_113 ?_
            refine V.iconst C (nI 0) c_0 dX10_readItem_114 ?_
            show V G X 1 0 0 115 _ [.int (bI false), Rf G 123] (wld G σ)
            refine V.cVi C lX10_92 oX10_take dX10_readItem_115 (ct_M_take G σ n ch a false hO (fun q => absurd q (by decide))) (by assumption) rfl rfl (Nat.le_of_ble_eq_true rfl) ⟨Nat.le_of_ble_eq_true rfl, Nat.le_of_ble_eq_true rfl⟩ ⟨Nat.le_of_ble_eq_true rfl, Nat.le_of_ble_eq_true rfl⟩ (fun rr_115 σ115 pp_115 => ?_)
            refine V.pop C rfl dX10_readItem_118 ?_
            exact V.vretS C R dX10_readItem_119 ⟨Or.inr ⟨a, er_, pp_115.2.2.1 rfl⟩, pp_115.2.2.2.mono (by decide) (by decide)⟩
          · have z102_ : P.2.1.length < 10 := Nat.lt_of_not_le (fun q => hb_102 (nI_le q (by omega)))
            refine V.aload_n C 0 rfl rfl dX10_readItem_105 ?_
            refine V.iconst C (nI 0) c_0 dX10_readItem_106 ?_
            show V G X 1 0 0 107 _ [.int (bI false), Rf G 123] (wld G σ)
            refine V.cVv C lX10_134 oX10_readStatement dX10_readItem_107 (ct_M_stm G σ n ch a P false hO hP hwf z102_) (by assumption) rfl rfl (Nat.le_of_ble_eq_true rfl) ⟨Nat.le_of_ble_eq_true rfl, Nat.le_of_ble_eq_true rfl⟩ ⟨Nat.le_of_ble_eq_true rfl, Nat.le_of_ble_eq_true rfl⟩ (fun σ107 pp_107 => ?_)
            refine V.goto C 119 dX10_readItem_110 rfl ?_
            exact V.vretS C R dX10_readItem_119 (by
              refine ⟨?_, pp_107.2⟩
              rcases pp_107.1 with ⟨s, b, h1, h2, h3⟩ | ⟨e, h1, h2⟩
              · exact Or.inl ⟨_, b, ((pi_eq n259_ n260_).2 z102_).2 s b h1, h2, h3⟩
              · exact Or.inr ⟨e, ((pi_eq n259_ n260_).2 z102_).1 e h1, h2⟩)
    · refine V.aload_n C 0 rfl rfl dX10_readItem_32 ?_
      refine V.getI C fX10_68 dX10_readItem_33 (by assumption) rfl ?_
      rw [hO.2.1.2.2.2.2]
      refine V.bipush C (nI 9) b_9 dX10_readItem_36 ?_
      refine V.icmp_ne C 77 dX10_readItem_38 rfl (fun hb_38 => ?_) (fun hb_38 => ?_)
      · have n260_ : ¬ kKT ch n a = 260 := fun q => hb_38 (tv_260 q).2
        refine V.aload_n C 0 rfl rfl dX10_readItem_77 ?_
        refine V.cVi C lX10_102 oX10_isName dX10_readItem_78 (ct_M_name G σ) (by assumption) rfl rfl (Nat.le_of_ble_eq_true rfl) ⟨Nat.le_of_ble_eq_true rfl, Nat.le_of_ble_eq_true rfl⟩ ⟨Nat.le_of_ble_eq_true rfl, Nat.le_of_ble_eq_true rfl⟩ (fun rr_78 σ78 pp_78 => ?_)
        obtain ⟨ee_78, ff_78⟩ := pp_78
        rw [ee_78, ff_78, hO.nm]
        refine V.if_ne C 93 dX10_readItem_81 rfl (fun hb_81 => ?_) (fun hb_81 => ?_)
        · have l10_ := hwf.2.1
          refine V.aload_n C 0 rfl rfl dX10_readItem_93 ?_
          refine V.getR C fX10_13 dX10_readItem_94 (by assumption) rfl ?_
          refine V.bipush C (nI 8) b_8 dX10_readItem_97 ?_
          refine V.ialdN C dX10_readItem_99 (by assumption) (by omega) ?_
          rw [hP.2.1]
          refine V.bipush C (nI 10) b_10 dX10_readItem_100 ?_
          refine V.icmp_ge C 113 dX10_readItem_102 rfl (fun hb_102 => ?_) (fun hb_102 => ?_)
          · have er_ := (pi_eq (P := P) n259_ n260_).1 (fun q => absurd ((nI_leI (by decide) (by omega)).mp hb_102) (by omega))
            refine V.aload_n C 0 rfl rfl dX10_readItem_113 ?_
            refine V.iconst C (nI 0) c_0 dX10_readItem_114 ?_
            show V G X 1 0 0 115 _ [.int (bI false), Rf G 123] (wld G σ)
            refine V.cVi C lX10_92 oX10_take dX10_readItem_115 (ct_M_take G σ n ch a false hO (fun q => absurd q (by decide))) (by assumption) rfl rfl (Nat.le_of_ble_eq_true rfl) ⟨Nat.le_of_ble_eq_true rfl, Nat.le_of_ble_eq_true rfl⟩ ⟨Nat.le_of_ble_eq_true rfl, Nat.le_of_ble_eq_true rfl⟩ (fun rr_115 σ115 pp_115 => ?_)
            refine V.pop C rfl dX10_readItem_118 ?_
            exact V.vretS C R dX10_readItem_119 ⟨Or.inr ⟨a, er_, pp_115.2.2.1 rfl⟩, pp_115.2.2.2.mono (by decide) (by decide)⟩
          · have z102_ : P.2.1.length < 10 := Nat.lt_of_not_le (fun q => hb_102 (nI_le q (by omega)))
            refine V.aload_n C 0 rfl rfl dX10_readItem_105 ?_
            refine V.iconst C (nI 0) c_0 dX10_readItem_106 ?_
            show V G X 1 0 0 107 _ [.int (bI false), Rf G 123] (wld G σ)
            refine V.cVv C lX10_134 oX10_readStatement dX10_readItem_107 (ct_M_stm G σ n ch a P false hO hP hwf z102_) (by assumption) rfl rfl (Nat.le_of_ble_eq_true rfl) ⟨Nat.le_of_ble_eq_true rfl, Nat.le_of_ble_eq_true rfl⟩ ⟨Nat.le_of_ble_eq_true rfl, Nat.le_of_ble_eq_true rfl⟩ (fun σ107 pp_107 => ?_)
            refine V.goto C 119 dX10_readItem_110 rfl ?_
            exact V.vretS C R dX10_readItem_119 (by
              refine ⟨?_, pp_107.2⟩
              rcases pp_107.1 with ⟨s, b, h1, h2, h3⟩ | ⟨e, h1, h2⟩
              · exact Or.inl ⟨_, b, ((pi_eq n259_ n260_).2 z102_).2 s b h1, h2, h3⟩
              · exact Or.inr ⟨e, ((pi_eq n259_ n260_).2 z102_).1 e h1, h2⟩)
        · have n258_ : ¬ kKT ch n a = 258 := of_decide_eq_false (bI_eq0 hb_81)
          refine V.aload_n C 0 rfl rfl dX10_readItem_84 ?_
          refine V.bipush C (nI 37) b_37 dX10_readItem_85 ?_
          refine V.cVi C lX10_105 oX10_isSign dX10_readItem_87 (ct_M_sign G σ (nI 37)) (by assumption) rfl rfl (Nat.le_of_ble_eq_true rfl) ⟨Nat.le_of_ble_eq_true rfl, Nat.le_of_ble_eq_true rfl⟩ ⟨Nat.le_of_ble_eq_true rfl, Nat.le_of_ble_eq_true rfl⟩ (fun rr_87 σ87 pp_87 => ?_)
          obtain ⟨ee_87, ff_87⟩ := pp_87
          rw [ee_87, ff_87, hO.sg (by decide)]
          refine V.if_eq C 113 dX10_readItem_90 rfl (fun hb_90 => ?_) (fun hb_90 => ?_)
          · have n37_ : ¬ kKT ch n a = 37 := of_decide_eq_false (bI_eq0 hb_90)
            have er_ := pi_no (P := P) n259_ n260_ n37_ n258_
            refine V.aload_n C 0 rfl rfl dX10_readItem_113 ?_
            refine V.iconst C (nI 0) c_0 dX10_readItem_114 ?_
            show V G X 1 0 0 115 _ [.int (bI false), Rf G 123] (wld G σ)
            refine V.cVi C lX10_92 oX10_take dX10_readItem_115 (ct_M_take G σ n ch a false hO (fun q => absurd q (by decide))) (by assumption) rfl rfl (Nat.le_of_ble_eq_true rfl) ⟨Nat.le_of_ble_eq_true rfl, Nat.le_of_ble_eq_true rfl⟩ ⟨Nat.le_of_ble_eq_true rfl, Nat.le_of_ble_eq_true rfl⟩ (fun rr_115 σ115 pp_115 => ?_)
            refine V.pop C rfl dX10_readItem_118 ?_
            exact V.vretS C R dX10_readItem_119 ⟨Or.inr ⟨a, er_, pp_115.2.2.1 rfl⟩, pp_115.2.2.2.mono (by decide) (by decide)⟩
          · have l10_ := hwf.2.1
            refine V.aload_n C 0 rfl rfl dX10_readItem_93 ?_
            refine V.getR C fX10_13 dX10_readItem_94 (by assumption) rfl ?_
            refine V.bipush C (nI 8) b_8 dX10_readItem_97 ?_
            refine V.ialdN C dX10_readItem_99 (by assumption) (by omega) ?_
            rw [hP.2.1]
            refine V.bipush C (nI 10) b_10 dX10_readItem_100 ?_
            refine V.icmp_ge C 113 dX10_readItem_102 rfl (fun hb_102 => ?_) (fun hb_102 => ?_)
            · have er_ := (pi_eq (P := P) n259_ n260_).1 (fun q => absurd ((nI_leI (by decide) (by omega)).mp hb_102) (by omega))
              refine V.aload_n C 0 rfl rfl dX10_readItem_113 ?_
              refine V.iconst C (nI 0) c_0 dX10_readItem_114 ?_
              show V G X 1 0 0 115 _ [.int (bI false), Rf G 123] (wld G σ)
              refine V.cVi C lX10_92 oX10_take dX10_readItem_115 (ct_M_take G σ n ch a false hO (fun q => absurd q (by decide))) (by assumption) rfl rfl (Nat.le_of_ble_eq_true rfl) ⟨Nat.le_of_ble_eq_true rfl, Nat.le_of_ble_eq_true rfl⟩ ⟨Nat.le_of_ble_eq_true rfl, Nat.le_of_ble_eq_true rfl⟩ (fun rr_115 σ115 pp_115 => ?_)
              refine V.pop C rfl dX10_readItem_118 ?_
              exact V.vretS C R dX10_readItem_119 ⟨Or.inr ⟨a, er_, pp_115.2.2.1 rfl⟩, pp_115.2.2.2.mono (by decide) (by decide)⟩
            · have z102_ : P.2.1.length < 10 := Nat.lt_of_not_le (fun q => hb_102 (nI_le q (by omega)))
              refine V.aload_n C 0 rfl rfl dX10_readItem_105 ?_
              refine V.iconst C (nI 0) c_0 dX10_readItem_106 ?_
              show V G X 1 0 0 107 _ [.int (bI false), Rf G 123] (wld G σ)
              refine V.cVv C lX10_134 oX10_readStatement dX10_readItem_107 (ct_M_stm G σ n ch a P false hO hP hwf z102_) (by assumption) rfl rfl (Nat.le_of_ble_eq_true rfl) ⟨Nat.le_of_ble_eq_true rfl, Nat.le_of_ble_eq_true rfl⟩ ⟨Nat.le_of_ble_eq_true rfl, Nat.le_of_ble_eq_true rfl⟩ (fun σ107 pp_107 => ?_)
              refine V.goto C 119 dX10_readItem_110 rfl ?_
              exact V.vretS C R dX10_readItem_119 (by
                refine ⟨?_, pp_107.2⟩
                rcases pp_107.1 with ⟨s, b, h1, h2, h3⟩ | ⟨e, h1, h2⟩
                · exact Or.inl ⟨_, b, ((pi_eq n259_ n260_).2 z102_).2 s b h1, h2, h3⟩
                · exact Or.inr ⟨e, ((pi_eq n259_ n260_).2 z102_).1 e h1, h2⟩)
      · have k260_ := vt_9 hO.ch hb_29 hb_38
        have lt_ : a < n := kKT_lt (ch := ch) (by rw [k260_]; decide)
        have l3_ := hwf.2.2.1
        have l10_ := hwf.2.1
        refine V.aload_n C 0 rfl rfl dX10_readItem_41 ?_
        refine V.aload_n C 0 rfl rfl dX10_readItem_42 ?_
        refine V.getR C fX10_13 dX10_readItem_43 (by assumption) rfl ?_
        refine V.bipush C (nI 9) b_9 dX10_readItem_46 ?_
        refine V.ialdN C dX10_readItem_48 (by assumption) (by omega) ?_
        rw [hP.2.2.1]
        refine V.iconst C (nI 3) c_3 dX10_readItem_49 ?_
        refine V.icmp_ge C 57 dX10_readItem_50 rfl (fun hb_50 => ?_) (fun hb_50 => ?_)
        · have z50_ : ¬ P.2.2.length < 3 := fun q => absurd ((nI_leI (by decide) (by omega)).mp hb_50) (by omega)
          refine V.iconst C (nI 0) c_0 dX10_readItem_57 ?_
          show V G X 1 0 0 58 _ [.int (bI false), Rf G 123] (wld G σ)
          refine V.cVi C lX10_92 oX10_take dX10_readItem_58 (ct_M_take G σ n ch a false hO (fun q => absurd q (by decide))) (by assumption) rfl rfl (Nat.le_of_ble_eq_true rfl) ⟨Nat.le_of_ble_eq_true rfl, Nat.le_of_ble_eq_true rfl⟩ ⟨Nat.le_of_ble_eq_true rfl, Nat.le_of_ble_eq_true rfl⟩ (fun rr_58 σ58 pp_58 => ?_)
          have er58_ := pp_58.2.2.1 rfl
          refine V.pop C rfl dX10_readItem_61 ?_
          refine V.aload_n C 0 rfl rfl dX10_readItem_62 ?_
          refine V.cVi C lX10_85 oX10_isFine dX10_readItem_63 (ct_M_fine G σ58) (by assumption) rfl rfl (Nat.le_of_ble_eq_true rfl) ⟨Nat.le_of_ble_eq_true rfl, Nat.le_of_ble_eq_true rfl⟩ ⟨Nat.le_of_ble_eq_true rfl, Nat.le_of_ble_eq_true rfl⟩ (fun rr_63 σ63 pp_63 => ?_)
          obtain ⟨ee_63, ff_63⟩ := pp_63
          rw [ee_63, ff_63]
          refine V.if_eq C 119 dX10_readItem_66 rfl (fun hb_66 => ?_) (fun hb_66 => ?_)
          · exact V.vretS C R dX10_readItem_119 ⟨Or.inr ⟨a, (pi_not n259_ k260_).1 z50_, er58_⟩, pp_58.2.2.2.mono (by decide) (by decide)⟩
          · exact absurd (bI_ne0 hb_66) (by rw [decide_eq_false er58_.ne]; decide)
        · have z50_ : P.2.2.length < 3 := Nat.lt_of_not_le (fun q => hb_50 (nI_le q (by omega)))
          refine V.iconst C (nI 1) c_1 dX10_readItem_53 ?_
          refine V.goto C 58 dX10_readItem_54 rfl ?_
          show V G X 1 0 0 58 _ [.int (bI true), Rf G 123] (wld G σ)
          refine V.cVi C lX10_92 oX10_take dX10_readItem_58 (ct_M_take G σ n ch a true hO (fun q => lt_)) (by assumption) rfl rfl (Nat.le_of_ble_eq_true rfl) ⟨Nat.le_of_ble_eq_true rfl, Nat.le_of_ble_eq_true rfl⟩ ⟨Nat.le_of_ble_eq_true rfl, Nat.le_of_ble_eq_true rfl⟩ (fun rr_58 σ58 pp_58 => ?_)
          have o58_ := pp_58.2.1 rfl
          refine V.pop C rfl dX10_readItem_61 ?_
          refine V.aload_n C 0 rfl rfl dX10_readItem_62 ?_
          refine V.cVi C lX10_85 oX10_isFine dX10_readItem_63 (ct_M_fine G σ58) (by assumption) rfl rfl (Nat.le_of_ble_eq_true rfl) ⟨Nat.le_of_ble_eq_true rfl, Nat.le_of_ble_eq_true rfl⟩ ⟨Nat.le_of_ble_eq_true rfl, Nat.le_of_ble_eq_true rfl⟩ (fun rr_63 σ63 pp_63 => ?_)
          obtain ⟨ee_63, ff_63⟩ := pp_63
          rw [ee_63, ff_63]
          refine V.if_eq C 119 dX10_readItem_66 rfl (fun hb_66 => ?_) (fun hb_66 => ?_)
          · exact absurd (bI_eq0 hb_66) (by rw [decide_eq_true o58_.2.2]; decide)
          · refine V.aload_n C 0 rfl rfl dX10_readItem_69 ?_
            refine V.iconst C (nI 1) c_1 dX10_readItem_70 ?_
            show V G X 1 0 0 71 _ [.int (bI true), Rf G 123] (wld G σ58)
            refine V.cVv C lX10_134 oX10_readStatement dX10_readItem_71 (ct_M_stm G σ58 n ch _ P true o58_ (by rw [pp_58.2.2.2.a (by decide)]; exact hP) hwf z50_) (by assumption) rfl rfl (Nat.le_of_ble_eq_true rfl) ⟨Nat.le_of_ble_eq_true rfl, Nat.le_of_ble_eq_true rfl⟩ ⟨Nat.le_of_ble_eq_true rfl, Nat.le_of_ble_eq_true rfl⟩ (fun σ71 pp_71 => ?_)
            refine V.goto C 119 dX10_readItem_74 rfl ?_
            exact V.vretS C R dX10_readItem_119 (by
              refine ⟨?_, (pp_58.2.2.2.mono (by decide) (by decide)).trans pp_71.2⟩
              rcases pp_71.1 with ⟨s, b, h1, h2, h3⟩ | ⟨e, h1, h2⟩
              · exact Or.inl ⟨_, b, ((pi_not n259_ k260_).2 z50_).2 s b h1, h2, h3⟩
              · exact Or.inr ⟨e, ((pi_not n259_ k260_).2 z50_).1 e h1, h2⟩)
  refine V.aload_n C 0 rfl rfl dX10_readItem_0 ?_
  refine V.getI C fX10_71 dX10_readItem_1 (by assumption) rfl ?_
  rw [hO.2.1.2.2.2.1]
  refine V.iconst C (nI 1) c_1 dX10_readItem_4 ?_
  refine V.icmp_ne C 24 dX10_readItem_5 rfl (fun hb_5 => ?_) (fun hb_5 => ?_)
  · have n259_ : ¬ kKT ch n a = 259 := fun q => hb_5 (tv_259 q).1
    exact t24 n259_
  · refine V.aload_n C 0 rfl rfl dX10_readItem_8 ?_
    refine V.getI C fX10_68 dX10_readItem_9 (by assumption) rfl ?_
    rw [hO.2.1.2.2.2.2]
    refine V.bipush C (nI 8) b_8 dX10_readItem_12 ?_
    refine V.icmp_ne C 24 dX10_readItem_14 rfl (fun hb_14 => ?_) (fun hb_14 => ?_)
    · have n259_ : ¬ kKT ch n a = 259 := fun q => hb_14 (tv_259 q).2
      exact t24 n259_
    · have k259_ := vt_8 hO.ch hb_5 hb_14
      refine V.aload_n C 0 rfl rfl dX10_readItem_17 ?_
      refine V.cVv C lX10_131 oX10_readDeclaration dX10_readItem_18 (ct_M_decl G σ n ch a P hO hP hwf (kKT_lt (ch := ch) (by rw [k259_]; decide))) (by assumption) rfl rfl (Nat.le_of_ble_eq_true rfl) ⟨Nat.le_of_ble_eq_true rfl, Nat.le_of_ble_eq_true rfl⟩ ⟨Nat.le_of_ble_eq_true rfl, Nat.le_of_ble_eq_true rfl⟩ (fun σ18 pp_18 => ?_)
      refine V.goto C 119 dX10_readItem_21 rfl ?_
      exact V.vretS C R dX10_readItem_119 (by
        refine ⟨?_, pp_18.2.mono (by decide) (by decide)⟩
        rcases pp_18.1 with ⟨s, b, h1, h2, h3⟩ | ⟨e, h1, h2⟩
        · exact Or.inl ⟨_, b, by unfold pItem; rw [if_pos k259_]; exact h1, h2, h3⟩
        · exact Or.inr ⟨e, by unfold pItem; rw [if_pos k259_]; exact h1, h2⟩)
