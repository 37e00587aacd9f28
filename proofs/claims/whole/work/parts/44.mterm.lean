/-! The model's readConstant, readPart, readTerm, putTerm. -/
theorem cst_iff {ch : Nat → Nat} {n b : Nat} : ¬ cstT ch n b = 0 ↔ kKT ch n b = 257 ∧ tEnd ch n b - b ≤ 16 ∧ ∀ j, j < tEnd ch n b - b → ch (b + j) ≤ 49 := by
  constructor
  · intro h
    obtain ⟨h1, h2, h3, h4, h5⟩ := cstT_lt h
    exact ⟨h2, by omega, h5⟩
  · intro h
    have hb : b < n := kKT_lt (ch := ch) (by rw [h.1]; decide)
    have := (tEnd_gt (ch := ch) hb).1
    unfold cstT
    rw [if_pos h]; omega
theorem pp_cst {ch : Nat → Nat} {n : Nat} {w : Nat → Nat} {a pt : Nat} (h : kKT ch n a = 37) : (cstT ch n (nxT ch n a) = 0 → pPart ch n w a pt = .error (nxT ch n a)) ∧ (¬ cstT ch n (nxT ch n a) = 0 → pPart ch n w a pt = .ok (cstL ch (nxT ch n a) pt (cstT ch n (nxT ch n a)), nxT ch n (nxT ch n a))) :=
  ⟨fun q => by unfold pPart; rw [if_pos h, if_pos q], fun q => by unfold pPart; rw [if_pos h, if_neg q]⟩
theorem tok2 {ch : Nat → Nat} {n a : Nat} (hc : ∀ i, i < n → ch i < 256) (h : tokM ch n a = 2) : kKT ch n a = 257 := by
  rcases tok_cases hc a with q | q | q | q | q | q | ⟨q, qb⟩
  case inr.inl => exact q
  case inr.inr.inr.inr.inr.inr =>
    obtain ⟨z1, z2, z3⟩ := kdT_sg (a := a) hc (by omega)
    rw [(sig_tok hc z1 z2 z3).2.2] at h
    split at h <;> exact absurd h (by decide)
  all_goals
    unfold tokM at h
    rw [q] at h
    revert h
    generalize isSg (ch a) = bb
    intro h
    exfalso
    revert bb; decide
set_option maxRecDepth 100000 in
set_option maxHeartbeats 4000000 in
theorem ct_M_const (G : Gl) (σ : SS) (n : Nat) (ch : Nat → Nat) (a pt : Nat) (w : Nat → Nat) (bs : List Nat) (hO : Ok σ n ch a) (hR : RMb σ bs) (hl : bs.length < 2 ^ 27) (hpt : σ.1 123 16 = nI pt) (hw : ∀ v, v < 8 → σ.2.1 125 v = nI (w v) ∧ w v ≤ 16) (h37 : kKT ch n a = 37) : CV G mX10_readConstant [Rf G 123] σ (fun σ1 => ((∃ l b, pPart ch n w a pt = .ok (l, b) ∧ Ok σ1 n ch b ∧ RMb σ1 (bs ++ l)) ∨ (∃ e, pPart ch n w a pt = .error e ∧ Er σ1 e)) ∧ FM [9, 10, 11, 12, 13, 15] [130] σ σ1) := by
  refine Ctr.of oX10_readConstant (Nat.le_of_ble_eq_true rfl) ?_
  intro X C R hnm hz0
  have C : Cx G X cX10_readConstant 5 RX10 4 88 0 0 := C
  have R : Cr G X none 0 0 _ := R
  show V G X 5 0 0 0 [(0, Rf G 123)] [] (wld G σ)
  have kk_123 := sk_123
  have kk_124 := sk_124
  have kk_125 := sk_125
  have kk_129 := sk_129
  have kk_130 := sk_130
  have lt_ : a < n := kKT_lt (ch := ch) (by rw [h37]; decide)
  have cstE : ∀ {b e : Nat}, b = nxT ch n a → e = endM ch n b → ((kKT ch n b = 257 ∧ e - b ≤ 16 ∧ ∀ j, j < e - b → ch (b + j) ≤ 49) ↔ ¬ cstT ch n (nxT ch n a) = 0) := by
    intro b e hb he
    subst hb
    rw [cst_iff]
    by_cases q : kKT ch n (nxT ch n a) = 257
    · have hlt : nxT ch n a < n := kKT_lt (ch := ch) (by rw [q]; decide)
      have : e = tEnd ch n (nxT ch n a) := by rw [he]; unfold endM; rw [if_pos hlt]
      rw [this]
    · exact ⟨fun z => absurd z.1 q, fun z => absurd z.1 q⟩
  have loopG : ∀ (b e : Nat), b = nxT ch n a → b < e → e ≤ n → ¬ cstT ch n (nxT ch n a) = 0 → cstT ch n (nxT ch n a) = e - (nxT ch n a) → (∀ k, b ≤ k → k < e → 48 ≤ ch k ∧ ch k ≤ 49) → ∀ (mm k : Nat) (σ2 : SS), e < k + mm → b ≤ k ∧ k ≤ e → RMb σ2 (bs ++ cstL ch b pt (k - b)) → Ok σ2 n ch (nxT ch n (nxT ch n a)) → FM [9, 10, 11, 12, 13, 15] [130] σ σ2 → V G X 5 0 0 89 [(0, Rf G 123), (1, .int (nI b)), (2, .int (nI e)), (3, .int 1), (4, .int (nI k))] [] (wld G σ2) := by
    intro b e hbe hlt hen hcz hce hdig m
    induction m with
    | zero =>
      intro k σ2 hm hk hRz hO2 hF2
      exact absurd hm (by omega)
    | succ m ih =>
      intro k σ2 hm hk hRz hO2 hF2
      obtain ⟨hk1, hk2⟩ := hk
      have n200_ := hO.1.2.1
      refine V.iload C rfl dX10_readConstant_89 ?_
      refine V.iload_n C 2 rfl rfl dX10_readConstant_91 ?_
      refine V.icmp_ge C 122 dX10_readConstant_92 rfl (fun hb_92 => ?_) (fun hb_92 => ?_)
      · have zk_ : k = e := by have := (nI_leI (by omega) (by omega)).mp hb_92; omega
        exact V.vretS C R dX10_readConstant_122 (by
          subst zk_
          rw [hbe, ← hce] at hRz
          exact ⟨Or.inl ⟨_, _, (pp_cst h37).2 hcz, hO2, hRz⟩, hF2⟩)
      · have zk_ : k < e := Nat.lt_of_not_le (fun q => hb_92 (nI_le q (by omega)))
        obtain ⟨d1_, d2_⟩ := hdig k hk1 zk_
        refine V.aload_n C 0 rfl rfl dX10_readConstant_95 ?_
        refine V.cVi C lX10_85 oX10_isFine dX10_readConstant_96 (ct_M_fine G σ2) (by assumption) rfl rfl (Nat.le_of_ble_eq_true rfl) ⟨Nat.le_of_ble_eq_true rfl, Nat.le_of_ble_eq_true rfl⟩ ⟨Nat.le_of_ble_eq_true rfl, Nat.le_of_ble_eq_true rfl⟩ (fun rr_96 σ96 pp_96 => ?_)
        obtain ⟨ee_96, ff_96⟩ := pp_96
        rw [ee_96, ff_96]
        refine V.if_eq C 122 dX10_readConstant_99 rfl (fun hb_99 => ?_) (fun hb_99 => ?_)
        · exact absurd (bI_eq0 hb_99) (by rw [decide_eq_true hO2.2.2]; decide)
        · refine V.aload_n C 0 rfl rfl dX10_readConstant_102 ?_
          refine V.aload_n C 0 rfl rfl dX10_readConstant_103 ?_
          refine V.getR C fX10_26 dX10_readConstant_104 (by assumption) rfl ?_
          refine V.iload C rfl dX10_readConstant_107 ?_
          refine V.ialdN C dX10_readConstant_109 (by assumption) (by omega) ?_
          rw [(hO2.1.2.2 _ (by omega)).1]
          refine V.bipush C (nI 48) b_48 dX10_readConstant_110 ?_
          refine V.isub C dX10_readConstant_112 ?_
          rw [nI_sub (by omega)]
          refine V.cVv C lX10_112 oX10_addBit dX10_readConstant_113 (ct_M_addBit G σ2 (bs ++ cstL ch b pt (k - b)) (ch k - 48) pt hRz (by rw [List.length_append, cstL_len]; omega) (by rw [hF2.f (by decide)]; exact hpt)) (by assumption) rfl rfl (Nat.le_of_ble_eq_true rfl) ⟨Nat.le_of_ble_eq_true rfl, Nat.le_of_ble_eq_true rfl⟩ ⟨Nat.le_of_ble_eq_true rfl, Nat.le_of_ble_eq_true rfl⟩ (fun σ113 pp_113 => ?_)
          refine V.iinc C (nI (k + 1)) dX10_readConstant_116 rfl (nI_1 k) (by decide) ?_
          refine V.goto C 89 dX10_readConstant_119 rfl ?_
          refine V.lvs (lv' := [(0, Rf G 123), (1, .int (nI b)), (2, .int (nI e)), (3, .int 1), (4, .int (nI (k + 1)))]) rfl ?_
          refine ih (k + 1) σ113 (by omega) (by omega) ?_ (hO2.fm pp_113.2 (by decide) (by decide)) (hF2.trans (pp_113.2.mono (by decide) (by decide)))
          have h1_ := pp_113.1
          rw [show k + 1 - b = (k - b) + 1 by omega, cstL_succ, ← List.append_assoc, show b + (k - b) = k by omega]
          rw [show (if ch k = 49 then 1 else 0) = ch k - 48 by split <;> omega]
          exact h1_
  have e86 : ∀ (b e : Nat) (f : Int32) (k : Nat) (σ2 : SS), cstT ch n (nxT ch n a) = 0 → Er σ2 (nxT ch n a) → FM [9, 10, 11, 12, 13, 15] [130] σ σ2 → V G X 5 0 0 86 [(0, Rf G 123), (1, .int (nI b)), (2, .int (nI e)), (3, .int f), (4, .int (nI k))] [] (wld G σ2) := by
    intro b e f k σ2 hcz hE hF2
    refine V.iload_n C 1 rfl rfl dX10_readConstant_86 ?_
    refine V.istore C dX10_readConstant_87 (by decide) ?_
    refine V.iload C rfl dX10_readConstant_89 ?_
    refine V.iload_n C 2 rfl rfl dX10_readConstant_91 ?_
    refine V.icmp_ge C 122 dX10_readConstant_92 rfl (fun hb_92 => ?_) (fun hb_92 => ?_)
    · exact V.vretS C R dX10_readConstant_122 ⟨Or.inr ⟨_, (pp_cst h37).1 hcz, hE⟩, hF2⟩
    · refine V.aload_n C 0 rfl rfl dX10_readConstant_95 ?_
      refine V.cVi C lX10_85 oX10_isFine dX10_readConstant_96 (ct_M_fine G σ2) (by assumption) rfl rfl (Nat.le_of_ble_eq_true rfl) ⟨Nat.le_of_ble_eq_true rfl, Nat.le_of_ble_eq_true rfl⟩ ⟨Nat.le_of_ble_eq_true rfl, Nat.le_of_ble_eq_true rfl⟩ (fun rr_96 σ96 pp_96 => ?_)
      obtain ⟨ee_96, ff_96⟩ := pp_96
      rw [ee_96, ff_96]
      refine V.if_eq C 122 dX10_readConstant_99 rfl (fun hb_99 => ?_) (fun hb_99 => ?_)
      · exact V.vretS C R dX10_readConstant_122 ⟨Or.inr ⟨_, (pp_cst h37).1 hcz, hE⟩, hF2⟩
      · exact absurd (bI_ne0 hb_99) (by rw [decide_eq_false hE.ne]; decide)
  have t80 : ∀ (b e : Nat) (f : Bool) (k : Nat) (σ1 : SS), b = nxT ch n a → e = endM ch n b → (f = true ↔ ¬ cstT ch n (nxT ch n a) = 0) → Ok σ1 n ch (nxT ch n a) → FM [9, 10, 11, 12, 13] [] σ σ1 → V G X 5 0 0 80 [(0, Rf G 123), (1, .int (nI b)), (2, .int (nI e)), (3, .int (bI f)), (4, .int (nI k))] [] (wld G σ1) := by
    intro b e f k σ1 hb he hf hO1 hF1
    rw [hb] at he
    refine V.aload_n C 0 rfl rfl dX10_readConstant_80 ?_
    refine V.iload_n C 3 rfl rfl dX10_readConstant_81 ?_
    refine V.cVi C lX10_92 oX10_take dX10_readConstant_82 (ct_M_take G σ1 n ch (nxT ch n a) f hO1 (fun q => kKT_lt (ch := ch) (by rw [(cst_iff.mp (hf.mp q)).1]; decide))) (by assumption) rfl rfl (Nat.le_of_ble_eq_true rfl) ⟨Nat.le_of_ble_eq_true rfl, Nat.le_of_ble_eq_true rfl⟩ ⟨Nat.le_of_ble_eq_true rfl, Nat.le_of_ble_eq_true rfl⟩ (fun rr_82 σ82 pp_82 => ?_)
    refine V.pop C rfl dX10_readConstant_85 ?_
    have F82_ := (hF1.trans pp_82.2.2.2)
    refine Or.elim (b_tf f) (fun hB_ => ?_) (fun hB_ => ?_)
    · exact e86 b e (bI f) k σ82 (Decidable.byContradiction (fun q => absurd (hf.mpr q) (by rw [hB_]; decide))) (pp_82.2.2.1 hB_) (F82_.mono (by decide) (by decide))
    have hcz_ := hf.mp hB_
    obtain ⟨c1_, c2_, c3_, c4_, c5_⟩ := cstT_lt hcz_
    have te_ := tEnd_gt (ch := ch) c1_
    have ee_ : e = tEnd ch n (nxT ch n a) := by rw [he]; unfold endM; rw [if_pos c1_]
    have dg_ : isDg (ch (nxT ch n a)) = true := kdT_257 (hO.ch _ c1_) (by unfold kKT at c2_; rw [if_pos c1_] at c2_; exact c2_)
    refine V.iload_n C 1 rfl rfl dX10_readConstant_86 ?_
    refine V.istore C dX10_readConstant_87 (by decide) ?_
    refine V.lvs (lv' := [(0, Rf G 123), (1, .int (nI b)), (2, .int (nI e)), (3, .int 1), (4, .int (nI b))]) (by rw [hB_]; rfl) ?_
    refine loopG b e hb (by omega) (by omega) hcz_ (by omega) (fun j j1 j2 => ?_) (e + 1) b σ82 (by omega) (by omega) ?_ (pp_82.2.1 hB_) (F82_.mono (by decide) (by decide))
    · have d_ := dg_run (n := n) (j := j) dg_ (by omega) (by omega)
      have d_ : 48 ≤ ch j ∧ ch j ≤ 57 := by unfold isDg at d_; simpa using d_
      have := c5_ (j - nxT ch n a) (by omega)
      rw [show nxT ch n a + (j - nxT ch n a) = j by omega] at this
      omega
    · rw [Nat.sub_self, show cstL ch b pt 0 = [] from rfl, List.append_nil]
      exact hR.fm F82_ (by decide) (by decide)
  have loopL : ∀ (b e : Nat) (σ1 : SS), b = nxT ch n a → e = endM ch n b → b ≤ e → e ≤ n → Ok σ1 n ch (nxT ch n a) → FM [9, 10, 11, 12, 13] [] σ σ1 → ∀ (mm k : Nat) (f : Bool), e < k + mm → b ≤ k ∧ k ≤ e → (f = true ↔ (kKT ch n b = 257 ∧ e - b ≤ 16 ∧ ∀ j, j < k - b → ch (b + j) ≤ 49)) → V G X 5 0 0 46 [(0, Rf G 123), (1, .int (nI b)), (2, .int (nI e)), (3, .int (bI f)), (4, .int (nI k))] [] (wld G σ1) := by
    intro b e σ1 hb he hbe hen hO1 hF1 m
    induction m with
    | zero =>
      intro k f hm hk hf
      exact absurd hm (by omega)
    | succ m ih =>
      intro k f hm hk hf
      obtain ⟨hk1, hk2⟩ := hk
      have n200_ := hO.1.2.1
      refine V.iload C rfl dX10_readConstant_46 ?_
      refine V.iload_n C 2 rfl rfl dX10_readConstant_48 ?_
      refine V.icmp_ge C 80 dX10_readConstant_49 rfl (fun hb_49 => ?_) (fun hb_49 => ?_)
      · have zk_ : k = e := by have := (nI_leI (by omega) (by omega)).mp hb_49; omega
        exact t80 b e f k σ1 hb he ((show f = true ↔ (kKT ch n b = 257 ∧ e - b ≤ 16 ∧ ∀ j, j < e - b → ch (b + j) ≤ 49) from hf.trans (by rw [zk_])).trans (cstE hb he)) hO1 hF1
      · have zk_ : k < e := Nat.lt_of_not_le (fun q => hb_49 (nI_le q (by omega)))
        refine V.iload_n C 3 rfl rfl dX10_readConstant_52 ?_
        refine V.if_eq C 80 dX10_readConstant_53 rfl (fun hb_53 => ?_) (fun hb_53 => ?_)
        · have zf_ : f = false := bI_eq0 hb_53
          exact t80 b e f k σ1 hb he ((show f = true ↔ (kKT ch n b = 257 ∧ e - b ≤ 16 ∧ ∀ j, j < e - b → ch (b + j) ≤ 49) from ⟨fun q => absurd q (by rw [zf_]; decide), fun q => absurd (hf.mpr ⟨q.1, q.2.1, fun j hj => q.2.2 j (by omega)⟩) (by rw [zf_]; decide)⟩).trans (cstE hb he)) hO1 hF1
        · have zf_ : f = true := bI_ne0 hb_53
          have hlt_ : e ≤ n := hen
          refine V.aload_n C 0 rfl rfl dX10_readConstant_56 ?_
          refine V.getR C fX10_26 dX10_readConstant_57 (by assumption) rfl ?_
          refine V.iload C rfl dX10_readConstant_60 ?_
          refine V.ialdN C dX10_readConstant_62 (by assumption) (by omega) ?_
          rw [(hO1.1.2.2 _ (by omega)).1]
          refine V.bipush C (nI 49) b_49 dX10_readConstant_63 ?_
          refine V.icmp_gt C 72 dX10_readConstant_65 rfl (fun hb_65 => ?_) (fun hb_65 => ?_)
          · have z65_ : ¬ ch k ≤ 49 := fun q => absurd hb_65 (fun z => absurd ((nI_ltI (by decide) (by have := hO.ch k (by omega); omega)).mp z) (by omega))
            refine V.iconst C (nI 0) c_0 dX10_readConstant_72 ?_
            refine V.istore_n C 3 dX10_readConstant_73 rfl (by decide) ?_
            refine V.iinc C (nI (k + 1)) dX10_readConstant_74 rfl (nI_1 k) (by decide) ?_
            refine V.goto C 46 dX10_readConstant_77 rfl ?_
            refine V.lvs (lv' := [(0, Rf G 123), (1, .int (nI b)), (2, .int (nI e)), (3, .int (bI false)), (4, .int (nI (k + 1)))]) rfl ?_
            exact ih (k + 1) false (by omega) (by omega) ⟨fun q => absurd q (by decide), fun q => absurd (q.2.2 (k - b) (by omega)) (by rw [show b + (k - b) = k by omega]; exact z65_)⟩
          · have z65_ : ch k ≤ 49 := Nat.le_of_not_lt (fun q => hb_65 (nI_lt q (by have := hO.ch k (by omega); omega)))
            refine V.iconst C (nI 1) c_1 dX10_readConstant_68 ?_
            refine V.goto C 73 dX10_readConstant_69 rfl ?_
            refine V.istore_n C 3 dX10_readConstant_73 rfl (by decide) ?_
            refine V.iinc C (nI (k + 1)) dX10_readConstant_74 rfl (nI_1 k) (by decide) ?_
            refine V.goto C 46 dX10_readConstant_77 rfl ?_
            refine V.lvs (lv' := [(0, Rf G 123), (1, .int (nI b)), (2, .int (nI e)), (3, .int (bI true)), (4, .int (nI (k + 1)))]) rfl ?_
            refine ih (k + 1) true (by omega) (by omega) ⟨fun _ => ?_, fun _ => rfl⟩
            have h_ := hf.mp zf_
            refine ⟨h_.1, h_.2.1, fun j hj => ?_⟩
            by_cases q : j < k - b
            · exact h_.2.2 j q
            · rw [show b + j = k by omega]; exact z65_
  refine V.aload_n C 0 rfl rfl dX10_readConstant_0 ?_
  refine V.aload_n C 0 rfl rfl dX10_readConstant_1 ?_
  refine V.bipush C (nI 37) b_37 dX10_readConstant_2 ?_
  refine V.cVi C lX10_105 oX10_isSign dX10_readConstant_4 (ct_M_sign G σ (nI 37)) (by assumption) rfl rfl (Nat.le_of_ble_eq_true rfl) ⟨Nat.le_of_ble_eq_true rfl, Nat.le_of_ble_eq_true rfl⟩ ⟨Nat.le_of_ble_eq_true rfl, Nat.le_of_ble_eq_true rfl⟩ (fun rr_4 σ4 pp_4 => ?_)
  obtain ⟨ee_4, ff_4⟩ := pp_4
  rw [ee_4, ff_4, hO.sg (by decide), decide_eq_true h37]
  refine V.cVi C lX10_92 oX10_take dX10_readConstant_7 (ct_M_take G σ n ch a true hO (fun _ => lt_)) (by assumption) rfl rfl (Nat.le_of_ble_eq_true rfl) ⟨Nat.le_of_ble_eq_true rfl, Nat.le_of_ble_eq_true rfl⟩ ⟨Nat.le_of_ble_eq_true rfl, Nat.le_of_ble_eq_true rfl⟩ (fun rr_7 σ7 pp_7 => ?_)
  have o7_ := pp_7.2.1 rfl
  have f_7 := pp_7.2.2.2
  have n200_ := hO.1.2.1
  have nx_ := nxT_gt (ch := ch) lt_
  have ele_ : endM ch n (nxT ch n a) ≤ n ∧ nxT ch n a ≤ endM ch n (nxT ch n a) := by
    unfold endM; split
    · rename_i q; have := tEnd_gt (ch := ch) q; omega
    · omega
  refine V.pop C rfl dX10_readConstant_10 ?_
  refine V.aload_n C 0 rfl rfl dX10_readConstant_11 ?_
  refine V.getI C fX10_57 dX10_readConstant_12 (by assumption) rfl ?_
  rw [o7_.2.1.2.2.1]
  refine V.istore_n C 1 dX10_readConstant_15 rfl (by decide) ?_
  refine V.aload_n C 0 rfl rfl dX10_readConstant_16 ?_
  refine V.getI C fX10_54 dX10_readConstant_17 (by assumption) rfl ?_
  rw [o7_.2.1.2.1]
  refine V.istore_n C 2 dX10_readConstant_20 rfl (by decide) ?_
  refine V.aload_n C 0 rfl rfl dX10_readConstant_21 ?_
  refine V.getI C fX10_71 dX10_readConstant_22 (by assumption) rfl ?_
  rw [o7_.2.1.2.2.2.1]
  refine V.iconst C (nI 2) c_2 dX10_readConstant_25 ?_
  refine V.icmp_ne C 41 dX10_readConstant_26 rfl (fun hb_26 => ?_) (fun hb_26 => ?_)
  · have z_ : ¬ kKT ch n (nxT ch n a) = 257 := fun q => hb_26 (by unfold tokM; rw [q]; rfl)
    refine V.iconst C (nI 0) c_0 dX10_readConstant_41 ?_
    refine V.istore_n C 3 dX10_readConstant_42 rfl (by decide) ?_
    refine V.iload_n C 1 rfl rfl dX10_readConstant_43 ?_
    refine V.istore C dX10_readConstant_44 (by decide) ?_
    obtain ⟨b, hb_⟩ : ∃ b, b = nxT ch n a := ⟨_, rfl⟩
    obtain ⟨e, he_⟩ : ∃ e, e = endM ch n b := ⟨_, rfl⟩
    rw [← hb_] at z_
    rw [← hb_, ← he_] at ele_
    refine V.lvs (lv' := [(0, Rf G 123), (1, .int (nI b)), (2, .int (nI e)), (3, .int (bI false)), (4, .int (nI b))]) (by rw [he_, hb_]; rfl) ?_
    exact loopL b e σ7 hb_ he_ ele_.2 ele_.1 o7_ f_7 (e + 1) b false (by omega) (by omega) (⟨fun q => absurd q (by decide), fun q => absurd q.1 z_⟩)
  · have z_ := tok2 hO.ch hb_26
    have lt2_ : nxT ch n a < n := kKT_lt (ch := ch) (by rw [z_]; decide)
    have te_ := tEnd_gt (ch := ch) lt2_
    refine V.iload_n C 2 rfl rfl dX10_readConstant_29 ?_
    refine V.iload_n C 1 rfl rfl dX10_readConstant_30 ?_
    refine V.isub C dX10_readConstant_31 ?_
    rw [nI_sub (by unfold endM; split <;> omega)]
    refine V.bipush C (nI 16) b_16 dX10_readConstant_32 ?_
    refine V.icmp_gt C 41 dX10_readConstant_34 rfl (fun hb_34 => ?_) (fun hb_34 => ?_)
    · have l16_ : ¬ endM ch n (nxT ch n a) - nxT ch n a ≤ 16 := fun q => absurd hb_34 (fun z => absurd ((nI_ltI (by decide) (by have := ele_; omega)).mp z) (by omega))
      refine V.iconst C (nI 0) c_0 dX10_readConstant_41 ?_
      refine V.istore_n C 3 dX10_readConstant_42 rfl (by decide) ?_
      refine V.iload_n C 1 rfl rfl dX10_readConstant_43 ?_
      refine V.istore C dX10_readConstant_44 (by decide) ?_
      obtain ⟨b, hb_⟩ : ∃ b, b = nxT ch n a := ⟨_, rfl⟩
      obtain ⟨e, he_⟩ : ∃ e, e = endM ch n b := ⟨_, rfl⟩
      rw [← hb_] at z_ l16_
      rw [← he_] at l16_
      rw [← hb_, ← he_] at ele_
      refine V.lvs (lv' := [(0, Rf G 123), (1, .int (nI b)), (2, .int (nI e)), (3, .int (bI false)), (4, .int (nI b))]) (by rw [he_, hb_]; rfl) ?_
      exact loopL b e σ7 hb_ he_ ele_.2 ele_.1 o7_ f_7 (e + 1) b false (by omega) (by omega) (⟨fun q => absurd q (by decide), fun q => absurd q.2.1 l16_⟩)
    · have l16_ : endM ch n (nxT ch n a) - nxT ch n a ≤ 16 := Nat.le_of_not_lt (fun q => hb_34 (nI_lt q (by have := ele_; omega)))
      refine V.iconst C (nI 1) c_1 dX10_readConstant_37 ?_
      refine V.goto C 42 dX10_readConstant_38 rfl ?_
      refine V.istore_n C 3 dX10_readConstant_42 rfl (by decide) ?_
      refine V.iload_n C 1 rfl rfl dX10_readConstant_43 ?_
      refine V.istore C dX10_readConstant_44 (by decide) ?_
      obtain ⟨b, hb_⟩ : ∃ b, b = nxT ch n a := ⟨_, rfl⟩
      obtain ⟨e, he_⟩ : ∃ e, e = endM ch n b := ⟨_, rfl⟩
      rw [← hb_] at z_ l16_
      rw [← he_] at l16_
      rw [← hb_, ← he_] at ele_
      refine V.lvs (lv' := [(0, Rf G 123), (1, .int (nI b)), (2, .int (nI e)), (3, .int (bI true)), (4, .int (nI b))]) (by rw [he_, hb_]; rfl) ?_
      exact loopL b e σ7 hb_ he_ ele_.2 ele_.1 o7_ f_7 (e + 1) b true (by omega) (by omega) (⟨fun _ => ⟨z_, l16_, fun j hj => absurd hj (by omega)⟩, fun _ => rfl⟩)
set_option maxRecDepth 100000 in
set_option maxHeartbeats 4000000 in
theorem ct_M_part (G : Gl) (σ : SS) (n : Nat) (ch : Nat → Nat) (a pt : Nat) (w : Nat → Nat) (bs : List Nat) (hO : Ok σ n ch a) (hR : RMb σ bs) (hl : bs.length < 2 ^ 27) (hpt : σ.1 123 16 = nI pt) (hw : ∀ v, v < 8 → σ.2.1 125 v = nI (w v) ∧ w v ≤ 16) : CV G mX10_readPart [Rf G 123] σ (fun σ1 => ((∃ l b, pPart ch n w a pt = .ok (l, b) ∧ Ok σ1 n ch b ∧ RMb σ1 (bs ++ l)) ∨ (∃ e, pPart ch n w a pt = .error e ∧ Er σ1 e)) ∧ σ1.1 123 16 = nI (pt + 1) ∧ FM [9, 10, 11, 12, 13, 15, 16] [130] σ σ1) := by
  refine Ctr.of oX10_readPart (Nat.le_of_ble_eq_true rfl) ?_
  intro X C R hnm hz0
  have C : Cx G X cX10_readPart 1 RX10 6 134 0 0 := C
  have R : Cr G X none 0 0 _ := R
  show V G X 1 0 0 0 [(0, Rf G 123)] [] (wld G σ)
  have kk_123 := sk_123
  have kk_124 := sk_124
  have kk_125 := sk_125
  have kk_129 := sk_129
  have kk_130 := sk_130
  refine V.aload_n C 0 rfl rfl dX10_readPart_0 ?_
  refine V.bipush C (nI 37) b_37 dX10_readPart_1 ?_
  refine V.cVi C lX10_105 oX10_isSign dX10_readPart_3 (ct_M_sign G σ (nI 37)) (by assumption) rfl rfl (Nat.le_of_ble_eq_true rfl) ⟨Nat.le_of_ble_eq_true rfl, Nat.le_of_ble_eq_true rfl⟩ ⟨Nat.le_of_ble_eq_true rfl, Nat.le_of_ble_eq_true rfl⟩ (fun rr_3 σ3 pp_3 => ?_)
  obtain ⟨ee_3, ff_3⟩ := pp_3
  rw [ee_3, ff_3, hO.sg (by decide)]
  refine V.if_eq C 16 dX10_readPart_6 rfl (fun hb_6 => ?_) (fun hb_6 => ?_)
  · have z_ : ¬ kKT ch n a = 37 := of_decide_eq_false (bI_eq0 hb_6)
    refine V.aload_n C 0 rfl rfl dX10_readPart_16 ?_
    refine V.cVv C lX10_119 oX10_readRange dX10_readPart_17 (ct_M_range G σ n ch a pt w bs hO hR hl hpt hw z_) (by assumption) rfl rfl (Nat.le_of_ble_eq_true rfl) ⟨Nat.le_of_ble_eq_true rfl, Nat.le_of_ble_eq_true rfl⟩ ⟨Nat.le_of_ble_eq_true rfl, Nat.le_of_ble_eq_true rfl⟩ (fun σ17 pp_17 => ?_)
    refine V.aload_n C 0 rfl rfl dX10_readPart_20 ?_
    refine V.dup C rfl dX10_readPart_21 ?_
    refine V.getI C fX10_99 dX10_readPart_22 (by assumption) rfl ?_
    rw [pp_17.2.f (by decide), hpt]
    refine V.iconst C (nI 1) c_1 dX10_readPart_25 ?_
    refine V.iadd C dX10_readPart_26 ?_
    rw [nI_add]
    refine V.putI C fX10_99 dX10_readPart_27 (by assumption) rfl ?_
    exact V.vretS C R dX10_readPart_30 (by
      have F_ : FM [16] [] σ17 (sF σ17 123 16 (nI (pt + 1))) := (FM.refl _ _ _).sF _ (by decide)
      refine ⟨?_, sF_F _ _ _ _, (pp_17.2.mono (by decide) (by decide)).sF _ (by decide)⟩
      rcases pp_17.1 with ⟨l, b, h1, h2, h3⟩ | ⟨e, h1, h2⟩
      · exact Or.inl ⟨l, b, h1, h2.fm F_ (by decide) (by decide), h3.fm F_ (by decide) (by decide)⟩
      · exact Or.inr ⟨e, h1, h2.fm F_ (by decide)⟩)
  · have z_ : kKT ch n a = 37 := of_decide_eq_true (bI_ne0 hb_6)
    refine V.aload_n C 0 rfl rfl dX10_readPart_9 ?_
    refine V.cVv C lX10_116 oX10_readConstant dX10_readPart_10 (ct_M_const G σ n ch a pt w bs hO hR hl hpt hw z_) (by assumption) rfl rfl (Nat.le_of_ble_eq_true rfl) ⟨Nat.le_of_ble_eq_true rfl, Nat.le_of_ble_eq_true rfl⟩ ⟨Nat.le_of_ble_eq_true rfl, Nat.le_of_ble_eq_true rfl⟩ (fun σ10 pp_10 => ?_)
    refine V.goto C 20 dX10_readPart_13 rfl ?_
    refine V.aload_n C 0 rfl rfl dX10_readPart_20 ?_
    refine V.dup C rfl dX10_readPart_21 ?_
    refine V.getI C fX10_99 dX10_readPart_22 (by assumption) rfl ?_
    rw [pp_10.2.f (by decide), hpt]
    refine V.iconst C (nI 1) c_1 dX10_readPart_25 ?_
    refine V.iadd C dX10_readPart_26 ?_
    rw [nI_add]
    refine V.putI C fX10_99 dX10_readPart_27 (by assumption) rfl ?_
    exact V.vretS C R dX10_readPart_30 (by
      have F_ : FM [16] [] σ10 (sF σ10 123 16 (nI (pt + 1))) := (FM.refl _ _ _).sF _ (by decide)
      refine ⟨?_, sF_F _ _ _ _, (pp_10.2.mono (by decide) (by decide)).sF _ (by decide)⟩
      rcases pp_10.1 with ⟨l, b, h1, h2, h3⟩ | ⟨e, h1, h2⟩
      · exact Or.inl ⟨l, b, h1, h2.fm F_ (by decide) (by decide), h3.fm F_ (by decide) (by decide)⟩
      · exact Or.inr ⟨e, h1, h2.fm F_ (by decide)⟩)
set_option maxRecDepth 100000 in
set_option maxHeartbeats 4000000 in
theorem ct_M_term (G : Gl) (σ : SS) (n : Nat) (ch : Nat → Nat) (a : Nat) (w : Nat → Nat) (hO : Ok σ n ch a) (hw : ∀ v, v < 8 → σ.2.1 125 v = nI (w v) ∧ w v ≤ 16) : CV G mX10_readTerm [Rf G 123] σ (fun σ1 => ((∃ bs b, pTerm ch n w a = .ok (bs, b) ∧ Ok σ1 n ch b ∧ RMb σ1 bs) ∨ (∃ e, pTerm ch n w a = .error e ∧ Er σ1 e)) ∧ FM [9, 10, 11, 12, 13, 15, 16] [130] σ σ1) := by
  refine Ctr.of oX10_readTerm (Nat.le_of_ble_eq_true rfl) ?_
  intro X C R hnm hz0
  have C : Cx G X cX10_readTerm 1 RX10 7 154 0 0 := C
  have R : Cr G X none 0 0 _ := R
  show V G X 1 0 0 0 [(0, Rf G 123)] [] (wld G σ)
  have kk_123 := sk_123
  have kk_124 := sk_124
  have kk_125 := sk_125
  have kk_129 := sk_129
  have kk_130 := sk_130
  have bad : ∀ (e : Nat) (σ1 : SS), Er σ1 e → FM [9, 10, 11, 12, 13, 15, 16] [130] σ σ1 → pTerm ch n w a = .error e → V G X 1 0 0 14 [(0, Rf G 123)] [] (wld G σ1) := by
    intro e σ1 hE hF1 he
    refine V.aload_n C 0 rfl rfl dX10_readTerm_14 ?_
    refine V.cVi C lX10_85 oX10_isFine dX10_readTerm_15 (ct_M_fine G σ1) (by assumption) rfl rfl (Nat.le_of_ble_eq_true rfl) ⟨Nat.le_of_ble_eq_true rfl, Nat.le_of_ble_eq_true rfl⟩ ⟨Nat.le_of_ble_eq_true rfl, Nat.le_of_ble_eq_true rfl⟩ (fun rr_15 σ15 pp_15 => ?_)
    obtain ⟨ee_15, ff_15⟩ := pp_15
    rw [ee_15, ff_15]
    refine V.if_eq C 43 dX10_readTerm_18 rfl (fun hb_18 => ?_) (fun hb_18 => ?_)
    · exact V.vretS C R dX10_readTerm_43 ⟨Or.inr ⟨e, he, hE⟩, hF1⟩
    · exact absurd (bI_ne0 hb_18) (by rw [decide_eq_false hE.ne]; decide)
  have loop : ∀ (m a1 pt : Nat) (bs : List Nat) (σ1 : SS), 201 ≤ m + a1 → pt ≤ a1 → TW w bs pt → RMb σ1 bs → Ok σ1 n ch a1 → σ1.1 123 16 = nI (pt + 1) → FM [9, 10, 11, 12, 13, 15, 16] [130] σ σ1 → pTerm ch n w a = pTail ch n w m a1 bs pt → V G X 1 0 0 14 [(0, Rf G 123)] [] (wld G σ1) := by
    intro m
    induction m with
    | zero =>
      intro a1 pt bs σ1 hm hi hT hR1 hO1 hpt hF1 he
      exact absurd hO1.le (by omega)
    | succ m ih =>
      intro a1 pt bs σ1 hm hi hT hR1 hO1 hpt hF1 he
      have a200_ := hO1.le
      refine V.aload_n C 0 rfl rfl dX10_readTerm_14 ?_
      refine V.cVi C lX10_85 oX10_isFine dX10_readTerm_15 (ct_M_fine G σ1) (by assumption) rfl rfl (Nat.le_of_ble_eq_true rfl) ⟨Nat.le_of_ble_eq_true rfl, Nat.le_of_ble_eq_true rfl⟩ ⟨Nat.le_of_ble_eq_true rfl, Nat.le_of_ble_eq_true rfl⟩ (fun rr_15 σ15 pp_15 => ?_)
      obtain ⟨ee_15, ff_15⟩ := pp_15
      rw [ee_15, ff_15]
      refine V.if_eq C 43 dX10_readTerm_18 rfl (fun hb_18 => ?_) (fun hb_18 => ?_)
      · exact absurd (bI_eq0 hb_18) (by rw [decide_eq_true hO1.2.2]; decide)
      · refine V.aload_n C 0 rfl rfl dX10_readTerm_21 ?_
        refine V.bipush C (nI 46) b_46 dX10_readTerm_22 ?_
        refine V.cVi C lX10_105 oX10_isSign dX10_readTerm_24 (ct_M_sign G σ1 (nI 46)) (by assumption) rfl rfl (Nat.le_of_ble_eq_true rfl) ⟨Nat.le_of_ble_eq_true rfl, Nat.le_of_ble_eq_true rfl⟩ ⟨Nat.le_of_ble_eq_true rfl, Nat.le_of_ble_eq_true rfl⟩ (fun rr_24 σ24 pp_24 => ?_)
        obtain ⟨ee_24, ff_24⟩ := pp_24
        rw [ee_24, ff_24, hO1.sg (by decide)]
        refine V.if_eq C 43 dX10_readTerm_27 rfl (fun hb_27 => ?_) (fun hb_27 => ?_)
        · have z_ : ¬ kKT ch n a1 = 46 := of_decide_eq_false (bI_eq0 hb_27)
          exact V.vretS C R dX10_readTerm_43 (by
            refine ⟨Or.inl ⟨bs, a1, ?_, hO1, hR1⟩, hF1⟩
            rw [he]; unfold pTail; rw [if_neg z_])
        · have z_ : kKT ch n a1 = 46 := of_decide_eq_true (bI_ne0 hb_27)
          have lt_ : a1 < n := kKT_lt (ch := ch) (by rw [z_]; decide)
          refine V.aload_n C 0 rfl rfl dX10_readTerm_30 ?_
          refine V.iconst C (nI 1) c_1 dX10_readTerm_31 ?_
          show V G X 1 0 0 32 _ [.int (bI true), Rf G 123] (wld G σ1)
          refine V.cVi C lX10_92 oX10_take dX10_readTerm_32 (ct_M_take G σ1 n ch a1 true hO1 (fun _ => lt_)) (by assumption) rfl rfl (Nat.le_of_ble_eq_true rfl) ⟨Nat.le_of_ble_eq_true rfl, Nat.le_of_ble_eq_true rfl⟩ ⟨Nat.le_of_ble_eq_true rfl, Nat.le_of_ble_eq_true rfl⟩ (fun rr_32 σ32 pp_32 => ?_)
          have o32_ := pp_32.2.1 rfl
          have f_32 := pp_32.2.2.2
          refine V.pop C rfl dX10_readTerm_35 ?_
          refine V.aload_n C 0 rfl rfl dX10_readTerm_36 ?_
          refine V.cVv C lX10_122 oX10_readPart dX10_readTerm_37 (ct_M_part G σ32 n ch (nxT ch n a1) (pt + 1) w bs o32_ (hR1.fm f_32 (by decide) (by decide)) (by have := hT.2.1; omega) (by rw [f_32.f (by decide)]; exact hpt) (fun v hv => by rw [f_32.a (by decide), hF1.a (by decide)]; exact hw v hv)) (by assumption) rfl rfl (Nat.le_of_ble_eq_true rfl) ⟨Nat.le_of_ble_eq_true rfl, Nat.le_of_ble_eq_true rfl⟩ ⟨Nat.le_of_ble_eq_true rfl, Nat.le_of_ble_eq_true rfl⟩ (fun σ37 pp_37 => ?_)
          refine V.goto C 14 dX10_readTerm_40 rfl ?_
          have F37_ : FM [9, 10, 11, 12, 13, 15, 16] [130] σ σ37 := (hF1.trans (f_32.mono (by decide) (by decide))).trans pp_37.2.2
          rcases pp_37.1 with ⟨l_, b_, pe_, ok_, hR_⟩ | ⟨e_, pe_, er_⟩
          · obtain ⟨g1_, g2_, g3_⟩ := pPart_ok hO.ch (fun v hv => (hw v hv).2) pe_
            have g4_ := nxT_gt (ch := ch) lt_
            refine ih b_ (pt + 1) (bs ++ l_) σ37 (by omega) (by omega) (hT.app g1_) hR_ ok_ pp_37.2.1 F37_ ?_
            rw [he]
            conv => lhs; unfold pTail
            rw [if_pos z_, pe_]
          · refine bad e_ σ37 er_ F37_ ?_
            rw [he]; unfold pTail; rw [if_pos z_, pe_]
  refine V.aload_n C 0 rfl rfl dX10_readTerm_0 ?_
  refine V.iconst C (nI 0) c_0 dX10_readTerm_1 ?_
  refine V.putI C fX10_96 dX10_readTerm_2 (by assumption) rfl ?_
  skip
  refine V.aload_n C 0 rfl rfl dX10_readTerm_5 ?_
  refine V.iconst C (nI 0) c_0 dX10_readTerm_6 ?_
  refine V.putI C fX10_99 dX10_readTerm_7 (by assumption) rfl ?_
  have R0_ : RMb (sF (sF σ 123 15 (nI 0)) 123 16 (nI 0)) [] := ⟨by rw [sF_ne _ _ (by omega), sF_F]; rfl, by decide, fun i hi => absurd hi (Nat.not_lt_zero _)⟩
  have F0_ : FM [15, 16] [] σ (sF (sF σ 123 15 (nI 0)) 123 16 (nI 0)) := ((FM.refl _ _ _).sF _ (by decide)).sF _ (by decide)
  refine V.aload_n C 0 rfl rfl dX10_readTerm_10 ?_
  refine V.cVv C lX10_122 oX10_readPart dX10_readTerm_11 (ct_M_part G _ n ch a 0 w [] (hO.fm F0_ (by decide) (by decide)) R0_ (by decide) (sF_F _ _ _ _) (fun v hv => by rw [F0_.a (by decide)]; exact hw v hv)) (by assumption) rfl rfl (Nat.le_of_ble_eq_true rfl) ⟨Nat.le_of_ble_eq_true rfl, Nat.le_of_ble_eq_true rfl⟩ ⟨Nat.le_of_ble_eq_true rfl, Nat.le_of_ble_eq_true rfl⟩ (fun σ11 pp_11 => ?_)
  have F11_ : FM [9, 10, 11, 12, 13, 15, 16] [130] σ σ11 := (F0_.mono (by decide) (by decide)).trans pp_11.2.2
  rcases pp_11.1 with ⟨l_, b_, pe_, ok_, hR_⟩ | ⟨e_, pe_, er_⟩
  · obtain ⟨g1_, g2_, g3_⟩ := pPart_ok hO.ch (fun v hv => (hw v hv).2) pe_
    exact loop 201 b_ 0 l_ σ11 (by omega) (by omega) (TW.first g1_) hR_ ok_ pp_11.2.1 F11_ (by unfold pTerm; rw [pe_])
  · exact bad e_ σ11 er_ F11_ (by unfold pTerm; rw [pe_])
set_option maxRecDepth 100000 in
set_option maxHeartbeats 4000000 in
theorem ct_M_putTerm (G : Gl) (σ : SS) (bs : List Nat) (at_ : Nat) (hR : RMb σ bs) (hb : bs.length ≤ 16) (hat : at_ + 16 ≤ 439) : CV G mX10_putTerm [Rf G 123, .int (nI at_)] σ (fun σ1 => (∀ j, j < bs.length → σ1.2.1 125 (at_ + j) = nI (rowT bs j)) ∧ (∀ j, (j < at_ ∨ at_ + bs.length ≤ j) → σ1.2.1 125 j = σ.2.1 125 j) ∧ FM [] [125] σ σ1) := by
  refine Ctr.of oX10_putTerm (Nat.le_of_ble_eq_true rfl) ?_
  intro X C R hnm hz0
  have C : Cx G X cX10_putTerm 3 RX10 0 0 0 0 := C
  have R : Cr G X none 0 0 _ := R
  show V G X 3 0 0 0 [(0, Rf G 123), (1, .int (nI at_))] [] (wld G σ)
  have kk_123 := sk_123
  have kk_124 := sk_124
  have kk_125 := sk_125
  have kk_129 := sk_129
  have kk_130 := sk_130
  have loop : ∀ (m k : Nat) (σ1 : SS), bs.length < k + m → k ≤ bs.length → (∀ j, j < k → σ1.2.1 125 (at_ + j) = nI (rowT bs j)) → (∀ j, (j < at_ ∨ at_ + bs.length ≤ j) → σ1.2.1 125 j = σ.2.1 125 j) → FM [] [125] σ σ1 → V G X 3 0 0 2 [(0, Rf G 123), (1, .int (nI at_)), (2, .int (nI k))] [] (wld G σ1) := by
    intro m
    induction m with
    | zero =>
      intro k σ1 hm hk hn hold hF1
      exact absurd hm (by omega)
    | succ m ih =>
      intro k σ1 hm hk hn hold hF1
      have hR1 := hR.fm hF1 (by decide) (by decide)
      refine V.iload_n C 2 rfl rfl dX10_putTerm_2 ?_
      refine V.aload_n C 0 rfl rfl dX10_putTerm_3 ?_
      refine V.getI C fX10_96 dX10_putTerm_4 (by assumption) rfl ?_
      rw [hR1.1]
      refine V.icmp_ge C 43 dX10_putTerm_7 rfl (fun hb_7 => ?_) (fun hb_7 => ?_)
      · have zk_ : k = bs.length := by have := (nI_leI (by omega) (by omega)).mp hb_7; omega
        exact V.vretS C R dX10_putTerm_43 (by
          subst zk_
          exact ⟨hn, hold, hF1⟩)
      · have zk_ : k < bs.length := Nat.lt_of_not_le (fun q => hb_7 (nI_le q (by omega)))
        refine V.iload_n C 2 rfl rfl dX10_putTerm_10 ?_
        refine V.bipush C (nI 16) b_16 dX10_putTerm_11 ?_
        refine V.icmp_ge C 43 dX10_putTerm_13 rfl (fun hb_13 => ?_) (fun hb_13 => ?_)
        · exact absurd ((nI_leI (by decide) (by omega)).mp hb_13) (by omega)
        · refine V.aload_n C 0 rfl rfl dX10_putTerm_16 ?_
          refine V.getR C fX10_13 dX10_putTerm_17 (by assumption) rfl ?_
          refine V.iload_n C 1 rfl rfl dX10_putTerm_20 ?_
          refine V.iload_n C 2 rfl rfl dX10_putTerm_21 ?_
          skip
          refine V.iadd C dX10_putTerm_22 ?_
          refine V.aload_n C 0 rfl rfl dX10_putTerm_23 ?_
          refine V.getR C fX10_29 dX10_putTerm_24 (by assumption) rfl ?_
          refine V.aload_n C 0 rfl rfl dX10_putTerm_27 ?_
          refine V.getI C fX10_96 dX10_putTerm_28 (by assumption) rfl ?_
          rw [hR1.1]
          refine V.iconst C (nI 1) c_1 dX10_putTerm_31 ?_
          refine V.isub C dX10_putTerm_32 ?_
          refine V.iload_n C 2 rfl rfl dX10_putTerm_33 ?_
          refine V.isub C dX10_putTerm_34 ?_
          rw [show nI bs.length - nI 1 - nI k = nI (bs.length - 1 - k) by rw [nI_sub (by omega), nI_sub (by omega)]]
          refine V.ialdN C dX10_putTerm_35 (by assumption) (by omega) ?_
          rw [hR1.2.2 _ (by omega) (by omega)]
          rw [nI_add]
          refine V.iastN C dX10_putTerm_36 (by assumption) (by omega) ?_
          refine V.iinc C (nI (k + 1)) dX10_putTerm_37 rfl (nI_1 k) (by decide) ?_
          refine V.goto C 2 dX10_putTerm_40 rfl ?_
          refine V.lvs (lv' := [(0, Rf G 123), (1, .int (nI at_)), (2, .int (nI (k + 1)))]) rfl ?_
          refine ih (k + 1) _ (by omega) (by omega) (fun j hj => ?_) (fun j hj => ?_) (hF1.sA _ (by decide))
          · rw [sA_A]
            by_cases e_ : j = k
            · rw [e_, up_eq]; rfl
            · rw [up_ne _ _ (by omega)]; exact hn j (by omega)
          · rw [sA_A, up_ne _ _ (by omega)]; exact hold j hj
  refine V.iconst C (nI 0) c_0 dX10_putTerm_0 ?_
  refine V.istore_n C 2 dX10_putTerm_1 rfl (by decide) ?_
  refine V.lvs (lv' := [(0, Rf G 123), (1, .int (nI at_)), (2, .int (nI 0))]) rfl ?_
  exact loop (bs.length + 1) 0 σ (by omega) (by omega) (fun j hj => absurd hj (by omega)) (fun j _ => rfl) (FM.refl _ _ _)
