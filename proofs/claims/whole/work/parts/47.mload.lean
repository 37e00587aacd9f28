/-! The model's keep, load. -/
/-- the model's history -/
def RHm (σ : SS) (hs : List Prob) : Prop := σ.1 123 4 = nI hs.length ∧ hs.length ≤ 6 ∧ ∀ (i : Nat) (Q : Prob), hs[i]? = some Q → FP (fun k => σ.2.1 126 (439 * i + k)) Q
def wfH (hs : List Prob) : Prop := ∀ (i : Nat) (Q : Prob), hs[i]? = some Q → wfP Q
theorem RHm.fm {fs as : List Nat} {σ σ1 : SS} {hs : List Prob} (h : RHm σ hs) (hF : FM fs as σ σ1) (h1 : 4 ∉ fs) (h2 : 126 ∉ as) : RHm σ1 hs := by
  unfold RHm; rw [hF.f h1, hF.a h2]; exact h
theorem app_getP {l : List Prob} {t : Prob} {i : Nat} {s : Prob} (h : (l ++ [t])[i]? = some s) : l[i]? = some s ∨ (i = l.length ∧ s = t) := by
  rw [List.getElem?_append] at h
  split at h
  · exact Or.inl h
  · rcases Nat.eq_zero_or_pos (i - l.length) with q | q
    · rw [q] at h; cases h; exact Or.inr ⟨by omega, rfl⟩
    · rw [List.getElem?_eq_none (by simp; omega)] at h; cases h
theorem FP.zero {f : Nat → Int32} (h : ∀ j, j < 439 → f j = nI 0) : FP f pb0 :=
  ⟨fun v hv => h v (by omega), h 8 (by decide), h 9 (by decide), fun i s hs => by simp [pb0] at hs, fun i s hs => by simp [pb0] at hs⟩
set_option maxRecDepth 100000 in
set_option maxHeartbeats 4000000 in
theorem ct_M_keep (G : Gl) (σ : SS) (P : Prob) (hs : List Prob) (hP : FP (σ.2.1 124) P) (hwf : wfP P) (hH : RHm σ hs) (hwH : wfH hs) : CV G mX10_keep [Rf G 123] σ (fun σ1 => RHm σ1 (pushH hs P) ∧ FM [4] [126] σ σ1) := by
  refine Ctr.of oX10_keep (Nat.le_of_ble_eq_true rfl) ?_
  intro X C R hnm hz0
  have C : Cx G X cX10_keep 2 RX10 0 0 0 0 := C
  have R : Cr G X none 0 0 _ := R
  show V G X 2 0 0 0 [(0, Rf G 123)] [] (wld G σ)
  have kk_123 := sk_123
  have kk_124 := sk_124
  have kk_125 := sk_125
  have kk_126 := sk_126
  have kk_129 := sk_129
  have kk_130 := sk_130
  have loopB : ∀ (l : List Prob) (g : Nat → Int32), l.length + 1 ≤ 6 → pushH hs P = l ++ [P] → wfH l → (∀ (i : Nat) (Q : Prob), l[i]? = some Q → FP (fun k => g (439 * i + k)) Q) → ∀ (m k : Nat) (σ2 : SS), 439 < k + m → k ≤ 439 → σ2.1 123 4 = nI l.length → (∀ j, j < k → σ2.2.1 126 (439 * l.length + j) = σ.2.1 124 j) → (∀ j, j < 439 * l.length → σ2.2.1 126 j = g j) → FM [4] [126] σ σ2 → V G X 2 0 0 52 [(0, Rf G 123), (1, .int (nI k))] [] (wld G σ2) := by
    intro l g hl6 hpush hlw hh m
    induction m with
    | zero =>
      intro k σ2 hm hk hd h1 h2 hF2
      exact absurd hm (by omega)
    | succ m ih =>
      intro k σ2 hm hk hd h1 h2 hF2
      refine V.iload_n C 1 rfl rfl dX10_keep_52 ?_
      refine V.sipush C (nI 439) s_439 dX10_keep_53 ?_
      refine V.icmp_ge C 86 dX10_keep_56 rfl (fun hb_56 => ?_) (fun hb_56 => ?_)
      · have zk_ : k = 439 := by have := (nI_leI (by decide) (by omega)).mp hb_56; omega
        refine V.aload_n C 0 rfl rfl dX10_keep_86 ?_
        refine V.dup C rfl dX10_keep_87 ?_
        refine V.getI C fX10_144 dX10_keep_88 (by assumption) rfl ?_
        rw [hd]
        refine V.iconst C (nI 1) c_1 dX10_keep_91 ?_
        refine V.iadd C dX10_keep_92 ?_
        rw [nI_add]
        refine V.putI C fX10_144 dX10_keep_93 (by assumption) rfl ?_
        exact V.vretS C R dX10_keep_96 (by
          subst zk_
          have Fe_ : FM [4] [] σ2 (sF σ2 123 4 (nI (l.length + 1))) := (FM.refl _ _ _).sF _ (by decide)
          refine ⟨?_, hF2.trans (Fe_.mono (by decide) (by decide))⟩
          rw [hpush]
          refine ⟨by rw [sF_F, List.length_append]; rfl, by rw [List.length_append]; exact hl6, fun i Q hQ => ?_⟩
          rw [Fe_.a (by decide)]
          rcases app_getP hQ with z | ⟨z, rfl⟩
          · have hi := (List.getElem?_eq_some_iff.mp z).1
            exact (hh i Q z).copy (hlw i Q z) (fun j hj => by show σ2.2.1 126 (439 * i + j) = g (439 * i + j); exact h2 _ (by omega))
          · rw [z]; exact hP.copy hwf (fun j hj => h1 j hj))
      · have zk_ : k < 439 := Nat.lt_of_not_le (fun q => hb_56 (nI_le q (by omega)))
        refine V.aload_n C 0 rfl rfl dX10_keep_59 ?_
        refine V.getR C fX10_16 dX10_keep_60 (by assumption) rfl ?_
        refine V.sipush C (nI 439) s_439 dX10_keep_63 ?_
        refine V.aload_n C 0 rfl rfl dX10_keep_66 ?_
        refine V.getI C fX10_144 dX10_keep_67 (by assumption) rfl ?_
        rw [hd]
        refine V.imul C dX10_keep_70 ?_
        refine V.iload_n C 1 rfl rfl dX10_keep_71 ?_
        refine V.iadd C dX10_keep_72 ?_
        refine V.aload_n C 0 rfl rfl dX10_keep_73 ?_
        refine V.getR C fX10_7 dX10_keep_74 (by assumption) rfl ?_
        refine V.iload_n C 1 rfl rfl dX10_keep_77 ?_
        refine V.ialdN C dX10_keep_78 (by assumption) (by omega) ?_
        skip
        rw [nI_mul, nI_add]
        refine V.iastN C dX10_keep_79 (by assumption) (by omega) ?_
        refine V.iinc C (nI (k + 1)) dX10_keep_80 rfl (nI_1 k) (by decide) ?_
        refine V.goto C 52 dX10_keep_83 rfl ?_
        refine V.lvs (lv' := [(0, Rf G 123), (1, .int (nI (k + 1)))]) rfl ?_
        refine ih (k + 1) _ (by omega) (by omega) hd (fun j hj => ?_) (fun j hj => ?_) (hF2.sA _ (by decide))
        · rw [sA_A]
          by_cases e_ : j = k
          · rw [e_, up_eq, hF2.a (by decide)]
          · rw [up_ne _ _ (by omega)]; exact h1 j (by omega)
        · rw [sA_A, up_ne _ _ (by omega)]; exact h2 j hj
  have lA_ : hs.length = 6 → ∀ (m k : Nat) (σ2 : SS), 2195 < k + m → k ≤ 2195 → (∀ j, j < k → σ2.2.1 126 j = σ.2.1 126 (439 + j)) → (∀ j, k ≤ j → σ2.2.1 126 j = σ.2.1 126 j) → FM [] [126] σ σ2 → V G X 2 0 0 11 [(0, Rf G 123), (1, .int (nI k))] [] (wld G σ2) := by
    intro z6_
    have loopA : ∀ (m k : Nat) (σ2 : SS), 2195 < k + m → k ≤ 2195 → (∀ j, j < k → σ2.2.1 126 j = σ.2.1 126 (439 + j)) → (∀ j, k ≤ j → σ2.2.1 126 j = σ.2.1 126 j) → FM [] [126] σ σ2 → V G X 2 0 0 11 [(0, Rf G 123), (1, .int (nI k))] [] (wld G σ2) := by
      intro m
      induction m with
      | zero =>
        intro k σ2 hm hk h1 h2 hF2
        exact absurd hm (by omega)
      | succ m ih =>
        intro k σ2 hm hk h1 h2 hF2
        refine V.iload_n C 1 rfl rfl dX10_keep_11 ?_
        refine V.sipush C (nI 2195) s_2195 dX10_keep_12 ?_
        refine V.icmp_ge C 40 dX10_keep_15 rfl (fun hb_15 => ?_) (fun hb_15 => ?_)
        · have zk_ : k = 2195 := by have := (nI_leI (by decide) (by omega)).mp hb_15; omega
          refine V.aload_n C 0 rfl rfl dX10_keep_40 ?_
          refine V.dup C rfl dX10_keep_41 ?_
          refine V.getI C fX10_144 dX10_keep_42 (by assumption) rfl ?_
          rw [hF2.f (by decide), hH.1, z6_]
          refine V.iconst C (nI 1) c_1 dX10_keep_45 ?_
          refine V.isub C dX10_keep_46 ?_
          rw [nI_sub (by omega)]
          refine V.putI C fX10_144 dX10_keep_47 (by assumption) rfl ?_
          refine V.iconst C (nI 0) c_0 dX10_keep_50 ?_
          refine V.istore_n C 1 dX10_keep_51 rfl (by decide) ?_
          subst zk_
          have Fe_ : FM [4] [] σ2 (sF σ2 123 4 (nI (6 - 1))) := (FM.refl _ _ _).sF _ (by decide)
          refine V.lvs (lv' := [(0, Rf G 123), (1, .int (nI 0))]) rfl ?_
          have dl_ : (hs.drop 1).length = 5 := by rw [List.length_drop, z6_]
          refine loopB (hs.drop 1) (σ2.2.1 126) (by omega) (by unfold pushH; rw [if_neg (by omega)]) (fun i Q hQ => ?_) (fun i Q hQ => ?_) 440 0 _ (by omega) (by omega) (by rw [sF_F, dl_]) (fun j hj => absurd hj (by omega)) (fun j _ => by rw [Fe_.a (by decide)]) ((hF2.mono (by decide) (by decide)).trans (Fe_.mono (by decide) (by decide)))
          · rw [List.getElem?_drop] at hQ; exact hwH _ Q hQ
          · have hi := (List.getElem?_eq_some_iff.mp hQ).1
            rw [List.getElem?_drop] at hQ
            refine (hH.2.2 _ Q hQ).copy (hwH _ Q hQ) (fun j hj => ?_)
            rw [dl_] at hi
            show σ2.2.1 126 (439 * i + j) = σ.2.1 126 (439 * (1 + i) + j)
            rw [h1 _ (by omega), show 439 + (439 * i + j) = 439 * (1 + i) + j by omega]
        · have zk_ : k < 2195 := Nat.lt_of_not_le (fun q => hb_15 (nI_le q (by omega)))
          refine V.aload_n C 0 rfl rfl dX10_keep_18 ?_
          refine V.getR C fX10_16 dX10_keep_19 (by assumption) rfl ?_
          refine V.iload_n C 1 rfl rfl dX10_keep_22 ?_
          refine V.aload_n C 0 rfl rfl dX10_keep_23 ?_
          refine V.getR C fX10_16 dX10_keep_24 (by assumption) rfl ?_
          refine V.sipush C (nI 439) s_439 dX10_keep_27 ?_
          refine V.iload_n C 1 rfl rfl dX10_keep_30 ?_
          refine V.iadd C dX10_keep_31 ?_
          rw [nI_add]
          refine V.ialdN C dX10_keep_32 (by assumption) (by omega) ?_
          refine V.iastN C dX10_keep_33 (by assumption) (by omega) ?_
          refine V.iinc C (nI (k + 1)) dX10_keep_34 rfl (nI_1 k) (by decide) ?_
          refine V.goto C 11 dX10_keep_37 rfl ?_
          refine V.lvs (lv' := [(0, Rf G 123), (1, .int (nI (k + 1)))]) rfl ?_
          refine ih (k + 1) _ (by omega) (by omega) (fun j hj => ?_) (fun j hj => ?_) (hF2.sA _ (by decide))
          · rw [sA_A]
            by_cases e_ : j = k
            · rw [e_, up_eq]; exact h2 _ (by omega)
            · rw [up_ne _ _ (by omega)]; exact h1 j (by omega)
          · rw [sA_A, up_ne _ _ (by omega)]; exact h2 j (by omega)
    exact loopA
  refine V.aload_n C 0 rfl rfl dX10_keep_0 ?_
  refine V.getI C fX10_144 dX10_keep_1 (by assumption) rfl ?_
  rw [hH.1]
  refine V.bipush C (nI 6) b_6 dX10_keep_4 ?_
  refine V.icmp_ne C 50 dX10_keep_6 rfl (fun hb_6 => ?_) (fun hb_6 => ?_)
  · have z6_ : hs.length < 6 := by
      have := hH.2.1
      rcases Nat.lt_or_ge hs.length 6 with q | q
      · exact q
      · exact absurd (by rw [show hs.length = 6 by omega]) hb_6
    refine V.iconst C (nI 0) c_0 dX10_keep_50 ?_
    refine V.istore_n C 1 dX10_keep_51 rfl (by decide) ?_
    refine V.lvs (lv' := [(0, Rf G 123), (1, .int (nI 0))]) rfl ?_
    exact loopB hs (σ.2.1 126) (by omega) (by unfold pushH; rw [if_pos z6_]) hwH (fun i Q hQ => hH.2.2 i Q hQ) 440 0 σ (by omega) (by omega) hH.1 (fun j hj => absurd hj (by omega)) (fun j _ => rfl) (FM.refl _ _ _)
  · have z6_ : hs.length = 6 := nI_pe (by have := hH.2.1; omega) (by decide) hb_6
    refine V.iconst C (nI 0) c_0 dX10_keep_9 ?_
    refine V.istore_n C 1 dX10_keep_10 rfl (by decide) ?_
    refine V.lvs (lv' := [(0, Rf G 123), (1, .int (nI 0))]) rfl ?_
    exact lA_ z6_ 2196 0 σ (by omega) (by omega) (fun j hj => absurd hj (by omega)) (fun j _ => rfl) (FM.refl _ _ _)
theorem tok0 {ch : Nat → Nat} {n a : Nat} (hc : ∀ i, i < n → ch i < 256) (h : tokM ch n a = 0) : kKT ch n a = 261 := by
  rcases tok_cases hc a with q | q | q | q | q | q | ⟨q, qb⟩
  case inr.inr.inr.inr.inr.inl => exact q
  case inr.inr.inr.inr.inr.inr =>
    obtain ⟨z1, z2, z3⟩ := kdT_sg (a := a) hc (by omega)
    rw [(sig_tok hc z1 z2 z3).2.2] at h
    split at h <;> exact absurd h (by decide)
  all_goals
    unfold tokM at h
    rw [q] at h
    revert h
    generalize isSg (ch a) = bb
    intro h
    exfalso
    revert bb; decide
set_option maxRecDepth 100000 in
set_option maxHeartbeats 4000000 in
theorem ct_M_load (G : Gl) (σ : SS) (n : Nat) (ch : Nat → Nat) (P : Prob) (hs : List Prob) (hT : MT σ n ch) (hP : FP (σ.2.1 124) P) (hwf : wfP P) (hH : RHm σ hs) (hwH : wfH hs) : CI G mX10_load [Rf G 123] σ (fun r σ1 => ((∃ P1, pText ch n = .ok P1 ∧ r = nI (P1.2.1.length + P1.2.2.length) ∧ FP (σ1.2.1 124) P1 ∧ RHm σ1 (pushH hs P) ∧ σ1.1 123 8 = nI 0) ∨ (∃ e, pText ch n = .error e ∧ r = -10 - nI e ∧ FP (σ1.2.1 124) P ∧ RHm σ1 hs ∧ MT σ1 n ch)) ∧ FM [0, 4, 8, 9, 10, 11, 12, 13, 15, 16] [124, 125, 126, 130] σ σ1) := by
  refine Ctr.of oX10_load (Nat.le_of_ble_eq_true rfl) ?_
  intro X C R hnm hz0
  have C : Cx G X cX10_load 2 RX10 10 218 0 0 := C
  have R : Cr G X (some .int) 0 0 _ := R
  show V G X 2 0 0 0 [(0, Rf G 123)] [] (wld G σ)
  have kk_123 := sk_123
  have kk_124 := sk_124
  have kk_125 := sk_125
  have kk_126 := sk_126
  have kk_129 := sk_129
  have kk_130 := sk_130
  have loopC : ∀ (P1 : Prob), pText ch n = .ok P1 → wfP P1 → ∀ (m k : Nat) (σ2 : SS), 439 < k + m → k ≤ 439 → RHm σ2 (pushH hs P) → FP (σ2.2.1 125) P1 → (∀ j, j < k → σ2.2.1 124 j = σ2.2.1 125 j) → FM [0, 4, 8, 9, 10, 11, 12, 13, 15, 16] [124, 125, 126, 130] σ σ2 → V G X 2 0 0 84 [(0, Rf G 123), (1, .int (nI k))] [] (wld G σ2) := by
    intro P1 hp hwQ m
    induction m with
    | zero =>
      intro k σ2 hm hk hK hQ h1 hF2
      exact absurd hm (by omega)
    | succ m ih =>
      intro k σ2 hm hk hK hQ h1 hF2
      refine V.iload_n C 1 rfl rfl dX10_load_84 ?_
      refine V.sipush C (nI 439) s_439 dX10_load_85 ?_
      refine V.icmp_ge C 109 dX10_load_88 rfl (fun hb_88 => ?_) (fun hb_88 => ?_)
      · have zk_ : k = 439 := by have := (nI_leI (by decide) (by omega)).mp hb_88; omega
        refine V.aload_n C 0 rfl rfl dX10_load_109 ?_
        refine V.iconst C (nI 0) c_0 dX10_load_110 ?_
        refine V.putI C fX10_51 dX10_load_111 (by assumption) rfl ?_
        subst zk_
        have Pe_ : FP (σ2.2.1 124) P1 := hQ.copy hwQ (fun j hj => h1 j hj)
        refine V.aload_n C 0 rfl rfl dX10_load_114 ?_
        refine V.getR C fX10_7 dX10_load_115 (by assumption) rfl ?_
        refine V.bipush C (nI 8) b_8 dX10_load_118 ?_
        refine V.ialdN C dX10_load_120 (by assumption) (by omega) ?_
        rw [show (sF σ2 123 8 (nI 0)).2.1 124 8 = nI P1.2.1.length from Pe_.2.1]
        refine V.aload_n C 0 rfl rfl dX10_load_121 ?_
        refine V.getR C fX10_7 dX10_load_122 (by assumption) rfl ?_
        refine V.bipush C (nI 9) b_9 dX10_load_125 ?_
        refine V.ialdN C dX10_load_127 (by assumption) (by omega) ?_
        rw [show (sF σ2 123 8 (nI 0)).2.1 124 9 = nI P1.2.2.length from Pe_.2.2.1]
        refine V.iadd C dX10_load_128 ?_
        rw [nI_add]
        exact V.iretS C R dX10_load_129 ⟨Or.inl ⟨P1, hp, rfl, Pe_, hK.fm ((FM.refl [8] [] σ2).sF _ (by decide)) (by decide) (by decide), sF_F _ _ _ _⟩, hF2.sF _ (by decide)⟩
      · have zk_ : k < 439 := Nat.lt_of_not_le (fun q => hb_88 (nI_le q (by omega)))
        refine V.aload_n C 0 rfl rfl dX10_load_91 ?_
        refine V.getR C fX10_7 dX10_load_92 (by assumption) rfl ?_
        refine V.iload_n C 1 rfl rfl dX10_load_95 ?_
        refine V.aload_n C 0 rfl rfl dX10_load_96 ?_
        refine V.getR C fX10_13 dX10_load_97 (by assumption) rfl ?_
        refine V.iload_n C 1 rfl rfl dX10_load_100 ?_
        refine V.ialdN C dX10_load_101 (by assumption) (by omega) ?_
        refine V.iastN C dX10_load_102 (by assumption) (by omega) ?_
        refine V.iinc C (nI (k + 1)) dX10_load_103 rfl (nI_1 k) (by decide) ?_
        refine V.goto C 84 dX10_load_106 rfl ?_
        refine V.lvs (lv' := [(0, Rf G 123), (1, .int (nI (k + 1)))]) rfl ?_
        refine ih (k + 1) _ (by omega) (by omega) (hK.fm ((FM.refl [] [124] σ2).sA _ (by decide)) (by decide) (by decide)) (by rw [sA_ne _ _ (by decide)]; exact hQ) (fun j hj => ?_) (hF2.sA _ (by decide))
        rw [sA_A, sA_ne _ _ (by decide)]
        by_cases e_ : j = k
        · rw [e_, up_eq]
        · rw [up_ne _ _ (by omega)]; exact h1 j (by omega)
  have bad : ∀ (e : Nat) (σ1 : SS), Er σ1 e → FM [0, 9, 10, 11, 12, 13, 15, 16] [125, 130] σ σ1 → pText ch n = .error e → V G X 2 0 0 42 [(0, Rf G 123), (1, .int (nI 439))] [] (wld G σ1) := by
    intro e σ1 hE hF1 he
    refine V.aload_n C 0 rfl rfl dX10_load_42 ?_
    refine V.cVi C lX10_85 oX10_isFine dX10_load_43 (ct_M_fine G σ1) (by assumption) rfl rfl (Nat.le_of_ble_eq_true rfl) ⟨Nat.le_of_ble_eq_true rfl, Nat.le_of_ble_eq_true rfl⟩ ⟨Nat.le_of_ble_eq_true rfl, Nat.le_of_ble_eq_true rfl⟩ (fun rr_43 σ43 pp_43 => ?_)
    obtain ⟨ee_43, ff_43⟩ := pp_43
    rw [ee_43, ff_43]
    refine V.if_eq C 63 dX10_load_46 rfl (fun hb_46 => ?_) (fun hb_46 => ?_)
    · refine V.aload_n C 0 rfl rfl dX10_load_63 ?_
      refine V.cVi C lX10_85 oX10_isFine dX10_load_64 (ct_M_fine G σ1) (by assumption) rfl rfl (Nat.le_of_ble_eq_true rfl) ⟨Nat.le_of_ble_eq_true rfl, Nat.le_of_ble_eq_true rfl⟩ ⟨Nat.le_of_ble_eq_true rfl, Nat.le_of_ble_eq_true rfl⟩ (fun rr_64 σ64 pp_64 => ?_)
      obtain ⟨ee_64, ff_64⟩ := pp_64
      rw [ee_64, ff_64]
      refine V.if_ne C 78 dX10_load_67 rfl (fun hb_67 => ?_) (fun hb_67 => ?_)
      · exact absurd (bI_ne0 hb_67) (by rw [decide_eq_false hE.ne]; decide)
      · refine V.bipush C ((-10)) b_m10 dX10_load_70 ?_
        refine V.aload_n C 0 rfl rfl dX10_load_72 ?_
        refine V.getI C fX10_82 dX10_load_73 (by assumption) rfl ?_
        rw [hE.1]
        refine V.isub C dX10_load_76 ?_
        exact V.iretS C R dX10_load_77 ⟨Or.inr ⟨e, he, rfl, by rw [hF1.a (by decide)]; exact hP, hH.fm hF1 (by decide) (by decide), hT.fm hF1 (by decide) (by decide)⟩, hF1.mono (by decide) (by decide)⟩
    · exact absurd (bI_ne0 hb_46) (by rw [decide_eq_false hE.ne]; decide)
  have loopI : ∀ (m : Nat) (P1 : Prob) (a1 : Nat) (σ1 : SS), 201 ≤ m + a1 → wfP P1 → FP (σ1.2.1 125) P1 → Ok σ1 n ch a1 → FM [0, 9, 10, 11, 12, 13, 15, 16] [125, 130] σ σ1 → pText ch n = pAll ch n m P1 a1 → V G X 2 0 0 42 [(0, Rf G 123), (1, .int (nI 439))] [] (wld G σ1) := by
    intro m
    induction m with
    | zero =>
      intro P1 a1 σ1 hm hwQ hQ hO1 hF1 he
      exact absurd hO1.le (by omega)
    | succ m ih =>
      intro P1 a1 σ1 hm hwQ hQ hO1 hF1 he
      have a200_ := hO1.le
      refine V.aload_n C 0 rfl rfl dX10_load_42 ?_
      refine V.cVi C lX10_85 oX10_isFine dX10_load_43 (ct_M_fine G σ1) (by assumption) rfl rfl (Nat.le_of_ble_eq_true rfl) ⟨Nat.le_of_ble_eq_true rfl, Nat.le_of_ble_eq_true rfl⟩ ⟨Nat.le_of_ble_eq_true rfl, Nat.le_of_ble_eq_true rfl⟩ (fun rr_43 σ43 pp_43 => ?_)
      obtain ⟨ee_43, ff_43⟩ := pp_43
      rw [ee_43, ff_43]
      refine V.if_eq C 63 dX10_load_46 rfl (fun hb_46 => ?_) (fun hb_46 => ?_)
      · exact absurd (bI_eq0 hb_46) (by rw [decide_eq_true hO1.2.2]; decide)
      · refine V.aload_n C 0 rfl rfl dX10_load_49 ?_
        refine V.getI C fX10_71 dX10_load_50 (by assumption) rfl ?_
        rw [hO1.2.1.2.2.2.1]
        refine V.if_eq C 63 dX10_load_53 rfl (fun hb_53 => ?_) (fun hb_53 => ?_)
        · have end_ := tok0 (fun i hi => (hT.2.2 i hi).2) hb_53
          refine V.aload_n C 0 rfl rfl dX10_load_63 ?_
          refine V.cVi C lX10_85 oX10_isFine dX10_load_64 (ct_M_fine G σ1) (by assumption) rfl rfl (Nat.le_of_ble_eq_true rfl) ⟨Nat.le_of_ble_eq_true rfl, Nat.le_of_ble_eq_true rfl⟩ ⟨Nat.le_of_ble_eq_true rfl, Nat.le_of_ble_eq_true rfl⟩ (fun rr_64 σ64 pp_64 => ?_)
          obtain ⟨ee_64, ff_64⟩ := pp_64
          rw [ee_64, ff_64]
          refine V.if_ne C 78 dX10_load_67 rfl (fun hb_67 => ?_) (fun hb_67 => ?_)
          · refine V.aload_n C 0 rfl rfl dX10_load_78 ?_
            refine V.cVv C lX10_141 oX10_keep dX10_load_79 (ct_M_keep G σ1 P hs (by rw [hF1.a (by decide)]; exact hP) hwf (hH.fm hF1 (by decide) (by decide)) hwH) (by assumption) rfl rfl (Nat.le_of_ble_eq_true rfl) ⟨Nat.le_of_ble_eq_true rfl, Nat.le_of_ble_eq_true rfl⟩ ⟨Nat.le_of_ble_eq_true rfl, Nat.le_of_ble_eq_true rfl⟩ (fun σ79 pp_79 => ?_)
            refine V.iconst C (nI 0) c_0 dX10_load_82 ?_
            refine V.istore_n C 1 dX10_load_83 rfl (by decide) ?_
            refine V.lvs (lv' := [(0, Rf G 123), (1, .int (nI 0))]) rfl ?_
            exact loopC P1 (by rw [he]; unfold pAll; rw [if_pos end_]) hwQ 440 0 σ79 (by omega) (by omega) pp_79.1 (by rw [pp_79.2.a (by decide)]; exact hQ) (fun j hj => absurd hj (by omega)) ((hF1.mono (by decide) (by decide)).trans (pp_79.2.mono (by decide) (by decide)))
          · exact absurd (bI_eq0 hb_67) (by rw [decide_eq_true hO1.2.2]; decide)
        · have end_ : ¬ kKT ch n a1 = 261 := fun q => hb_53 (by unfold tokM; rw [q]; rfl)
          refine V.aload_n C 0 rfl rfl dX10_load_56 ?_
          refine V.cVv C lX10_138 oX10_readItem dX10_load_57 (ct_M_item G σ1 n ch a1 P1 hO1 hQ hwQ) (by assumption) rfl rfl (Nat.le_of_ble_eq_true rfl) ⟨Nat.le_of_ble_eq_true rfl, Nat.le_of_ble_eq_true rfl⟩ ⟨Nat.le_of_ble_eq_true rfl, Nat.le_of_ble_eq_true rfl⟩ (fun σ57 pp_57 => ?_)
          refine V.goto C 42 dX10_load_60 rfl ?_
          have F57_ : FM [0, 9, 10, 11, 12, 13, 15, 16] [125, 130] σ σ57 := hF1.trans (pp_57.2.mono (by decide) (by decide))
          rcases pp_57.1 with ⟨P2_, b_, pe_, ok_, hQ_⟩ | ⟨e_, pe_, er_⟩
          · obtain ⟨g1_, g2_, g3_⟩ := pItem_ok hO1.ch hwQ pe_
            refine ih P2_ b_ σ57 (by omega) g1_ hQ_ ok_ F57_ ?_
            rw [he]
            conv => lhs; unfold pAll
            rw [if_neg end_, pe_]
          · refine bad e_ σ57 er_ F57_ ?_
            rw [he]; unfold pAll; rw [if_neg end_, pe_]
  have loopZ : ∀ (m k : Nat) (σ2 : SS), 439 < k + m → k ≤ 439 → (∀ j, j < k → σ2.2.1 125 j = nI 0) → FM [0] [125] σ σ2 → V G X 2 0 0 7 [(0, Rf G 123), (1, .int (nI k))] [] (wld G σ2) := by
    intro m
    induction m with
    | zero =>
      intro k σ2 hm hk h1 hF2
      exact absurd hm (by omega)
    | succ m ih =>
      intro k σ2 hm hk h1 hF2
      refine V.iload_n C 1 rfl rfl dX10_load_7 ?_
      refine V.sipush C (nI 439) s_439 dX10_load_8 ?_
      refine V.icmp_ge C 27 dX10_load_11 rfl (fun hb_11 => ?_) (fun hb_11 => ?_)
      · have zk_ : k = 439 := by have := (nI_leI (by decide) (by omega)).mp hb_11; omega
        refine V.aload_n C 0 rfl rfl dX10_load_27 ?_
        refine V.bipush C ((-9)) b_m9 dX10_load_28 ?_
        refine V.putI C fX10_82 dX10_load_30 (by assumption) rfl ?_
        refine V.aload_n C 0 rfl rfl dX10_load_33 ?_
        refine V.iconst C (nI 0) c_0 dX10_load_34 ?_
        refine V.putI C fX10_54 dX10_load_35 (by assumption) rfl ?_
        subst zk_
        have Fz_ : FM [9, 13] [] σ2 (sF (sF σ2 123 13 (-9)) 123 9 (nI 0)) := ((FM.refl _ _ _).sF _ (by decide)).sF _ (by decide)
        have hTz_ := (hT.fm hF2 (by decide) (by decide)).fm Fz_ (by decide) (by decide)
        refine V.aload_n C 0 rfl rfl dX10_load_38 ?_
        refine V.cVv C lX10_89 oX10_advance dX10_load_39 (ct_M_adv G _ n ch 0 hTz_ (sF_F _ _ _ _) (Nat.zero_le _)) (by assumption) rfl rfl (Nat.le_of_ble_eq_true rfl) ⟨Nat.le_of_ble_eq_true rfl, Nat.le_of_ble_eq_true rfl⟩ ⟨Nat.le_of_ble_eq_true rfl, Nat.le_of_ble_eq_true rfl⟩ (fun σ39 pp_39 => ?_)
        refine V.lvs (lv' := [(0, Rf G 123), (1, .int (nI 439))]) rfl ?_
        refine loopI 201 pb0 (skipT ch n 0) σ39 (by omega) wf0 (FP.zero (fun j hj => ?_)) ⟨hTz_.fm pp_39.2 (by decide) (by decide), pp_39.1, ?_⟩ ((hF2.mono (by decide) (by decide)).trans ((Fz_.mono (by decide) (by decide)).trans (pp_39.2.mono (by decide) (by decide)))) rfl
        · rw [pp_39.2.a (by decide)]; exact h1 j hj
        · rw [pp_39.2.f (by decide), sF_ne _ _ (by omega), sF_F]
      · have zk_ : k < 439 := Nat.lt_of_not_le (fun q => hb_11 (nI_le q (by omega)))
        refine V.aload_n C 0 rfl rfl dX10_load_14 ?_
        refine V.getR C fX10_13 dX10_load_15 (by assumption) rfl ?_
        refine V.iload_n C 1 rfl rfl dX10_load_18 ?_
        refine V.iconst C (nI 0) c_0 dX10_load_19 ?_
        refine V.iastN C dX10_load_20 (by assumption) (by omega) ?_
        refine V.iinc C (nI (k + 1)) dX10_load_21 rfl (nI_1 k) (by decide) ?_
        refine V.goto C 7 dX10_load_24 rfl ?_
        refine V.lvs (lv' := [(0, Rf G 123), (1, .int (nI (k + 1)))]) rfl ?_
        refine ih (k + 1) _ (by omega) (by omega) (fun j hj => ?_) (hF2.sA _ (by decide))
        rw [sA_A]
        by_cases e_ : j = k
        · rw [e_, up_eq]
        · rw [up_ne _ _ (by omega)]; exact h1 j (by omega)
  refine V.aload_n C 0 rfl rfl dX10_load_0 ?_
  refine V.iconst C (nI 0) c_0 dX10_load_1 ?_
  refine V.putI C fX10_47 dX10_load_2 (by assumption) rfl ?_
  refine V.iconst C (nI 0) c_0 dX10_load_5 ?_
  refine V.istore_n C 1 dX10_load_6 rfl (by decide) ?_
  refine V.lvs (lv' := [(0, Rf G 123), (1, .int (nI 0))]) rfl ?_
  exact loopZ 440 0 _ (by omega) (by omega) (fun j hj => absurd hj (by omega)) ((FM.refl _ _ _).sF _ (by decide))
