/-! The model's findCuts: the least closed set. -/
theorem stG_eq {P : Prob} (hw : wfP P) {i : Nat} {s : Stm} (h : P.2.1[i]? = some s) : stG P i = some s := by
  have hi := (List.getElem?_eq_some_iff.mp h).1
  have := hw.2.1
  unfold stG; rw [if_pos (by omega)]; exact h
def c2at (s : Stm) (K : Nat → Bool) (q : Nat) : Prop := (markT K s.2.1 q = true → sameP s.2.2 q = true → isV (s.2.2 q) = true → K (vb (s.2.2 q)) = true) ∧ (markT K s.2.2 q = true → sameP s.2.1 q = true → isV (s.2.1 q) = true → K (vb (s.2.1 q)) = true)
/-- the mark of a change is a boolean -/
def Z18 (σ : SS) : Prop := ∃ c, σ.1 123 18 = bI c
theorem Z18.fm {fs as : List Nat} {σ σ1 : SS} (h : Z18 σ) (hF : FM fs as σ σ1) (h1 : 18 ∉ fs) : Z18 σ1 := ⟨h.choose, by rw [hF.f h1]; exact h.choose_spec⟩
theorem cntN_top (f : Nat → Bool) : ∀ n, cntN f n ≤ n
  | 0 => Nat.le_refl _
  | n + 1 => by
    have := cntN_top f n
    unfold cntN; split <;> omega
set_option maxRecDepth 100000 in
set_option maxHeartbeats 4000000 in
theorem ct_M_findCuts (G : Gl) (σ : SS) (P : Prob) (c0 : Bool) (hP : FP (σ.2.1 124) P) (hwf : wfP P) (hc0 : σ.1 123 18 = bI c0) : CV G mX10_findCuts [Rf G 123] σ (fun σ1 => ∃ K, RKm σ1 K ∧ Closed P K ∧ Snd P K ∧ Z18 σ1 ∧ FM [18] [131] σ σ1) := by
  refine Ctr.of oX10_findCuts (Nat.le_of_ble_eq_true rfl) ?_
  intro X C R hnm hz0
  have C : Cx G X cX10_findCuts 3 RX10 3 73 0 0 := C
  have R : Cr G X none 0 0 _ := R
  show V G X 3 0 0 0 [(0, Rf G 123)] [] (wld G σ)
  have kk_123 := sk_123
  have kk_124 := sk_124
  have kk_131 := sk_131
  have hlc : P.2.1.length ≤ 10 := hwf.2.1
  have loopR : ∀ (mR : Nat) (Kr : Nat → Bool) (c : Bool) (σ1 : SS) (x1 : Int32), 128 < cntN Kr 128 + mR + (if c then 0 else 200) → RKm σ1 Kr → σ1.1 123 18 = bI c → C1s P Kr P.2.1.length → Snd P Kr → (c = false → C2s P Kr P.2.1.length) → FM [18] [131] σ σ1 → V G X 3 0 0 58 [(0, Rf G 123), (1, .int x1)] [] (wld G σ1) := by
    intro mR
    induction mR with
    | zero =>
      intro Kr c σ1 x1 hm hRKr hcr hC1 hsn hC2 hF1
      refine V.aload_n C 0 rfl rfl dX10_findCuts_58 ?_
      refine V.getI C fX10_154 dX10_findCuts_59 (by assumption) rfl ?_
      rw [hcr]
      refine V.if_eq C 123 dX10_findCuts_62 rfl (fun hb_62 => ?_) (fun hb_62 => ?_)
      · have zc_ := bI_eq0 hb_62
        exact V.vretS C R dX10_findCuts_123 ⟨Kr, hRKr, Closed.of hC1 (hC2 zc_), hsn, ⟨_, hcr⟩, hF1⟩
      · have zc_ := bI_ne0 hb_62
        rw [zc_] at hm
        have hm_ : 128 < cntN Kr 128 := by simpa using hm
        exact absurd (cntN_top Kr 128) (by omega)
    | succ mR ihR =>
      intro Kr c σ1 x1 hm hRKr hcr hC1 hsn hC2 hF1
      refine V.aload_n C 0 rfl rfl dX10_findCuts_58 ?_
      refine V.getI C fX10_154 dX10_findCuts_59 (by assumption) rfl ?_
      rw [hcr]
      refine V.if_eq C 123 dX10_findCuts_62 rfl (fun hb_62 => ?_) (fun hb_62 => ?_)
      · have zc_ := bI_eq0 hb_62
        exact V.vretS C R dX10_findCuts_123 ⟨Kr, hRKr, Closed.of hC1 (hC2 zc_), hsn, ⟨_, hcr⟩, hF1⟩
      · have zc_ := bI_ne0 hb_62
        rw [zc_] at hm
        have hm_ : 128 < cntN Kr 128 + (mR + 1) := by simpa using hm
        have loopE : ∀ (m e : Nat) (Kk : Nat → Bool) (c : Bool) (σ2 : SS), P.2.1.length < e + m → e ≤ P.2.1.length → RKm σ2 Kk → σ2.1 123 18 = bI c → (∀ x, Kr x = true → Kk x = true) → Snd P Kk → (c = false → Kk = Kr ∧ C2s P Kk e) → (c = true → ∃ x, x < 128 ∧ Kr x = false ∧ Kk x = true) → FM [18] [131] σ σ2 → V G X 3 0 0 72 [(0, Rf G 123), (1, .int (nI e))] [] (wld G σ2) := by
          intro m
          induction m with
          | zero =>
            intro e Kk c σ2 hm he hRK2 hc2 hle2 hsn2 hno2 hyes2 hF2
            exact absurd hm (by omega)
          | succ m ihE =>
            intro e Kk c σ2 hm he hRK2 hc2 hle2 hsn2 hno2 hyes2 hF2
            refine V.iload_n C 1 rfl rfl dX10_findCuts_72 ?_
            refine V.aload_n C 0 rfl rfl dX10_findCuts_73 ?_
            refine V.getR C fX10_7 dX10_findCuts_74 (by assumption) rfl ?_
            refine V.bipush C (nI 8) b_8 dX10_findCuts_77 ?_
            refine V.ialdN C dX10_findCuts_79 (by assumption) (by omega) ?_
            rw [hF2.a (by decide), hP.2.1]
            refine V.icmp_ge C 120 dX10_findCuts_80 rfl (fun hb_80 => ?_) (fun hb_80 => ?_)
            · have he8 : e = P.2.1.length := by have := (nI_leI (by omega) (by omega)).mp hb_80; omega
              refine V.goto C 58 dX10_findCuts_120 rfl ?_
              refine V.lvs (lv' := [(0, Rf G 123), (1, .int (nI e))]) rfl ?_
              refine ihR Kk c σ2 (nI e) ?_ hRK2 hc2 (hC1.mono hle2) hsn2 (fun h => by have := (hno2 h).2; rw [he8] at this; exact this) hF2
              cases hq : c with
              | false => simp
              | true =>
                obtain ⟨x_, x1_, x2_, x3_⟩ := hyes2 hq
                have := cntN_lt (n := 128) (fun i _ h => hle2 i h) x1_ x2_ x3_
                simp
                omega
            · have he8 : e < P.2.1.length := Nat.lt_of_not_le (fun q => hb_80 (nI_le q (by omega)))
              obtain ⟨s, hs_⟩ := get_some he8
              have sg_ := stG_eq hwf hs_
              have ws_ := hwf.2.2.2.1 e s hs_
              have s1_ := ws_.1
              have s16_ := ws_.2.1
              have loopP : ∀ (m p : Nat) (Kk : Nat → Bool) (c : Bool) (σ3 : SS), s.1 < p + m → 1 ≤ p ∧ p ≤ s.1 → RKm σ3 Kk → σ3.1 123 18 = bI c → (∀ x, Kr x = true → Kk x = true) → Snd P Kk → (c = false → Kk = Kr ∧ C2s P Kk e ∧ ∀ q, 1 ≤ q → q < p → c2at s Kk q) → (c = true → ∃ x, x < 128 ∧ Kr x = false ∧ Kk x = true) → FM [18] [131] σ σ3 → V G X 3 0 0 85 [(0, Rf G 123), (1, .int (nI e)), (2, .int (nI p))] [] (wld G σ3) := by
                intro m
                induction m with
                | zero =>
                  intro p Kk c σ3 hm hp hRK3 hc3 hle3 hsn3 hno3 hyes3 hF3
                  exact absurd hm (by omega)
                | succ m ihP =>
                  intro p Kk c σ3 hm hp hRK3 hc3 hle3 hsn3 hno3 hyes3 hF3
                  have hP3 : FP (σ3.2.1 124) P := by rw [hF3.a (by decide)]; exact hP
                  refine V.iload_n C 2 rfl rfl dX10_findCuts_85 ?_
                  refine V.aload_n C 0 rfl rfl dX10_findCuts_86 ?_
                  refine V.iload_n C 1 rfl rfl dX10_findCuts_87 ?_
                  refine V.cVi C lX10_158 oX10_widthOf dX10_findCuts_88 (ct_M_wOf G σ3 P e s hP3 hwf sg_) (by assumption) rfl rfl (Nat.le_of_ble_eq_true rfl) ⟨Nat.le_of_ble_eq_true rfl, Nat.le_of_ble_eq_true rfl⟩ ⟨Nat.le_of_ble_eq_true rfl, Nat.le_of_ble_eq_true rfl⟩ (fun rr_88 σ88 pp_88 => ?_)
                  obtain ⟨ee_88, ff_88⟩ := pp_88
                  rw [ee_88, ff_88]
                  refine V.icmp_ge C 114 dX10_findCuts_91 rfl (fun hb_91 => ?_) (fun hb_91 => ?_)
                  · have hp8 : p = s.1 := by have := (nI_leI (by omega) (by omega)).mp hb_91; omega
                    refine V.iinc C (nI (e + 1)) dX10_findCuts_114 rfl (nI_1 e) (by decide) ?_
                    refine V.goto C 72 dX10_findCuts_117 rfl ?_
                    refine V.lvs (lv' := [(0, Rf G 123), (1, .int (nI (e + 1)))]) rfl ?_
                    refine ihE (e + 1) Kk c σ3 (by omega) (by omega) hRK3 hc3 hle3 hsn3 (fun h => ?_) hyes3 hF3
                    obtain ⟨g1_, g2_, g3_⟩ := hno3 h
                    refine ⟨g1_, fun j hj s' hs' => ?_⟩
                    rcases Nat.lt_or_ge j e with q_ | q_
                    · exact g2_ j q_ s' hs'
                    · have e_ : j = e := by omega
                      subst e_
                      rw [hs_] at hs'
                      cases hs'
                      exact ⟨fun q a b => (g3_ q a (by omega)).1, fun q a b => (g3_ q a (by omega)).2⟩
                  · have hp8 : p < s.1 := Nat.lt_of_not_le (fun q => hb_91 (nI_le q (by omega)))
                    refine V.aload_n C 0 rfl rfl dX10_findCuts_94 ?_
                    refine V.iload_n C 1 rfl rfl dX10_findCuts_95 ?_
                    refine V.iconst C (nI 0) c_0 dX10_findCuts_96 ?_
                    refine V.iload_n C 2 rfl rfl dX10_findCuts_97 ?_
                    refine V.cVv C lX10_184 oX10_carry dX10_findCuts_98 (ct_M_carry G σ3 P Kk c e 0 p s hP3 hwf sg_ hs_ hRK3 hc3 (by decide) hp.1 hp8) (by assumption) rfl rfl (Nat.le_of_ble_eq_true rfl) ⟨Nat.le_of_ble_eq_true rfl, Nat.le_of_ble_eq_true rfl⟩ ⟨Nat.le_of_ble_eq_true rfl, Nat.le_of_ble_eq_true rfl⟩ (fun σ98 pp_98 => ?_)
                    obtain ⟨K1_, c1_, r1_, ch1_, m1_, s1_, n1_, y1_, f1_⟩ := pp_98
                    refine V.aload_n C 0 rfl rfl dX10_findCuts_101 ?_
                    refine V.iload_n C 1 rfl rfl dX10_findCuts_102 ?_
                    refine V.iconst C (nI 1) c_1 dX10_findCuts_103 ?_
                    refine V.iload_n C 2 rfl rfl dX10_findCuts_104 ?_
                    refine V.cVv C lX10_184 oX10_carry dX10_findCuts_105 (ct_M_carry G σ98 P K1_ c1_ e 1 p s (by rw [f1_.a (by decide)]; exact hP3) hwf sg_ hs_ r1_ ch1_ (by decide) hp.1 hp8) (by assumption) rfl rfl (Nat.le_of_ble_eq_true rfl) ⟨Nat.le_of_ble_eq_true rfl, Nat.le_of_ble_eq_true rfl⟩ ⟨Nat.le_of_ble_eq_true rfl, Nat.le_of_ble_eq_true rfl⟩ (fun σ105 pp_105 => ?_)
                    obtain ⟨K2_, c2_, r2_, ch2_, m2_, s2_, n2_, y2_, f2_⟩ := pp_105
                    refine V.iinc C (nI (p + 1)) dX10_findCuts_108 rfl (nI_1 p) (by decide) ?_
                    refine V.goto C 85 dX10_findCuts_111 rfl ?_
                    refine V.lvs (lv' := [(0, Rf G 123), (1, .int (nI e)), (2, .int (nI (p + 1)))]) rfl ?_
                    refine ihP (p + 1) K2_ c2_ σ105 (by omega) (by omega) r2_ ch2_ (fun x h => m2_ x (m1_ x (hle3 x h))) (s2_ (s1_ hsn3)) (fun h => ?_) (fun h => ?_) (hF3.trans (f1_.trans f2_))
                    · obtain ⟨a1_, a2_, a3_⟩ := n2_ h
                      obtain ⟨b1_, b2_, b3_⟩ := n1_ a1_
                      obtain ⟨g1_, g2_, g3_⟩ := hno3 b1_
                      subst a2_
                      subst b2_
                      refine ⟨g1_, g2_, fun q q1 q2 => ?_⟩
                      rcases Nat.lt_or_ge q p with z_ | z_
                      · exact g3_ q q1 z_
                      · have e_ : q = p := by omega
                        rw [e_]; exact ⟨b3_, a3_⟩
                    · rcases y2_ h with z_ | ⟨x_, x1_, x2_, x3_⟩
                      · rcases y1_ z_ with w_ | ⟨x_, x1_, x2_, x3_⟩
                        · obtain ⟨x_, x1_, x2_, x3_⟩ := hyes3 w_
                          exact ⟨x_, x1_, x2_, m2_ _ (m1_ _ x3_)⟩
                        · exact ⟨x_, x1_, no_mono hle3 x2_, m2_ _ x3_⟩
                      · exact ⟨x_, x1_, no_mono (fun x h => m1_ x (hle3 x h)) x2_, x3_⟩
              refine V.iconst C (nI 1) c_1 dX10_findCuts_83 ?_
              refine V.istore_n C 2 dX10_findCuts_84 rfl (by decide) ?_
              refine V.lvs (lv' := [(0, Rf G 123), (1, .int (nI e)), (2, .int (nI 1))]) rfl ?_
              exact loopP (s.1 + 1) 1 Kk c σ2 (by omega) (by omega) hRK2 hc2 hle2 hsn2 (fun h => ⟨(hno2 h).1, (hno2 h).2, fun q a b => absurd b (by omega)⟩) hyes2 hF2
        refine V.aload_n C 0 rfl rfl dX10_findCuts_65 ?_
        refine V.iconst C (nI 0) c_0 dX10_findCuts_66 ?_
        refine V.putZ C fX10_154 dX10_findCuts_67 (by assumption) rfl (by first | exact Or.inl rfl | exact Or.inr rfl | exact bI01 _) ?_
        refine V.iconst C (nI 0) c_0 dX10_findCuts_70 ?_
        refine V.istore_n C 1 dX10_findCuts_71 rfl (by decide) ?_
        refine V.lvs (lv' := [(0, Rf G 123), (1, .int (nI 0))]) rfl ?_
        exact loopE (P.2.1.length + 1) 0 Kr false _ (by omega) (by omega) (hRKr.fm ((FM.refl [18] [] σ1).sF _ (by decide)) (by decide)) (sF_F _ _ _ _) (fun _ h => h) hsn (fun _ => ⟨rfl, fun j hj => absurd hj (by omega)⟩) (fun h => absurd h (by decide)) (hF1.sF _ (by decide))
  have loop1 : ∀ (m e : Nat) (Kk : Nat → Bool) (c : Bool) (σ1 : SS), P.2.1.length < e + m → e ≤ P.2.1.length → RKm σ1 Kk → σ1.1 123 18 = bI c → C1s P Kk e → Snd P Kk → FM [18] [131] σ σ1 → V G X 3 0 0 24 [(0, Rf G 123), (1, .int (nI e))] [] (wld G σ1) := by
    intro m
    induction m with
    | zero =>
      intro e Kk c σ1 hm he hRK hc hC1 hsn hF1
      exact absurd hm (by omega)
    | succ m ih =>
      intro e Kk c σ1 hm he hRK hc hC1 hsn hF1
      have hP1 : FP (σ1.2.1 124) P := by rw [hF1.a (by decide)]; exact hP
      refine V.iload_n C 1 rfl rfl dX10_findCuts_24 ?_
      refine V.aload_n C 0 rfl rfl dX10_findCuts_25 ?_
      refine V.getR C fX10_7 dX10_findCuts_26 (by assumption) rfl ?_
      refine V.bipush C (nI 8) b_8 dX10_findCuts_29 ?_
      refine V.ialdN C dX10_findCuts_31 (by assumption) (by omega) ?_
      rw [hF1.a (by decide), hP.2.1]
      refine V.icmp_ge C 53 dX10_findCuts_32 rfl (fun hb_32 => ?_) (fun hb_32 => ?_)
      · have he8 : e = P.2.1.length := by have := (nI_leI (by omega) (by omega)).mp hb_32; omega
        refine V.aload_n C 0 rfl rfl dX10_findCuts_53 ?_
        refine V.iconst C (nI 1) c_1 dX10_findCuts_54 ?_
        refine V.putZ C fX10_154 dX10_findCuts_55 (by assumption) rfl (by first | exact Or.inl rfl | exact Or.inr rfl | exact bI01 _) ?_
        refine V.lvs (lv' := [(0, Rf G 123), (1, .int (nI e))]) rfl ?_
        exact loopR 129 Kk true _ (nI e) (by show 128 < cntN Kk 128 + 129 + 0; omega) (hRK.fm ((FM.refl [18] [] σ1).sF _ (by decide)) (by decide)) (sF_F _ _ _ _) (by rw [← he8]; exact hC1) hsn (fun h => absurd h (by decide)) (hF1.sF _ (by decide))
      · have he8 : e < P.2.1.length := Nat.lt_of_not_le (fun q => hb_32 (nI_le q (by omega)))
        obtain ⟨s, hs_⟩ := get_some he8
        have sg_ := stG_eq hwf hs_
        refine V.aload_n C 0 rfl rfl dX10_findCuts_35 ?_
        refine V.iload_n C 1 rfl rfl dX10_findCuts_36 ?_
        refine V.iconst C (nI 0) c_0 dX10_findCuts_37 ?_
        refine V.cVv C lX10_181 oX10_cutEnds dX10_findCuts_38 (ct_M_cutEnds G σ1 P Kk c e 0 s hP1 hwf sg_ hs_ hRK hc (by decide)) (by assumption) rfl rfl (Nat.le_of_ble_eq_true rfl) ⟨Nat.le_of_ble_eq_true rfl, Nat.le_of_ble_eq_true rfl⟩ ⟨Nat.le_of_ble_eq_true rfl, Nat.le_of_ble_eq_true rfl⟩ (fun σ38 pp_38 => ?_)
        obtain ⟨K1_, c1_, r1_, ch1_, m1_, s1_, l1_, f1_⟩ := pp_38
        refine V.aload_n C 0 rfl rfl dX10_findCuts_41 ?_
        refine V.iload_n C 1 rfl rfl dX10_findCuts_42 ?_
        refine V.iconst C (nI 1) c_1 dX10_findCuts_43 ?_
        refine V.cVv C lX10_181 oX10_cutEnds dX10_findCuts_44 (ct_M_cutEnds G σ38 P K1_ c1_ e 1 s (by rw [f1_.a (by decide)]; exact hP1) hwf sg_ hs_ r1_ ch1_ (by decide)) (by assumption) rfl rfl (Nat.le_of_ble_eq_true rfl) ⟨Nat.le_of_ble_eq_true rfl, Nat.le_of_ble_eq_true rfl⟩ ⟨Nat.le_of_ble_eq_true rfl, Nat.le_of_ble_eq_true rfl⟩ (fun σ44 pp_44 => ?_)
        obtain ⟨K2_, c2_, r2_, ch2_, m2_, s2_, l2_, f2_⟩ := pp_44
        refine V.iinc C (nI (e + 1)) dX10_findCuts_47 rfl (nI_1 e) (by decide) ?_
        refine V.goto C 24 dX10_findCuts_50 rfl ?_
        refine V.lvs (lv' := [(0, Rf G 123), (1, .int (nI (e + 1)))]) rfl ?_
        refine ih (e + 1) K2_ c2_ σ44 (by omega) (by omega) r2_ ch2_ (fun j hj s' hs' => ?_) (s2_ (s1_ hsn)) (hF1.trans (f1_.trans f2_))
        rcases Nat.lt_or_ge j e with q_ | q_
        · exact ⟨(hC1 j q_ s' hs').1.mono (fun x h => m2_ x (m1_ x h)), (hC1 j q_ s' hs').2.mono (fun x h => m2_ x (m1_ x h))⟩
        · have e_ : j = e := by omega
          subst e_
          rw [hs_] at hs'
          cases hs'
          exact ⟨Cl1.mono l1_ m2_, l2_⟩
  have loop0 : ∀ (m k : Nat) (σ1 : SS), 128 < k + m → k ≤ 128 → (∀ x, x < k → σ1.2.1 131 x = bI false) → FM [] [131] σ σ1 → V G X 3 0 0 2 [(0, Rf G 123), (1, .int (nI k))] [] (wld G σ1) := by
    intro m
    induction m with
    | zero =>
      intro k σ1 hm hk h1 hF1
      exact absurd hm (by omega)
    | succ m ih =>
      intro k σ1 hm hk h1 hF1
      refine V.iload_n C 1 rfl rfl dX10_findCuts_2 ?_
      refine V.sipush C (nI 128) s_128 dX10_findCuts_3 ?_
      refine V.icmp_ge C 22 dX10_findCuts_6 rfl (fun hb_6 => ?_) (fun hb_6 => ?_)
      · have zk_ : k = 128 := by have := (nI_leI (by decide) (by omega)).mp hb_6; omega
        refine V.iconst C (nI 0) c_0 dX10_findCuts_22 ?_
        refine V.istore_n C 1 dX10_findCuts_23 rfl (by decide) ?_
        refine V.lvs (lv' := [(0, Rf G 123), (1, .int (nI 0))]) rfl ?_
        exact loop1 (P.2.1.length + 1) 0 (fun _ => false) c0 σ1 (by omega) (by omega) (fun x hx => h1 x (by omega)) (by rw [hF1.f (by decide)]; exact hc0) (fun j hj => absurd hj (by omega)) (fun K' _ x hx => Bool.noConfusion hx) (hF1.mono (by decide) (by decide))
      · have zk_ : k < 128 := Nat.lt_of_not_le (fun q => hb_6 (nI_le q (by omega)))
        refine V.aload_n C 0 rfl rfl dX10_findCuts_9 ?_
        refine V.getR C fX10_32 dX10_findCuts_10 (by assumption) rfl ?_
        refine V.iload_n C 1 rfl rfl dX10_findCuts_13 ?_
        refine V.iconst C (nI 0) c_0 dX10_findCuts_14 ?_
        refine V.zastN C dX10_findCuts_15 (by assumption) (by omega) (by first | exact Or.inl rfl | exact Or.inr rfl | exact bI01 _) ?_
        refine V.iinc C (nI (k + 1)) dX10_findCuts_16 rfl (nI_1 k) (by decide) ?_
        refine V.goto C 2 dX10_findCuts_19 rfl ?_
        refine V.lvs (lv' := [(0, Rf G 123), (1, .int (nI (k + 1)))]) rfl ?_
        refine ih (k + 1) _ (by omega) (by omega) (fun j hj => ?_) (hF1.sA _ (by decide))
        rw [sA_A]
        by_cases e_ : j = k
        · rw [e_, up_eq]; rfl
        · rw [up_ne _ _ e_]; exact h1 j (by omega)
  refine V.iconst C (nI 0) c_0 dX10_findCuts_0 ?_
  refine V.istore_n C 1 dX10_findCuts_1 rfl (by decide) ?_
  refine V.lvs (lv' := [(0, Rf G 123), (1, .int (nI 0))]) rfl ?_
  exact loop0 129 0 σ (by omega) (by omega) (fun x hx => absurd hx (by omega)) (FM.refl _ _ _)
