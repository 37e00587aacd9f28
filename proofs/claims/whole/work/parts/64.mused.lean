/-! The model's occurs, findUsed. -/
def ocA (u : UF) (r a : Nat) : Bool := isV a && decide (u.1 (vb a) = r)
def ocS (u : UF) (r : Nat) (s : Stm) : Bool := (List.range 32).any (fun t => decide (t % 16 < s.1) && ocA u r (trm s (t / 16) (t % 16)))
def ocW (D : List Stm) (u : UF) (r : Nat) : Bool := D.any (ocS u r)
def usL (P : Prob) (u : UF) (n : Nat) : List Nat := (List.range n).filter (fun k => freeW P u k && ocW P.2.2 u k)
def RU (σ : SS) (us : List Nat) : Prop := σ.1 123 25 = nI us.length ∧ us.length ≤ 128 ∧ ∀ (i r : Nat), us[i]? = some r → σ.2.1 135 i = nI r ∧ r < 128
theorem usL_succ (P : Prob) (u : UF) (n : Nat) : usL P u (n + 1) = usL P u n ++ (if (freeW P u n && ocW P.2.2 u n) = true then [n] else []) := by
  unfold usL
  rw [List.range_succ, List.filter_append]
  congr 1
  by_cases h : (freeW P u n && ocW P.2.2 u n) = true <;> simp [h]
theorem usL_len (P : Prob) (u : UF) : ∀ n, (usL P u n).length ≤ n
  | 0 => by simp [usL]
  | n + 1 => by
    have := usL_len P u n
    rw [usL_succ, List.length_append]
    split <;> simp <;> omega
theorem okT (P : Prob) (hwf : wfP P) {d : Nat} {s : Stm} (hs : P.2.2[d]? = some s) {t k : Nat} (hk : k < s.1) : okB (trm s t k) := by
  have := (hwf.okL2 d s hs).2.2 k hk
  unfold trm
  split
  · exact this.1
  · exact this.2
set_option maxRecDepth 100000 in
set_option maxHeartbeats 4000000 in
theorem ct_M_occurs (G : Gl) (σ : SS) (P : Prob) (u : UF) (r : Nat) (hP : FP (σ.2.1 124) P) (hwf : wfP P) (hU : RCm σ u) (hr : r < 128) : CI G mX10_occurs [Rf G 123, .int (nI r)] σ (fun r1 σ1 => r1 = bI (ocW P.2.2 u r) ∧ σ1 = σ) := by
  refine Ctr.of oX10_occurs (Nat.le_of_ble_eq_true rfl) ?_
  intro X C R hnm hz0
  have C : Cx G X cX10_occurs 6 RX10 1 23 0 0 := C
  have R : Cr G X (some .boolean) 0 0 _ := R
  show V G X 6 0 0 0 [(0, Rf G 123), (1, .int (nI r))] [] (wld G σ)
  have kk_123 := sk_123
  have kk_124 := sk_124
  have kk_131 := sk_131
  have kk_132 := sk_132
  have kk_133 := sk_133
  have kk_134 := sk_134
  have kk_135 := sk_135
  have l3_ := hwf.2.2.1
  have loop : ∀ (m d : Nat), P.2.2.length < d + m → d ≤ P.2.2.length → (∀ j, j < d → ∀ s1, P.2.2[j]? = some s1 → ocS u r s1 = false) → V G X 6 0 0 2 [(0, Rf G 123), (1, .int (nI r)), (2, .int (nI d))] [] (wld G σ) := by
    intro m
    induction m with
    | zero =>
      intro d hm hd8 hnoD
      exact absurd hm (by omega)
    | succ m ih =>
      intro d hm hd8 hnoD
      refine V.iload_n C 2 rfl rfl dX10_occurs_2 ?_
      refine V.aload_n C 0 rfl rfl dX10_occurs_3 ?_
      refine V.getR C fX10_7 dX10_occurs_4 (by assumption) rfl ?_
      refine V.bipush C (nI 9) b_9 dX10_occurs_7 ?_
      refine V.ialdN C dX10_occurs_9 (by assumption) (by omega) ?_
      rw [hP.2.2.1]
      refine V.icmp_ge C 98 dX10_occurs_10 rfl (fun hb_10 => ?_) (fun hb_10 => ?_)
      · have zd_ : d = P.2.2.length := by have := (nI_leI (by omega) (by omega)).mp hb_10; omega
        refine V.iconst C (nI 0) c_0 dX10_occurs_98 ?_
        exact V.zretS C R dX10_occurs_99 (by first | exact Or.inl rfl | exact Or.inr rfl | exact bI01 _) ⟨by
          rw [show ocW P.2.2 u r = false from Bool.eq_false_iff.mpr (fun q => by
            obtain ⟨s1, hs1, hs2⟩ := List.any_eq_true.mp q
            obtain ⟨j, hj⟩ := List.getElem?_of_mem hs1
            have jl_ := (List.getElem?_eq_some_iff.mp hj).1
            rw [hnoD j (by omega) s1 hj] at hs2
            cases hs2)]
          rfl, rfl⟩
      · have hd : d < P.2.2.length := Nat.lt_of_not_le (fun q => hb_10 (nI_le q (by omega)))
        obtain ⟨s, hs_⟩ : ∃ s, P.2.2[d]? = some s := ⟨_, List.getElem?_eq_getElem hd⟩
        have w16_ := (hwf.okL2 d s hs_).2.1
        have ihD := ih
        have loopT : ∀ (m t : Nat), 32 < t + m → t ≤ 32 → (∀ j, j < t → (decide (j % 16 < s.1) && ocA u r (trm s (j / 16) (j % 16))) = false) → V G X 6 0 0 21 [(0, Rf G 123), (1, .int (nI r)), (2, .int (nI d)), (3, .int (nI (10 + d))), (4, .int (nI t))] [] (wld G σ) := by
          intro m
          induction m with
          | zero =>
            intro t hm ht hno
            exact absurd hm (by omega)
          | succ m ih =>
            intro t hm ht hno
            refine V.iload C rfl dX10_occurs_21 ?_
            refine V.bipush C (nI 32) b_32 dX10_occurs_23 ?_
            refine V.icmp_ge C 92 dX10_occurs_25 rfl (fun hb_25 => ?_) (fun hb_25 => ?_)
            · have zt_ : t = 32 := by have := (nI_leI (by decide) (by omega)).mp hb_25; omega
              refine V.iinc C (nI (d + 1)) dX10_occurs_92 rfl (nI_1 d) (by decide) ?_
              refine V.goto C 2 dX10_occurs_95 rfl ?_
              refine V.lvs (lv' := [(0, Rf G 123), (1, .int (nI r)), (2, .int (nI (d + 1)))]) rfl ?_
              refine ihD (d + 1) (by omega) (by omega) (fun j hj s1 hs1 => ?_)
              by_cases qj_ : j = d
              · rw [qj_, hs_] at hs1
                cases hs1
                refine Bool.eq_false_iff.mpr (fun q => ?_)
                obtain ⟨t1, ht1, ht2⟩ := List.any_eq_true.mp q
                have t32_ := List.mem_range.mp ht1
                rw [hno t1 (by omega)] at ht2
                cases ht2
              · exact hnoD j (by omega) s1 hs1
            · have zt_ : t < 32 := Nat.lt_of_not_le (fun q => hb_25 (nI_le q (by omega)))
              refine V.iload C rfl dX10_occurs_28 ?_
              refine V.bipush C (nI 16) b_16 dX10_occurs_30 ?_
              refine V.irem C (by decide) dX10_occurs_32 ?_
              rw [nI_rem (by omega) (by decide) (by decide)]
              refine V.aload_n C 0 rfl rfl dX10_occurs_33 ?_
              refine V.iload_n C 3 rfl rfl dX10_occurs_34 ?_
              refine V.cVi C lX10_158 oX10_widthOf dX10_occurs_35 (ct_M_wOf G σ P (10 + d) s hP hwf (stG_di hs_)) (by assumption) rfl rfl (Nat.le_of_ble_eq_true rfl) ⟨Nat.le_of_ble_eq_true rfl, Nat.le_of_ble_eq_true rfl⟩ ⟨Nat.le_of_ble_eq_true rfl, Nat.le_of_ble_eq_true rfl⟩ (fun rr_35 σ35 pp_35 => ?_)
              obtain ⟨ee_35, ff_35⟩ := pp_35
              rw [ee_35, ff_35]
              refine V.icmp_ge C 59 dX10_occurs_38 rfl (fun hb_38 => ?_) (fun hb_38 => ?_)
              · have zw_ : ¬ t % 16 < s.1 := fun q => absurd ((nI_leI (by omega) (by omega)).mp hb_38) (by omega)
                refine V.iconst C (nI 0) c_0 dX10_occurs_59 ?_
                refine V.istore C dX10_occurs_60 (by decide) ?_
                refine V.aload_n C 0 rfl rfl dX10_occurs_62 ?_
                refine V.iload C rfl dX10_occurs_63 ?_
                refine V.cVi C lX10_165 oX10_isOfVariable dX10_occurs_65 (ct_M_isOV G σ (0) ((show okB 0 from ⟨by decide, Or.inl (by decide)⟩)).1) (by assumption) rfl rfl (Nat.le_of_ble_eq_true rfl) ⟨Nat.le_of_ble_eq_true rfl, Nat.le_of_ble_eq_true rfl⟩ ⟨Nat.le_of_ble_eq_true rfl, Nat.le_of_ble_eq_true rfl⟩ (fun rr_65 σ65 pp_65 => ?_)
                obtain ⟨ee_65, ff_65⟩ := pp_65
                rw [ee_65, ff_65]
                refine V.if_eq C 86 dX10_occurs_68 rfl (fun hb_68 => ?_) (fun hb_68 => ?_)
                · have zv_ := bI_eq0 hb_68
                  refine V.iinc C (nI (t + 1)) dX10_occurs_86 rfl (nI_1 t) (by decide) ?_
                  refine V.goto C 21 dX10_occurs_89 rfl ?_
                  refine V.lvs (lv' := [(0, Rf G 123), (1, .int (nI r)), (2, .int (nI d)), (3, .int (nI (10 + d))), (4, .int (nI (t + 1)))]) rfl ?_
                  refine ih (t + 1) (by omega) (by omega) (fun j hj => ?_)
                  by_cases qj_ : j = t
                  · rw [qj_]; rw [decide_eq_false zw_]; rfl
                  · exact hno j (by omega)
                · have zv_ := bI_ne0 hb_68
                  have rt_ := hU.bits (vbk_lt ((show okB 0 from ⟨by decide, Or.inl (by decide)⟩)) zv_)
                  exact absurd (bI_ne0 hb_68) (by decide)
              · have zw_ : t % 16 < s.1 := Nat.lt_of_not_le (fun q => hb_38 (nI_le q (by omega)))
                have ok_ := okT P hwf hs_ (t := t / 16) zw_
                refine V.aload_n C 0 rfl rfl dX10_occurs_41 ?_
                refine V.iload_n C 3 rfl rfl dX10_occurs_42 ?_
                refine V.iload C rfl dX10_occurs_43 ?_
                refine V.bipush C (nI 16) b_16 dX10_occurs_45 ?_
                refine V.idiv C (by decide) dX10_occurs_47 ?_
                rw [nI_div (by omega) (by decide) (by decide)]
                refine V.iload C rfl dX10_occurs_48 ?_
                refine V.bipush C (nI 16) b_16 dX10_occurs_50 ?_
                refine V.irem C (by decide) dX10_occurs_52 ?_
                rw [nI_rem (by omega) (by decide) (by decide)]
                refine V.cVi C lX10_161 oX10_bitOf dX10_occurs_53 (ct_M_bitOf G σ P (10 + d) (t / 16) (t % 16) s hP hwf (stG_di hs_) (by omega) zw_) (by assumption) rfl rfl (Nat.le_of_ble_eq_true rfl) ⟨Nat.le_of_ble_eq_true rfl, Nat.le_of_ble_eq_true rfl⟩ ⟨Nat.le_of_ble_eq_true rfl, Nat.le_of_ble_eq_true rfl⟩ (fun rr_53 σ53 pp_53 => ?_)
                obtain ⟨ee_53, ff_53⟩ := pp_53
                rw [ee_53, ff_53]
                refine V.goto C 60 dX10_occurs_56 rfl ?_
                refine V.istore C dX10_occurs_60 (by decide) ?_
                refine V.aload_n C 0 rfl rfl dX10_occurs_62 ?_
                refine V.iload C rfl dX10_occurs_63 ?_
                refine V.cVi C lX10_165 oX10_isOfVariable dX10_occurs_65 (ct_M_isOV G σ (trm s (t / 16) (t % 16)) (ok_).1) (by assumption) rfl rfl (Nat.le_of_ble_eq_true rfl) ⟨Nat.le_of_ble_eq_true rfl, Nat.le_of_ble_eq_true rfl⟩ ⟨Nat.le_of_ble_eq_true rfl, Nat.le_of_ble_eq_true rfl⟩ (fun rr_65 σ65 pp_65 => ?_)
                obtain ⟨ee_65, ff_65⟩ := pp_65
                rw [ee_65, ff_65]
                refine V.if_eq C 86 dX10_occurs_68 rfl (fun hb_68 => ?_) (fun hb_68 => ?_)
                · have zv_ := bI_eq0 hb_68
                  refine V.iinc C (nI (t + 1)) dX10_occurs_86 rfl (nI_1 t) (by decide) ?_
                  refine V.goto C 21 dX10_occurs_89 rfl ?_
                  refine V.lvs (lv' := [(0, Rf G 123), (1, .int (nI r)), (2, .int (nI d)), (3, .int (nI (10 + d))), (4, .int (nI (t + 1)))]) rfl ?_
                  refine ih (t + 1) (by omega) (by omega) (fun j hj => ?_)
                  by_cases qj_ : j = t
                  · rw [qj_]; unfold ocA; rw [zv_, Bool.false_and, Bool.and_false]
                  · exact hno j (by omega)
                · have zv_ := bI_ne0 hb_68
                  have rt_ := hU.bits (vbk_lt (ok_) zv_)
                  refine V.aload_n C 0 rfl rfl dX10_occurs_71 ?_
                  refine V.iload C rfl dX10_occurs_72 ?_
                  refine V.cSi C lX10_168 oX10_variableBit dX10_occurs_74 (ct_M_vb G σ (trm s (t / 16) (t % 16)) (ok_).1 zv_) rfl rfl (Nat.le_of_ble_eq_true rfl) ⟨Nat.le_of_ble_eq_true rfl, Nat.le_of_ble_eq_true rfl⟩ ⟨Nat.le_of_ble_eq_true rfl, Nat.le_of_ble_eq_true rfl⟩ (fun rr_74 σ74 pp_74 => ?_)
                  obtain ⟨ee_74, ff_74⟩ := pp_74
                  rw [ee_74, ff_74]
                  refine V.cVi C lX10_203 oX10_rootOf dX10_occurs_77 (ct_M_rootOf G σ u (vb (trm s (t / 16) (t % 16))) hU (vbk_lt (ok_) zv_)) (by assumption) rfl rfl (Nat.le_of_ble_eq_true rfl) ⟨Nat.le_of_ble_eq_true rfl, Nat.le_of_ble_eq_true rfl⟩ ⟨Nat.le_of_ble_eq_true rfl, Nat.le_of_ble_eq_true rfl⟩ (fun rr_77 σ77 pp_77 => ?_)
                  obtain ⟨ee_77, ff_77⟩ := pp_77
                  rw [ee_77, ff_77]
                  refine V.iload_n C 1 rfl rfl dX10_occurs_80 ?_
                  refine V.icmp_ne C 86 dX10_occurs_81 rfl (fun hb_81 => ?_) (fun hb_81 => ?_)
                  · have zr_ : ¬ u.1 (vb (trm s (t / 16) (t % 16))) = r := fun q => hb_81 (by rw [q])
                    refine V.iinc C (nI (t + 1)) dX10_occurs_86 rfl (nI_1 t) (by decide) ?_
                    refine V.goto C 21 dX10_occurs_89 rfl ?_
                    refine V.lvs (lv' := [(0, Rf G 123), (1, .int (nI r)), (2, .int (nI d)), (3, .int (nI (10 + d))), (4, .int (nI (t + 1)))]) rfl ?_
                    refine ih (t + 1) (by omega) (by omega) (fun j hj => ?_)
                    by_cases qj_ : j = t
                    · rw [qj_]; unfold ocA; rw [decide_eq_false zr_, Bool.and_false, Bool.and_false]
                    · exact hno j (by omega)
                  · have zr_ : u.1 (vb (trm s (t / 16) (t % 16))) = r := nI_pe (by omega) (by omega) hb_81
                    refine V.iconst C (nI 1) c_1 dX10_occurs_84 ?_
                    exact V.zretS C R dX10_occurs_85 (by first | exact Or.inl rfl | exact Or.inr rfl | exact bI01 _) ⟨by rw [show ocW P.2.2 u r = true from List.any_eq_true.mpr ⟨s, List.mem_of_getElem? hs_, List.any_eq_true.mpr ⟨t, List.mem_range.mpr zt_, by rw [decide_eq_true zw_]; unfold ocA; rw [zv_, decide_eq_true zr_]; rfl⟩⟩]; rfl, rfl⟩
        refine V.bipush C (nI 10) b_10 dX10_occurs_13 ?_
        refine V.iload_n C 2 rfl rfl dX10_occurs_15 ?_
        refine V.iadd C dX10_occurs_16 ?_
        rw [nI_add]
        refine V.istore_n C 3 dX10_occurs_17 rfl (by decide) ?_
        refine V.iconst C (nI 0) c_0 dX10_occurs_18 ?_
        refine V.istore C dX10_occurs_19 (by decide) ?_
        refine V.lvs (lv' := [(0, Rf G 123), (1, .int (nI r)), (2, .int (nI d)), (3, .int (nI (10 + d))), (4, .int (nI 0))]) rfl ?_
        exact loopT 33 0 (by omega) (by omega) (fun j hj => absurd hj (by omega))
  refine V.iconst C (nI 0) c_0 dX10_occurs_0 ?_
  refine V.istore_n C 2 dX10_occurs_1 rfl (by decide) ?_
  refine V.lvs (lv' := [(0, Rf G 123), (1, .int (nI r)), (2, .int (nI 0))]) rfl ?_
  exact loop (P.2.2.length + 1) 0 (by omega) (by omega) (fun j hj => absurd hj (by omega))
set_option maxRecDepth 100000 in
set_option maxHeartbeats 4000000 in
theorem ct_M_findUsed (G : Gl) (σ : SS) (P : Prob) (u : UF) (hP : FP (σ.2.1 124) P) (hwf : wfP P) (hU : RCm σ u) : CV G mX10_findUsed [Rf G 123] σ (fun σ1 => RU σ1 (usL P u 128) ∧ FM [25] [135] σ σ1) := by
  refine Ctr.of oX10_findUsed (Nat.le_of_ble_eq_true rfl) ?_
  intro X C R hnm hz0
  have C : Cx G X cX10_findUsed 2 RX10 2 48 0 0 := C
  have R : Cr G X none 0 0 _ := R
  show V G X 2 0 0 0 [(0, Rf G 123)] [] (wld G σ)
  have kk_123 := sk_123
  have kk_124 := sk_124
  have kk_131 := sk_131
  have kk_132 := sk_132
  have kk_133 := sk_133
  have kk_134 := sk_134
  have kk_135 := sk_135
  have loop : ∀ (m x : Nat) (σ1 : SS), 128 < x + m → x ≤ 128 → RU σ1 (usL P u x) → FM [25] [135] σ σ1 → V G X 2 0 0 7 [(0, Rf G 123), (1, .int (nI x))] [] (wld G σ1) := by
    intro m
    induction m with
    | zero =>
      intro x σ1 hm hx hR hF
      exact absurd hm (by omega)
    | succ m ih =>
      intro x σ1 hm hx hR hF
      have hlen := usL_len P u x
      refine V.iload_n C 1 rfl rfl dX10_findUsed_7 ?_
      refine V.sipush C (nI 128) s_128 dX10_findUsed_8 ?_
      refine V.icmp_ge C 56 dX10_findUsed_11 rfl (fun hb_11 => ?_) (fun hb_11 => ?_)
      · have hx8 : x = 128 := by have := (nI_leI (by decide) (by omega)).mp hb_11; omega
        exact V.vretS C R dX10_findUsed_56 ⟨by rw [← hx8]; exact hR, hF⟩
      · have hx8 : x < 128 := Nat.lt_of_not_le (fun q => hb_11 (nI_le q (by omega)))
        refine V.aload_n C 0 rfl rfl dX10_findUsed_14 ?_
        refine V.iload_n C 1 rfl rfl dX10_findUsed_15 ?_
        refine V.cVi C lX10_230 oX10_isFree dX10_findUsed_16 (ct_M_isFree G σ1 P u x (by rw [hF.a (by decide)]; exact hP) hwf (hU.fm hF (by decide) (by decide) (by decide)) hx8) (by assumption) rfl rfl (Nat.le_of_ble_eq_true rfl) ⟨Nat.le_of_ble_eq_true rfl, Nat.le_of_ble_eq_true rfl⟩ ⟨Nat.le_of_ble_eq_true rfl, Nat.le_of_ble_eq_true rfl⟩ (fun rr_16 σ16 pp_16 => ?_)
        obtain ⟨ee_16, ff_16⟩ := pp_16
        rw [ee_16, ff_16]
        refine V.if_eq C 50 dX10_findUsed_19 rfl (fun hb_19 => ?_) (fun hb_19 => ?_)
        · have z_ : ¬ (freeW P u x && ocW P.2.2 u x) = true := by rw [bI_eq0 hb_19, Bool.false_and]; decide
          refine V.iinc C (nI (x + 1)) dX10_findUsed_50 rfl (nI_1 x) (by decide) ?_
          refine V.goto C 7 dX10_findUsed_53 rfl ?_
          refine V.lvs (lv' := [(0, Rf G 123), (1, .int (nI (x + 1)))]) rfl ?_
          exact ih (x + 1) σ1 (by omega) (by omega) (by rw [usL_succ, if_neg z_, List.append_nil]; exact hR) hF
        · have zf_ := bI_ne0 hb_19
          refine V.aload_n C 0 rfl rfl dX10_findUsed_22 ?_
          refine V.iload_n C 1 rfl rfl dX10_findUsed_23 ?_
          refine V.cVi C lX10_245 oX10_occurs dX10_findUsed_24 (ct_M_occurs G σ1 P u x (by rw [hF.a (by decide)]; exact hP) hwf (hU.fm hF (by decide) (by decide) (by decide)) hx8) (by assumption) rfl rfl (Nat.le_of_ble_eq_true rfl) ⟨Nat.le_of_ble_eq_true rfl, Nat.le_of_ble_eq_true rfl⟩ ⟨Nat.le_of_ble_eq_true rfl, Nat.le_of_ble_eq_true rfl⟩ (fun rr_24 σ24 pp_24 => ?_)
          obtain ⟨ee_24, ff_24⟩ := pp_24
          rw [ee_24, ff_24]
          refine V.if_eq C 50 dX10_findUsed_27 rfl (fun hb_27 => ?_) (fun hb_27 => ?_)
          · have z_ : ¬ (freeW P u x && ocW P.2.2 u x) = true := by rw [bI_eq0 hb_27, Bool.and_false]; decide
            refine V.iinc C (nI (x + 1)) dX10_findUsed_50 rfl (nI_1 x) (by decide) ?_
            refine V.goto C 7 dX10_findUsed_53 rfl ?_
            refine V.lvs (lv' := [(0, Rf G 123), (1, .int (nI (x + 1)))]) rfl ?_
            exact ih (x + 1) σ1 (by omega) (by omega) (by rw [usL_succ, if_neg z_, List.append_nil]; exact hR) hF
          · have z_ : (freeW P u x && ocW P.2.2 u x) = true := by rw [zf_, bI_ne0 hb_27]; rfl
            refine V.aload_n C 0 rfl rfl dX10_findUsed_30 ?_
            refine V.getR C fX10_44 dX10_findUsed_31 (by assumption) rfl ?_
            refine V.aload_n C 0 rfl rfl dX10_findUsed_34 ?_
            refine V.getI C fX10_242 dX10_findUsed_35 (by assumption) rfl ?_
            rw [hR.1]
            refine V.iload_n C 1 rfl rfl dX10_findUsed_38 ?_
            refine V.iastN C dX10_findUsed_39 (by assumption) (by omega) ?_
            refine V.aload_n C 0 rfl rfl dX10_findUsed_40 ?_
            refine V.dup C rfl dX10_findUsed_41 ?_
            refine V.getI C fX10_242 dX10_findUsed_42 (by assumption) rfl ?_
            rw [show (sA σ1 135 (va_up (σ1.2.1 135) (usL P u x).length (nI x))).1 123 25 = nI (usL P u x).length from hR.1]
            refine V.iconst C (nI 1) c_1 dX10_findUsed_45 ?_
            refine V.iadd C dX10_findUsed_46 ?_
            rw [show nI (usL P u x).length + nI 1 = nI ((usL P u x).length + 1) from nI_add _ 1]
            refine V.putI C fX10_242 dX10_findUsed_47 (by assumption) rfl ?_
            refine V.iinc C (nI (x + 1)) dX10_findUsed_50 rfl (nI_1 x) (by decide) ?_
            refine V.goto C 7 dX10_findUsed_53 rfl ?_
            refine V.lvs (lv' := [(0, Rf G 123), (1, .int (nI (x + 1)))]) rfl ?_
            refine ih (x + 1) _ (by omega) (by omega) ⟨?_, ?_, fun i r hi => ?_⟩ ((hF.sA _ (by decide)).sF _ (by decide))
            · rw [sF_F, usL_succ, if_pos z_]; simp
            · exact Nat.le_trans (usL_len _ _ _) (by omega)
            · rw [usL_succ, if_pos z_] at hi
              show (sA σ1 135 _).2.1 135 i = nI r ∧ r < 128
              rw [sA_A]
              by_cases q_ : i < (usL P u x).length
              · rw [List.getElem?_append_left q_] at hi
                rw [up_ne _ _ (by omega)]; exact hR.2.2 i r hi
              · rw [List.getElem?_append_right (by omega)] at hi
                have h1_ : i - (usL P u x).length < 1 := (List.getElem?_eq_some_iff.mp hi).1
                have e_ : i = (usL P u x).length := by omega
                rw [e_, Nat.sub_self] at hi
                cases hi
                rw [e_, up_eq]; exact ⟨rfl, hx8⟩
  refine V.aload_n C 0 rfl rfl dX10_findUsed_0 ?_
  refine V.iconst C (nI 0) c_0 dX10_findUsed_1 ?_
  refine V.putI C fX10_242 dX10_findUsed_2 (by assumption) rfl ?_
  refine V.iconst C (nI 0) c_0 dX10_findUsed_5 ?_
  refine V.istore_n C 1 dX10_findUsed_6 rfl (by decide) ?_
  refine V.lvs (lv' := [(0, Rf G 123), (1, .int (nI 0))]) rfl ?_
  exact loop 129 0 _ (by omega) (by omega) ⟨by rw [sF_F]; rfl, by simp [usL], fun i r h => by simp [usL] at h⟩ ((FM.refl _ _ _).sF _ (by decide))
