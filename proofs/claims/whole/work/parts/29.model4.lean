/-! Model: wordOfZeros, choose. -/
def wInv (D : List Stm) (u : UF) (w : Int64) (fl : Nat → Int64) (t : Nat) : Prop := (∀ p, p < 64 → bl w p = (decide (p < t) && wz D u p)) ∧ ∀ r, r < 128 → ∀ p, p < 64 → bl (fl r) p = (decide (p < t) && flB D u r p)
theorem wInv.step {D : List Stm} {u : UF} {w : Int64} {fl : Nat → Int64} {k b : Nat} {s : Stm} (h : wInv D u w fl (16 * k + b)) (hs : D[k]? = some s) (hb : b < s.1) (h16 : s.1 ≤ 16) (hk : k < 3) :
    wInv D u ((w ^^^ (if v1 u (s.2.1 b) = true then shl64 1 (nI (k * 16 + b)) else 0)) ^^^ (if v1 u (s.2.2 b) = true then shl64 1 (nI (k * 16 + b)) else 0)) (flU (flU fl (frO u (s.2.1 b)) (shl64 1 (nI (k * 16 + b)))) (frO u (s.2.2 b)) (shl64 1 (nI (k * 16 + b)))) (16 * k + (b + 1)) := by
  have e1 : (16 * k + b) / 16 = k := by omega
  have e2 : (16 * k + b) % 16 = b := by omega
  have hc : ∀ (x : Bool) (p : Nat), p < 64 → bl (if x = true then shl64 1 (nI (k * 16 + b)) else 0) p = (x && decide (p = k * 16 + b)) := fun x p hp => by
    cases x
    · simp [bl_0]
    · simp [bl_place (k * 16 + b) (by omega) p hp]
  refine ⟨fun p hp => ?_, fun r hr p hp => ?_⟩
  · rw [bl_xor, bl_xor, hc _ p hp, hc _ p hp, h.1 p hp]
    by_cases e : p = 16 * k + b
    · have hz : wz D u p = (v1 u (s.2.1 b) ^^ v1 u (s.2.2 b)) := by
        unfold wz; rw [e, e1, e2, hs]; simp [hb]
      rw [hz, e, show decide (16 * k + b < 16 * k + b) = false by simp, show decide (16 * k + b = k * 16 + b) = true by simp; omega, show decide (16 * k + b < 16 * k + (b + 1)) = true by simp]
      simp
    · rw [show decide (p = k * 16 + b) = false by simp; omega, show decide (p < 16 * k + (b + 1)) = decide (p < 16 * k + b) by apply decide_eq_decide.mpr; omega]
      simp
  · rw [flU_bit, flU_bit, bl_place (k * 16 + b) (by omega) p hp, h.2 r hr p hp]
    by_cases e : p = 16 * k + b
    · have hz : flB D u r p = (frB u (s.2.1 b) r ^^ frB u (s.2.2 b) r) := by
        unfold flB; rw [e, e1, e2, hs]; simp [hb]
      rw [hz, e, show decide (16 * k + b < 16 * k + b) = false by simp, show decide (16 * k + b = k * 16 + b) = true by simp; omega, show decide (16 * k + b < 16 * k + (b + 1)) = true by simp]
      simp [frB]
    · rw [show decide (p = k * 16 + b) = false by simp; omega, show decide (p < 16 * k + (b + 1)) = decide (p < 16 * k + b) by apply decide_eq_decide.mpr; omega]
      simp
theorem wInv.done {D : List Stm} {u : UF} {w : Int64} {fl : Nat → Int64} {k : Nat} {s : Stm} (h : wInv D u w fl (16 * k + s.1)) (hs : D[k]? = some s) (h16 : s.1 ≤ 16) : wInv D u w fl (16 * (k + 1)) := by
  have key : ∀ p, 16 * k + s.1 ≤ p → p < 16 * (k + 1) → wz D u p = false ∧ ∀ r, flB D u r p = false := fun p h1 h2 => by
    have e1 : p / 16 = k := by omega
    unfold wz flB
    rw [e1, hs]
    have : ¬ p % 16 < s.1 := by omega
    simp [this]
  refine ⟨fun p hp => ?_, fun r hr p hp => ?_⟩
  · rw [h.1 p hp]
    by_cases q : 16 * k + s.1 ≤ p ∧ p < 16 * (k + 1)
    · rw [(key p q.1 q.2).1]; simp
    · rw [show decide (p < 16 * (k + 1)) = decide (p < 16 * k + s.1) by apply decide_eq_decide.mpr; omega]
  · rw [h.2 r hr p hp]
    by_cases q : 16 * k + s.1 ≤ p ∧ p < 16 * (k + 1)
    · rw [(key p q.1 q.2).2 r]; simp
    · rw [show decide (p < 16 * (k + 1)) = decide (p < 16 * k + s.1) by apply decide_eq_decide.mpr; omega]
theorem wInv.none {D : List Stm} {u : UF} {w : Int64} {fl : Nat → Int64} {k : Nat} (h : wInv D u w fl (16 * k)) (hs : D[k]? = none) (hk : k < 3) : wInv D u (w ||| shl64 1 (nI (k * 16))) fl (16 * (k + 1)) := by
  refine ⟨fun p hp => ?_, fun r hr p hp => ?_⟩
  · rw [bl_or, bl_place (k * 16) (by omega) p hp, h.1 p hp]
    by_cases q : 16 * k ≤ p ∧ p < 16 * (k + 1)
    · have e1 : p / 16 = k := by omega
      have hz : wz D u p = decide (p % 16 = 0 ∧ p < 48) := by unfold wz; rw [e1, hs]
      rw [hz, show decide (p < 16 * k) = false by simp; omega, show decide (p < 16 * (k + 1)) = true by simp; omega]
      simp only [Bool.false_and, Bool.false_or, Bool.true_and]
      apply decide_eq_decide.mpr; omega
    · rw [show decide (p < 16 * (k + 1)) = decide (p < 16 * k) by apply decide_eq_decide.mpr; omega, show decide (p = k * 16) = false by simp; omega]; simp
  · rw [h.2 r hr p hp]
    by_cases q : 16 * k ≤ p ∧ p < 16 * (k + 1)
    · have e1 : p / 16 = k := by omega
      have hz : flB D u r p = false := by unfold flB; rw [e1, hs]
      rw [hz]; simp
    · rw [show decide (p < 16 * (k + 1)) = decide (p < 16 * k) by apply decide_eq_decide.mpr; omega]
set_option maxRecDepth 100000 in
set_option maxHeartbeats 4000000 in
theorem ct_Mo_word (G : Gl) (σ : SS) (D : List Stm) (u : UF) (hD : RS σ 15 3 D) (hokD : okL D) (hU : RCu σ 113 u) : CL G mX3_wordOfZeros [Rf G 119, Rf G 15, Rf G 113] σ (fun r σ1 => wInv D u r (σ1.2.2.1 120) 48 ∧ RCu σ1 113 u ∧ Fr 113 123 σ σ1 ∧ σ1.1 119 = σ.1 119) := by
  refine Ctr.of oX3_wordOfZeros (Nat.le_of_ble_eq_true rfl) ?_
  intro X C R hnm hz0
  have C : Cx G X cX3_wordOfZeros 9 RX3 3 69 0 0 := C
  have R : Cr G X (some .long) 0 0 _ := R
  show V G X 9 0 0 0 [(0, Rf G 119), (1, Rf G 15), (2, Rf G 113)] [] (wld G σ)
  have kk_119 := sk_119
  have kk_120 := sk_120
  have kk_121 := sk_121
  have kk_122 := sk_122
  have kk_113 := sk_113
  have kk_15 := sk_15
  have hS := SA_15
  have hD3 : D.length ≤ 3 := hD.2.2.1
  have loop : ∀ (m k : Nat) (w : Int64) (σ1 : SS), 3 < k + m → k ≤ 3 → wInv D u w (σ1.2.2.1 120) (16 * k) → RCu σ1 113 u → Fr 113 123 σ σ1 → σ1.1 119 = σ.1 119 → V G X 9 0 0 13 [(0, Rf G 119), (1, Rf G 15), (2, Rf G 113), (3, .long w), (5, .int (nI k))] [] (wld G σ1) := by
    intro m
    induction m with
    | zero =>
      intro k w σ1 hm hk hI hU1 hF1 hE1
      exact absurd hm (by omega)
    | succ m ih =>
      intro k w σ1 hm hk hI hU1 hF1 hE1
      have hD1 := hD.fr hF1 (by omega)
      refine V.iload C rfl dX3_wordOfZeros_13 ?_
      refine V.iconst C (nI 3) c_3 dX3_wordOfZeros_15 ?_
      refine V.icmp_ge C 114 dX3_wordOfZeros_16 rfl (fun hb_16 => ?_) (fun hb_16 => ?_)
      · have hk3 : k = 3 := by have := (nI_leI (by decide) (by omega)).mp hb_16; omega
        refine V.lload_n C 3 rfl rfl dX3_wordOfZeros_114 ?_
        exact V.lretS C R dX3_wordOfZeros_115 ⟨by rw [hk3] at hI; exact hI, hU1, hF1, hE1⟩
      · have hk3 : k < 3 := Nat.lt_of_not_le (fun q => hb_16 (nI_le q (by omega)))
        refine V.aload_n C 1 rfl rfl dX3_wordOfZeros_19 ?_
        refine V.iload C rfl dX3_wordOfZeros_20 ?_
        refine V.cVi C lX3_59 oX6_has dX3_wordOfZeros_22 (ct_St_has G σ1 15 3 D.length (nI k) hS hD1.2.1 (by omega)) (by assumption) rfl rfl (Nat.le_of_ble_eq_true rfl) ⟨Nat.le_of_ble_eq_true rfl, Nat.le_of_ble_eq_true rfl⟩ ⟨Nat.le_of_ble_eq_true rfl, Nat.le_of_ble_eq_true rfl⟩ (fun rr_22 σ22 pp_22 => ?_)
        obtain ⟨ee_22, ff_22⟩ := pp_22
        rw [ee_22, ff_22, inB_nI (by omega)]
        refine V.if_ne C 38 dX3_wordOfZeros_25 rfl (fun hb_25 => ?_) (fun hb_25 => ?_)
        · have hk8 : k < D.length := by simpa using bI_ne0 hb_25
          obtain ⟨s, hs_⟩ : ∃ s, D[k]? = some s := ⟨_, List.getElem?_eq_getElem hk8⟩
          have hok := hokD k s hs_
          have hok2 := hok.2.1
          have inner : ∀ (mb b : Nat) (w2 : Int64) (σ2 : SS), s.1 < b + mb → b ≤ s.1 → wInv D u w2 (σ2.2.2.1 120) (16 * k + b) → RCu σ2 113 u → Fr 113 123 σ σ2 → σ2.1 119 = σ.1 119 → V G X 9 0 0 41 [(0, Rf G 119), (1, Rf G 15), (2, Rf G 113), (3, .long w2), (5, .int (nI k)), (6, .int (nI b))] [] (wld G σ2) := by
            intro mb
            induction mb with
            | zero =>
              intro b w2 σ2 hm hb
              exact absurd hm (by omega)
            | succ mb ihb =>
              intro b w2 σ2 hm hb hI2 hU2 hF2 hE2
              have hD2 := hD.fr hF2 (by omega)
              have hst := hD2.2.2.2 k s hs_
              refine V.iload C rfl dX3_wordOfZeros_41 ?_
              refine V.aload_n C 1 rfl rfl dX3_wordOfZeros_43 ?_
              refine V.iload C rfl dX3_wordOfZeros_44 ?_
              refine V.cVi C lX3_65 oX6_widthOf dX3_wordOfZeros_46 (ct_St_widthOf G σ2 15 3 D.length k hS hD2.2.1 hD3 (by omega)) (by assumption) rfl rfl (Nat.le_of_ble_eq_true rfl) ⟨Nat.le_of_ble_eq_true rfl, Nat.le_of_ble_eq_true rfl⟩ ⟨Nat.le_of_ble_eq_true rfl, Nat.le_of_ble_eq_true rfl⟩ (fun rr_46 σ46 pp_46 => ?_)
              obtain ⟨ee_46, ff_46⟩ := pp_46
              rw [ee_46, ff_46]
              rw [if_pos hk8, hst.1]
              refine V.icmp_ge C 108 dX3_wordOfZeros_49 rfl (fun hb_49 => ?_) (fun hb_49 => ?_)
              · have hb8 : b = s.1 := by have := (nI_leI (by omega) (by omega)).mp hb_49; omega
                refine V.iinc C (nI (k + 1)) dX3_wordOfZeros_108 rfl (nI_1 k) (by decide) ?_
                refine V.goto C 13 dX3_wordOfZeros_111 rfl ?_
                refine V.lvs (lv' := [(0, Rf G 119), (1, Rf G 15), (2, Rf G 113), (3, .long w2), (5, .int (nI (k + 1)))]) rfl ?_
                exact ih (k + 1) w2 σ2 (by omega) (by omega) (wInv.done (by rw [← hb8]; exact hI2) hs_ hok.2.1) hU2 hF2 hE2
              · have hb8 : b < s.1 := Nat.lt_of_not_le (fun q => hb_49 (nI_le q (by omega)))
                refine V.lconst C 1 rfl dX3_wordOfZeros_52 ?_
                refine V.iload C rfl dX3_wordOfZeros_53 ?_
                refine V.bipush C (nI 16) b_16 dX3_wordOfZeros_55 ?_
                refine V.imul C dX3_wordOfZeros_57 ?_
                refine V.iload C rfl dX3_wordOfZeros_58 ?_
                refine V.iadd C dX3_wordOfZeros_60 ?_
                rw [nI_mul, nI_add]
                refine V.lshl C dX3_wordOfZeros_61 ?_
                refine V.lstore C dX3_wordOfZeros_62 (by decide) ?_
                refine V.lload_n C 3 rfl rfl dX3_wordOfZeros_64 ?_
                refine V.aload_n C 0 rfl rfl dX3_wordOfZeros_65 ?_
                refine V.aload_n C 1 rfl rfl dX3_wordOfZeros_66 ?_
                refine V.iload C rfl dX3_wordOfZeros_67 ?_
                refine V.iconst C (nI 0) c_0 dX3_wordOfZeros_69 ?_
                refine V.iload C rfl dX3_wordOfZeros_70 ?_
                refine V.cVi C lX3_69 oX6_node dX3_wordOfZeros_72 (ct_St_node G σ2 15 3 k 0 b hS (by omega) (by omega) (by omega)) (by assumption) rfl rfl (Nat.le_of_ble_eq_true rfl) ⟨Nat.le_of_ble_eq_true rfl, Nat.le_of_ble_eq_true rfl⟩ ⟨Nat.le_of_ble_eq_true rfl, Nat.le_of_ble_eq_true rfl⟩ (fun rr_72 σ72 pp_72 => ?_)
                obtain ⟨ee_72, ff_72⟩ := pp_72
                rw [ee_72, ff_72]
                rw [hst.2.1 b hb8]
                refine V.lload C rfl dX3_wordOfZeros_75 ?_
                refine V.aload_n C 2 rfl rfl dX3_wordOfZeros_77 ?_
                refine V.cVl C lX3_73 oX3_constantPlace dX3_wordOfZeros_78 (ct_Mo_cplace G σ2 (s.2.1 b) (shl64 1 (nI (k * 16 + b))) u hU2 (hok.2.2 b hb8).1) (by assumption) rfl rfl (Nat.le_of_ble_eq_true rfl) ⟨Nat.le_of_ble_eq_true rfl, Nat.le_of_ble_eq_true rfl⟩ ⟨Nat.le_of_ble_eq_true rfl, Nat.le_of_ble_eq_true rfl⟩ (fun rr_78 σ78 pp_78 => ?_)
                obtain ⟨ee_78, uu_78, ff_78, gg_78, hh_78⟩ := pp_78
                rw [ee_78]
                have hD4 := hD2.fr gg_78 (by omega)
                have hst4 := hD4.2.2.2 k s hs_
                refine V.lxor C dX3_wordOfZeros_81 ?_
                refine V.lstore_n C 3 dX3_wordOfZeros_82 rfl (by decide) ?_
                refine V.lload_n C 3 rfl rfl dX3_wordOfZeros_83 ?_
                refine V.aload_n C 0 rfl rfl dX3_wordOfZeros_84 ?_
                refine V.aload_n C 1 rfl rfl dX3_wordOfZeros_85 ?_
                refine V.iload C rfl dX3_wordOfZeros_86 ?_
                refine V.iconst C (nI 1) c_1 dX3_wordOfZeros_88 ?_
                refine V.iload C rfl dX3_wordOfZeros_89 ?_
                refine V.cVi C lX3_69 oX6_node dX3_wordOfZeros_91 (ct_St_node G σ78 15 3 k 1 b hS (by omega) (by omega) (by omega)) (by assumption) rfl rfl (Nat.le_of_ble_eq_true rfl) ⟨Nat.le_of_ble_eq_true rfl, Nat.le_of_ble_eq_true rfl⟩ ⟨Nat.le_of_ble_eq_true rfl, Nat.le_of_ble_eq_true rfl⟩ (fun rr_91 σ91 pp_91 => ?_)
                obtain ⟨ee_91, ff_91⟩ := pp_91
                rw [ee_91, ff_91]
                rw [hst4.2.2.1 b hb8]
                refine V.lload C rfl dX3_wordOfZeros_94 ?_
                refine V.aload_n C 2 rfl rfl dX3_wordOfZeros_96 ?_
                refine V.cVl C lX3_73 oX3_constantPlace dX3_wordOfZeros_97 (ct_Mo_cplace G σ78 (s.2.2 b) (shl64 1 (nI (k * 16 + b))) u uu_78 (hok.2.2 b hb8).2) (by assumption) rfl rfl (Nat.le_of_ble_eq_true rfl) ⟨Nat.le_of_ble_eq_true rfl, Nat.le_of_ble_eq_true rfl⟩ ⟨Nat.le_of_ble_eq_true rfl, Nat.le_of_ble_eq_true rfl⟩ (fun rr_97 σ97 pp_97 => ?_)
                obtain ⟨ee_97, uu_97, ff_97, gg_97, hh_97⟩ := pp_97
                rw [ee_97]
                refine V.lxor C dX3_wordOfZeros_100 ?_
                refine V.lstore_n C 3 dX3_wordOfZeros_101 rfl (by decide) ?_
                refine V.iinc C (nI (b + 1)) dX3_wordOfZeros_102 rfl (nI_1 b) (by decide) ?_
                refine V.goto C 41 dX3_wordOfZeros_105 rfl ?_
                refine V.lvs (lv' := [(0, Rf G 119), (1, Rf G 15), (2, Rf G 113), (3, .long _), (5, .int (nI k)), (6, .int (nI (b + 1)))]) rfl ?_
                exact ihb (b + 1) _ σ97 (by omega) (by omega) (by rw [ff_97, ff_78]; exact hI2.step hs_ hb8 hok.2.1 (by omega)) uu_97 ((hF2.trans gg_78).trans gg_97) (hh_97.trans (hh_78.trans hE2))
          refine V.iconst C (nI 0) c_0 dX3_wordOfZeros_38 ?_
          refine V.istore C dX3_wordOfZeros_39 (by decide) ?_
          refine V.lvs (lv' := [(0, Rf G 119), (1, Rf G 15), (2, Rf G 113), (3, .long w), (5, .int (nI k)), (6, .int (nI 0))]) rfl ?_
          exact inner (s.1 + 1) 0 w σ1 (by omega) (by omega) hI hU1 hF1 hE1
        · have hk9 : ¬ k < D.length := by simpa using bI_eq0 hb_25
          have hs_ : D[k]? = none := List.getElem?_eq_none (by omega)
          refine V.lload_n C 3 rfl rfl dX3_wordOfZeros_28 ?_
          refine V.lconst C 1 rfl dX3_wordOfZeros_29 ?_
          refine V.iload C rfl dX3_wordOfZeros_30 ?_
          refine V.bipush C (nI 16) b_16 dX3_wordOfZeros_32 ?_
          refine V.imul C dX3_wordOfZeros_34 ?_
          rw [nI_mul]
          refine V.lshl C dX3_wordOfZeros_35 ?_
          refine V.lor C dX3_wordOfZeros_36 ?_
          refine V.lstore_n C 3 dX3_wordOfZeros_37 rfl (by decide) ?_
          refine V.iconst C (nI 0) c_0 dX3_wordOfZeros_38 ?_
          refine V.istore C dX3_wordOfZeros_39 (by decide) ?_
          refine V.iload C rfl dX3_wordOfZeros_41 ?_
          refine V.aload_n C 1 rfl rfl dX3_wordOfZeros_43 ?_
          refine V.iload C rfl dX3_wordOfZeros_44 ?_
          refine V.cVi C lX3_65 oX6_widthOf dX3_wordOfZeros_46 (ct_St_widthOf G σ1 15 3 D.length k hS hD1.2.1 hD3 (by omega)) (by assumption) rfl rfl (Nat.le_of_ble_eq_true rfl) ⟨Nat.le_of_ble_eq_true rfl, Nat.le_of_ble_eq_true rfl⟩ ⟨Nat.le_of_ble_eq_true rfl, Nat.le_of_ble_eq_true rfl⟩ (fun rr_46 σ46 pp_46 => ?_)
          obtain ⟨ee_46, ff_46⟩ := pp_46
          rw [ee_46, ff_46, if_neg hk9]
          refine V.icmp_ge C 108 dX3_wordOfZeros_49 rfl (fun hb_49 => ?_) (fun hb_49 => ?_)
          · refine V.iinc C (nI (k + 1)) dX3_wordOfZeros_108 rfl (nI_1 k) (by decide) ?_
            refine V.goto C 13 dX3_wordOfZeros_111 rfl ?_
            refine V.lvs (lv' := [(0, Rf G 119), (1, Rf G 15), (2, Rf G 113), (3, .long _), (5, .int (nI (k + 1)))]) rfl ?_
            exact ih (k + 1) _ σ1 (by omega) (by omega) (hI.none hs_ hk3) hU1 hF1 hE1
          · exact absurd (show nI 0 ≥ (0 : Int32) from nI_pos' (by decide)) hb_49
  refine V.aload_n C 0 rfl rfl dX3_wordOfZeros_0 ?_
  refine V.getR C fX3_9 dX3_wordOfZeros_1 (by assumption) rfl ?_
  refine V.lconst C 0 rfl dX3_wordOfZeros_4 ?_
  refine V.cSv C lX3_53 oJ7_fill_d0a16 dX3_wordOfZeros_5 (ct_fillL G σ 120 128 0 kk_120 (by decide)) rfl rfl (Nat.le_of_ble_eq_true rfl) ⟨Nat.le_of_ble_eq_true rfl, Nat.le_of_ble_eq_true rfl⟩ ⟨Nat.le_of_ble_eq_true rfl, Nat.le_of_ble_eq_true rfl⟩ (fun σ5 pp_5 => ?_)
  refine V.lconst C 0 rfl dX3_wordOfZeros_8 ?_
  refine V.lstore_n C 3 dX3_wordOfZeros_9 rfl (by decide) ?_
  refine V.iconst C (nI 0) c_0 dX3_wordOfZeros_10 ?_
  refine V.istore C dX3_wordOfZeros_11 (by decide) ?_
  refine V.lvs (lv' := [(0, Rf G 119), (1, Rf G 15), (2, Rf G 113), (3, .long 0), (5, .int (nI 0))]) rfl ?_
  have hF5 : Fr 119 123 σ σ5 := by rw [pp_5]; exact (Fr.refl _ _ _).sL _ (by omega) (by omega)
  refine loop 4 0 0 σ5 (by omega) (by omega) ⟨fun p hp => ?_, fun r hr p hp => ?_⟩ (hU.fr hF5 (by omega)) (hF5.mono (by omega) (by omega)) (by rw [pp_5]; rfl)
  · rw [bl_0]; simp
  · rw [pp_5, sL_L, if_pos hr, bl_0]; simp
def pkAll (fl : Nat → Int64) (w : Int64) (cs : List Nat) : Option (List Nat) :=
  if hold3 w = true then some [] else match pk1 fl w cs with
  | some a => some [a]
  | none => match pk2 fl w cs with
    | some q => some [q.1, q.2]
    | none => match pk3 fl w cs with
      | some q => some [q.1, q.2.1, q.2.2]
      | none => none
/-- what the model's cells say: the ones that were chosen, or that there is no model -/
def RMo (σ : SS) (res : Option (List Nat)) : Prop := match res with
  | none => σ.1 119 4 = (-9)
  | some os => σ.1 119 4 = nI os.length ∧ os.length ≤ 3 ∧ ∀ (i r : Nat), os[i]? = some r → σ.2.1 122 i = nI r ∧ r < 128
theorem pk1_mem {fl : Nat → Int64} {w : Int64} {a : Nat} : ∀ {l : List Nat}, pk1 fl w l = some a → a ∈ l
  | [], h => by cases h
  | b :: l, h => by
    unfold pk1 at h
    by_cases q : hold3 (w ^^^ fl b) = true
    · rw [if_pos q] at h; cases h; exact List.mem_cons_self
    · rw [if_neg q] at h; exact List.mem_cons_of_mem _ (pk1_mem h)
theorem pk2_mem {fl : Nat → Int64} {w : Int64} {q : Nat × Nat} : ∀ {l : List Nat}, pk2 fl w l = some q → q.1 ∈ l ∧ q.2 ∈ l
  | [], h => by cases h
  | b :: l, h => by
    unfold pk2 at h
    cases hp : pk1 fl (w ^^^ fl b) l with
    | some c => rw [hp] at h; cases h; exact ⟨List.mem_cons_self, List.mem_cons_of_mem _ (pk1_mem hp)⟩
    | none => rw [hp] at h; have := pk2_mem h; exact ⟨List.mem_cons_of_mem _ this.1, List.mem_cons_of_mem _ this.2⟩
theorem pk3_mem {fl : Nat → Int64} {w : Int64} {q : Nat × Nat × Nat} : ∀ {l : List Nat}, pk3 fl w l = some q → q.1 ∈ l ∧ q.2.1 ∈ l ∧ q.2.2 ∈ l
  | [], h => by cases h
  | b :: l, h => by
    unfold pk3 at h
    cases hp : pk2 fl (w ^^^ fl b) l with
    | some c => rw [hp] at h; cases h; have := pk2_mem hp; exact ⟨List.mem_cons_self, List.mem_cons_of_mem _ this.1, List.mem_cons_of_mem _ this.2⟩
    | none => rw [hp] at h; have := pk3_mem h; exact ⟨List.mem_cons_of_mem _ this.1, List.mem_cons_of_mem _ this.2.1, List.mem_cons_of_mem _ this.2.2⟩

set_option maxRecDepth 100000 in
set_option maxHeartbeats 4000000 in
theorem ct_Mo_choose (G : Gl) (σ : SS) (D : List Stm) (u : UF) (hD : RS σ 15 3 D) (hokD : okL D) (hU : RCu σ 113 u) : CV G mX3_choose [Rf G 119, Rf G 15, Rf G 113] σ (fun σ1 => (u.2.2 = true → ∃ (w : Int64) (fl : Nat → Int64), wInv D u w fl 48 ∧ RMo σ1 (pkAll fl w (candL fl 128))) ∧ (u.2.2 = false → RMo σ1 none) ∧ RCu σ1 113 u ∧ Fr 113 123 σ σ1) := by
  refine Ctr.of oX3_choose (Nat.le_of_ble_eq_true rfl) ?_
  intro X C R hnm hz0
  have C : Cx G X cX3_choose 5 RX3 4 97 0 0 := C
  have R : Cr G X none 0 0 _ := R
  show V G X 5 0 0 0 [(0, Rf G 119), (1, Rf G 15), (2, Rf G 113)] [] (wld G σ)
  have kk_119 := sk_119
  have kk_120 := sk_120
  have kk_121 := sk_121
  have kk_122 := sk_122
  have kk_113 := sk_113
  have kk_15 := sk_15
  have hS := SA_15
  have hD3 : D.length ≤ 3 := hD.2.2.1
  refine V.aload_n C 0 rfl rfl dX3_choose_0 ?_
  refine V.bipush C ((-9)) b_m9 dX3_choose_1 ?_
  refine V.putI C fX3_22 dX3_choose_3 (by assumption) rfl ?_
  have hF0 : Fr 119 120 σ (sF σ 119 4 (-9)) := (Fr.refl _ _ _).sF _ _ (by omega) (by omega)
  have hU0 := hU.fr hF0 (by omega)
  have hD0 := hD.fr hF0 (by omega)
  refine V.aload_n C 2 rfl rfl dX3_choose_6 ?_
  refine V.cVi C lX3_26 oX0_agree dX3_choose_7 (ct_Cl_agree G (sF σ 119 4 (-9)) 113 u ClA_113 hU0) (by assumption) rfl rfl (Nat.le_of_ble_eq_true rfl) ⟨Nat.le_of_ble_eq_true rfl, Nat.le_of_ble_eq_true rfl⟩ ⟨Nat.le_of_ble_eq_true rfl, Nat.le_of_ble_eq_true rfl⟩ (fun rr_7 σ7 pp_7 => ?_)
  obtain ⟨ee_7, ff_7⟩ := pp_7
  rw [ee_7, ff_7]
  refine V.if_ne C 14 dX3_choose_10 rfl (fun hb_10 => ?_) (fun hb_10 => ?_)
  · have ok_ := bI_ne0 hb_10
    refine V.aload_n C 0 rfl rfl dX3_choose_14 ?_
    refine V.aload_n C 1 rfl rfl dX3_choose_15 ?_
    refine V.aload_n C 2 rfl rfl dX3_choose_16 ?_
    refine V.cVl C lX3_32 oX3_wordOfZeros dX3_choose_17 (ct_Mo_word G (sF σ 119 4 (-9)) D u hD0 hokD hU0) (by assumption) rfl rfl (Nat.le_of_ble_eq_true rfl) ⟨Nat.le_of_ble_eq_true rfl, Nat.le_of_ble_eq_true rfl⟩ ⟨Nat.le_of_ble_eq_true rfl, Nat.le_of_ble_eq_true rfl⟩ (fun rr_17 σ17 pp_17 => ?_)
    obtain ⟨wi_, uu_17, gg_17, hh_17⟩ := pp_17
    refine V.lstore_n C 3 dX3_choose_20 rfl (by decide) ?_
    refine V.aload_n C 0 rfl rfl dX3_choose_21 ?_
    refine V.cVv C lX3_36 oX3_gatherCandidates dX3_choose_22 (ct_Mo_gather G σ17) (by assumption) rfl rfl (Nat.le_of_ble_eq_true rfl) ⟨Nat.le_of_ble_eq_true rfl, Nat.le_of_ble_eq_true rfl⟩ ⟨Nat.le_of_ble_eq_true rfl, Nat.le_of_ble_eq_true rfl⟩ (fun σ22 pp_22 => ?_)
    obtain ⟨cd_, gg_22, hh_22, kp_22⟩ := pp_22
    have hG : Fr 113 123 σ σ22 := ((hF0.mono (by omega) (by omega)).trans gg_17).trans (gg_22.mono (by omega) (by omega))
    have uu_22 := uu_17.fr gg_22 (by omega)
    have hm9 : σ22.1 119 4 = (-9) := by rw [kp_22, hh_17, sF_F]
    refine V.lload_n C 3 rfl rfl dX3_choose_25 ?_
    refine V.cSi C lX3_39 oX3_holds dX3_choose_26 (ct_Mo_holds G σ22 rr_17) rfl rfl (Nat.le_of_ble_eq_true rfl) ⟨Nat.le_of_ble_eq_true rfl, Nat.le_of_ble_eq_true rfl⟩ ⟨Nat.le_of_ble_eq_true rfl, Nat.le_of_ble_eq_true rfl⟩ (fun rr_26 σ26 pp_26 => ?_)
    obtain ⟨ee_26, ff_26⟩ := pp_26
    rw [ee_26, ff_26]
    refine V.if_eq C 40 dX3_choose_29 rfl (fun hb_29 => ?_) (fun hb_29 => ?_)
    · have z0_ := bI_eq0 hb_29
      refine V.aload_n C 0 rfl rfl dX3_choose_40 ?_
      refine V.iconst C (nI 0) c_0 dX3_choose_41 ?_
      refine V.iconst C (nI 0) c_0 dX3_choose_42 ?_
      refine V.lload_n C 3 rfl rfl dX3_choose_43 ?_
      refine V.cVi C lX3_43 oX3_pickLast dX3_choose_44 (ct_Mo_pick1 G σ22 0 0 rr_17 (candL (σ17.2.2.1 120) 128) cd_ (by omega) (by omega)) (by assumption) rfl rfl (Nat.le_of_ble_eq_true rfl) ⟨Nat.le_of_ble_eq_true rfl, Nat.le_of_ble_eq_true rfl⟩ ⟨Nat.le_of_ble_eq_true rfl, Nat.le_of_ble_eq_true rfl⟩ (fun rr_44 σ44 pp_44 => ?_)
      obtain ⟨ee_44, ff_44⟩ := pp_44
      rw [hh_22, List.drop_zero] at ee_44 ff_44
      rw [ee_44]
      refine V.if_eq C 58 dX3_choose_47 rfl (fun hb_47 => ?_) (fun hb_47 => ?_)
      · have z1_ := bI_eq0 hb_47
        have n1_ : pk1 (σ17.2.2.1 120) rr_17 (candL (σ17.2.2.1 120) 128) = none := by
          cases hq : pk1 (σ17.2.2.1 120) rr_17 (candL (σ17.2.2.1 120) 128) with
          | none => rfl
          | some a => rw [hq] at z1_; cases z1_
        have e44_ : σ44 = σ22 := by rw [ff_44, n1_]
        rw [e44_]
        refine V.aload_n C 0 rfl rfl dX3_choose_58 ?_
        refine V.iconst C (nI 0) c_0 dX3_choose_59 ?_
        refine V.iconst C (nI 0) c_0 dX3_choose_60 ?_
        refine V.lload_n C 3 rfl rfl dX3_choose_61 ?_
        refine V.cVi C lX3_47 oX3_pickLastTwo dX3_choose_62 (ct_Mo_pick2 G σ22 0 0 rr_17 (candL (σ17.2.2.1 120) 128) cd_ (by omega) (by omega)) (by assumption) rfl rfl (Nat.le_of_ble_eq_true rfl) ⟨Nat.le_of_ble_eq_true rfl, Nat.le_of_ble_eq_true rfl⟩ ⟨Nat.le_of_ble_eq_true rfl, Nat.le_of_ble_eq_true rfl⟩ (fun rr_62 σ62 pp_62 => ?_)
        obtain ⟨ee_62, ff_62, gg_62, hh_62⟩ := pp_62
        rw [hh_22, List.drop_zero] at ee_62 gg_62
        rw [ee_62]
        refine V.if_eq C 76 dX3_choose_65 rfl (fun hb_65 => ?_) (fun hb_65 => ?_)
        · have z2_ := bI_eq0 hb_65
          refine V.aload_n C 0 rfl rfl dX3_choose_76 ?_
          refine V.lload_n C 3 rfl rfl dX3_choose_77 ?_
          refine V.cVi C lX3_50 oX3_pickThree dX3_choose_78 (ct_Mo_pick3 G σ62 rr_17 (candL (σ17.2.2.1 120) 128) (cd_.fr ff_62 (by omega))) (by assumption) rfl rfl (Nat.le_of_ble_eq_true rfl) ⟨Nat.le_of_ble_eq_true rfl, Nat.le_of_ble_eq_true rfl⟩ ⟨Nat.le_of_ble_eq_true rfl, Nat.le_of_ble_eq_true rfl⟩ (fun rr_78 σ78 pp_78 => ?_)
          obtain ⟨ee_78, ff_78, gg_78⟩ := pp_78
          rw [ff_62.L (k := 120) (by omega), hh_22] at ee_78 gg_78
          rw [ee_78]
          refine V.if_eq C 89 dX3_choose_81 rfl (fun hb_81 => ?_) (fun hb_81 => ?_)
          · have z3_ := bI_eq0 hb_81
            exact V.vretS C R dX3_choose_89 (by
  refine ⟨fun _ => ⟨rr_17, σ17.2.2.1 120, wi_, ?_⟩, fun h => absurd (h.symm.trans ok_) (by decide), ?_, ?_⟩
  · have n2_ : pk2 (σ17.2.2.1 120) rr_17 (candL (σ17.2.2.1 120) 128) = none := by
      cases hq : pk2 (σ17.2.2.1 120) rr_17 (candL (σ17.2.2.1 120) 128) with
      | none => rfl
      | some a => rw [hq] at z2_; cases z2_
    have n3_ : pk3 (σ17.2.2.1 120) rr_17 (candL (σ17.2.2.1 120) 128) = none := by
      cases hq : pk3 (σ17.2.2.1 120) rr_17 (candL (σ17.2.2.1 120) 128) with
      | none => rfl
      | some a => rw [hq] at z3_; cases z3_
    unfold pkAll; rw [if_neg (by rw [z0_]; decide), n1_, n2_, n3_]
    show σ78.1 119 4 = (-9)
    rw [ff_78.F (k := 119) (by omega), ff_62.F (k := 119) (by omega)]; exact hm9
  · exact (uu_22.fr ff_62 (by omega)).fr ff_78 (by omega)
  · exact (hG.trans (ff_62.mono (by omega) (by omega))).trans (ff_78.mono (by omega) (by omega)))
          · have z3_ := bI_ne0 hb_81
            refine V.aload_n C 0 rfl rfl dX3_choose_84 ?_
            refine V.iconst C (nI 3) c_3 dX3_choose_85 ?_
            refine V.putI C fX3_22 dX3_choose_86 (by assumption) rfl ?_
            exact V.vretS C R dX3_choose_89 (by
  refine ⟨fun _ => ⟨rr_17, σ17.2.2.1 120, wi_, ?_⟩, fun h => absurd (h.symm.trans ok_) (by decide), ?_, ?_⟩
  · cases hq_ : pk3 (σ17.2.2.1 120) rr_17 (candL (σ17.2.2.1 120) 128) with
    | none => rw [hq_] at z3_; cases z3_
    | some q =>
      obtain ⟨a, b, c⟩ := q
      have g_ := gg_78 a b c hq_
      have mm_ := pk3_mem hq_
      have n2_ : pk2 (σ17.2.2.1 120) rr_17 (candL (σ17.2.2.1 120) 128) = none := by
        cases hq : pk2 (σ17.2.2.1 120) rr_17 (candL (σ17.2.2.1 120) 128) with
        | none => rfl
        | some a => rw [hq] at z2_; cases z2_
      unfold pkAll; rw [if_neg (by rw [z0_]; decide), n1_, n2_, hq_]
      refine ⟨sF_F _ _ _ _, by simp, fun i r h => ?_⟩
      have hi_ : i < 3 := (List.getElem?_eq_some_iff.mp h).1
      rcases (show i = 0 ∨ i = 1 ∨ i = 2 by omega) with e_ | e_ | e_
      · subst e_; cases h; exact ⟨g_.1, candL_lt mm_.1⟩
      · subst e_; cases h; exact ⟨g_.2.1, candL_lt mm_.2.1⟩
      · subst e_; cases h; exact ⟨g_.2.2, candL_lt mm_.2.2⟩
  · exact ((uu_22.fr ff_62 (by omega)).fr ff_78 (by omega)).fr ((Fr.refl 119 120 σ78).sF _ _ (by omega) (by omega)) (by omega)
  · exact ((hG.trans (ff_62.mono (by omega) (by omega))).trans (ff_78.mono (by omega) (by omega))).sF _ _ (by omega) (by omega))
        · have z2_ := bI_ne0 hb_65
          refine V.aload_n C 0 rfl rfl dX3_choose_68 ?_
          refine V.iconst C (nI 2) c_2 dX3_choose_69 ?_
          refine V.putI C fX3_22 dX3_choose_70 (by assumption) rfl ?_
          refine V.goto C 89 dX3_choose_73 rfl ?_
          exact V.vretS C R dX3_choose_89 (by
  refine ⟨fun _ => ⟨rr_17, σ17.2.2.1 120, wi_, ?_⟩, fun h => absurd (h.symm.trans ok_) (by decide), ?_, ?_⟩
  · cases hq_ : pk2 (σ17.2.2.1 120) rr_17 (candL (σ17.2.2.1 120) 128) with
    | none => rw [hq_] at z2_; cases z2_
    | some q =>
      obtain ⟨a, b⟩ := q
      have g_ := gg_62 a b hq_
      have mm_ := pk2_mem hq_
      unfold pkAll; rw [if_neg (by rw [z0_]; decide), n1_, hq_]
      refine ⟨sF_F _ _ _ _, by simp, fun i r h => ?_⟩
      have hi_ : i < 2 := (List.getElem?_eq_some_iff.mp h).1
      rcases (show i = 0 ∨ i = 1 by omega) with e_ | e_
      · subst e_; cases h; exact ⟨g_.1, candL_lt mm_.1⟩
      · subst e_; cases h; exact ⟨g_.2, candL_lt mm_.2⟩
  · exact (uu_22.fr ff_62 (by omega)).fr ((Fr.refl 119 120 σ62).sF _ _ (by omega) (by omega)) (by omega)
  · exact (hG.trans (ff_62.mono (by omega) (by omega))).sF _ _ (by omega) (by omega))
      · have z1_ := bI_ne0 hb_47
        refine V.aload_n C 0 rfl rfl dX3_choose_50 ?_
        refine V.iconst C (nI 1) c_1 dX3_choose_51 ?_
        refine V.putI C fX3_22 dX3_choose_52 (by assumption) rfl ?_
        refine V.goto C 89 dX3_choose_55 rfl ?_
        exact V.vretS C R dX3_choose_89 (by
  refine ⟨fun _ => ⟨rr_17, σ17.2.2.1 120, wi_, ?_⟩, fun h => absurd (h.symm.trans ok_) (by decide), ?_, ?_⟩
  · cases hq_ : pk1 (σ17.2.2.1 120) rr_17 (candL (σ17.2.2.1 120) 128) with
    | none => rw [hq_] at z1_; cases z1_
    | some a =>
      have e_ : σ44 = sA σ22 122 (va_up (σ22.2.1 122) 0 (nI a)) := by rw [ff_44, hq_]
      unfold pkAll; rw [if_neg (by rw [z0_]; decide), hq_]
      refine ⟨sF_F _ _ _ _, by simp, fun i r h => ?_⟩
      have hi_ : i < 1 := (List.getElem?_eq_some_iff.mp h).1
      have hi0_ : i = 0 := by omega
      subst hi0_
      cases h
      rw [e_]
      refine ⟨?_, candL_lt (pk1_mem hq_)⟩
      show (sA σ22 122 _).2.1 122 0 = _
      rw [sA_A, up_eq]
  · cases hq_ : pk1 (σ17.2.2.1 120) rr_17 (candL (σ17.2.2.1 120) 128) with
    | none => rw [hq_] at z1_; cases z1_
    | some a => rw [show σ44 = sA σ22 122 (va_up (σ22.2.1 122) 0 (nI a)) by rw [ff_44, hq_]]; exact uu_22.fr (((Fr.refl 119 123 σ22).sA _ (by omega) (by omega)).sF _ _ (by omega) (by omega)) (by omega)
  · cases hq_ : pk1 (σ17.2.2.1 120) rr_17 (candL (σ17.2.2.1 120) 128) with
    | none => rw [hq_] at z1_; cases z1_
    | some a => rw [show σ44 = sA σ22 122 (va_up (σ22.2.1 122) 0 (nI a)) by rw [ff_44, hq_]]; exact (hG.sA _ (by omega) (by omega)).sF _ _ (by omega) (by omega))
    · have z0_ := bI_ne0 hb_29
      refine V.aload_n C 0 rfl rfl dX3_choose_32 ?_
      refine V.iconst C (nI 0) c_0 dX3_choose_33 ?_
      refine V.putI C fX3_22 dX3_choose_34 (by assumption) rfl ?_
      refine V.goto C 89 dX3_choose_37 rfl ?_
      exact V.vretS C R dX3_choose_89 (by
  refine ⟨fun _ => ⟨rr_17, σ17.2.2.1 120, wi_, ?_⟩, fun h => absurd (h.symm.trans ok_) (by decide), ?_, ?_⟩
  · unfold pkAll; rw [if_pos z0_]; exact ⟨sF_F _ _ _ _, by decide, fun i r h => by cases h⟩
  · exact uu_22.fr ((Fr.refl 119 120 σ22).sF _ _ (by omega) (by omega)) (by omega)
  · exact hG.sF _ _ (by omega) (by omega))
  · have ok_ := bI_eq0 hb_10
    exact V.vretS C R dX3_choose_13 ⟨fun h => absurd (h.symm.trans ok_) (by decide), fun _ => by show (sF σ 119 4 (-9)).1 119 4 = (-9); exact sF_F _ _ _ _, hU0, hF0.mono (by omega) (by omega)⟩
