/-! The model's search. -/
/-- the ones that are tried: the first of three -/
def oT (size a b c : Nat) : List Nat := [a, b, c].take size
def nxL (size j : Nat) (l : List Nat) : List Nat := if j < size then l else [0]
def sr3 (g : List Nat → Bool) (size a b : Nat) : List Nat → Option (List Nat)
  | [] => none
  | c :: l => if g (oT size a b c) = true then some (oT size a b c) else sr3 g size a b l
def sr2 (g : List Nat → Bool) (size a : Nat) : List Nat → Option (List Nat)
  | [] => none
  | b :: l => match sr3 g size a b (nxL size 2 l) with
    | some r => some r
    | none => sr2 g size a l
def sr1 (g : List Nat → Bool) (size : Nat) : List Nat → Option (List Nat)
  | [] => none
  | a :: l => match sr2 g size a (nxL size 1 l) with
    | some r => some r
    | none => sr1 g size l
def sr0 (g : List Nat → Bool) (size : Nat) (us : List Nat) : Option (List Nat) := sr1 g size (nxL size 0 us)
def st3 (σ : SS) (i : Nat) (x : Int32) : SS := sA σ 134 (va_up (σ.2.1 134) i x)
theorem RO_put {σ : SS} {size a b c : Nat} (x0 x1 x2 : Int32) (hz : σ.1 123 23 = nI size) (h3 : size ≤ 3) (h0 : 0 < size → x0 = nI a ∧ a < 128) (h1 : 1 < size → x1 = nI b ∧ b < 128) (h2 : 2 < size → x2 = nI c ∧ c < 128) : RO (st3 (st3 (st3 σ 0 x0) 1 x1) 2 x2) (oT size a b c) := by
  have hl : (oT size a b c).length = size := by unfold oT; rw [List.length_take]; simp; omega
  refine ⟨by rw [hl]; exact hz, by omega, fun i r hi => ?_⟩
  have hi1 : i < size := by rw [← hl]; exact (List.getElem?_eq_some_iff.mp hi).1
  unfold oT at hi
  rw [List.getElem?_take, if_pos hi1] at hi
  unfold st3
  rw [sA_A]
  rcases (show i = 0 ∨ i = 1 ∨ i = 2 by omega) with rfl | rfl | rfl
  · rw [up_ne _ _ (by decide), sA_A, up_ne _ _ (by decide), sA_A, up_eq]
    cases hi; exact h0 hi1
  · rw [up_ne _ _ (by decide), sA_A, up_eq]
    cases hi; exact h1 hi1
  · rw [up_eq]
    cases hi; exact h2 hi1
theorem nx_get {us A : List Nat} {size j i a : Nat} (hA : A = nxL size j us) (h : A[i]? = some a) (hj : j < size) : us[i]? = some a := by
  rw [hA] at h; unfold nxL at h; rw [if_pos hj] at h; exact h
set_option maxRecDepth 100000 in
set_option maxHeartbeats 4000000 in
theorem ct_M_search (G : Gl) (σ : SS) (P : Prob) (u : UF) (us : List Nat) (size : Nat) (hP : FP (σ.2.1 124) P) (hwf : wfP P) (hU : RCm σ u) (hu : u.2.2 = true) (hUs : RU σ us) (h3 : size ≤ 3) : CI G mX10_search [Rf G 123, .int (nI size)] σ (fun r σ1 => r = bI (sr0 (fun os => mW u os P.2.2) size us).isSome ∧ (∀ os, sr0 (fun os => mW u os P.2.2) size us = some os → RO σ1 os) ∧ FM [23] [134] σ σ1) := by
  refine Ctr.of oX10_search (Nat.le_of_ble_eq_true rfl) ?_
  intro X C R hnm hz0
  have C : Cx G X cX10_search 8 RX10 4 91 0 0 := C
  have R : Cr G X (some .boolean) 0 0 _ := R
  show V G X 8 0 0 0 [(0, Rf G 123), (1, .int (nI size))] [] (wld G σ)
  have kk_123 := sk_123
  have kk_124 := sk_124
  have kk_131 := sk_131
  have kk_132 := sk_132
  have kk_133 := sk_133
  have kk_134 := sk_134
  have kk_135 := sk_135
  have ub_ := hUs.2.1
  have loopI : ∀ (A : List Nat), A = nxL size 0 us → A.length ≤ 128 → ∀ (m i : Nat) (σ1 : SS), A.length < i + m → i ≤ A.length → sr0 (fun os => mW u os P.2.2) size us = sr1 (fun os => mW u os P.2.2) size (A.drop i) → FM [23] [134] σ σ1 → σ1.1 123 23 = nI size → V G X 8 0 0 20 [(0, Rf G 123), (1, .int (nI size)), (2, .int (nI A.length)), (3, .int (nI i))] [] (wld G σ1) := by
    intro A hA Ab m
    induction m with
    | zero =>
      intro i σ1 hm hi he1 hF1 hz1
      exact absurd hm (by omega)
    | succ m ih =>
      intro i σ1 hm hi he1 hF1 hz1
      refine V.iload_n C 3 rfl rfl dX10_search_20 ?_
      refine V.iload_n C 2 rfl rfl dX10_search_21 ?_
      refine V.icmp_ge C 179 dX10_search_22 rfl (fun hb_22 => ?_) (fun hb_22 => ?_)
      · have zi_ : i = A.length := by have := (nI_leI (by omega) (by omega)).mp hb_22; omega
        refine V.iconst C (nI 0) c_0 dX10_search_179 ?_
        exact V.zretS C R dX10_search_180 (by first | exact Or.inl rfl | exact Or.inr rfl | exact bI01 _) (by
          have e_ : sr0 (fun os => mW u os P.2.2) size us = none := by rw [he1, zi_, List.drop_length]; rfl
          rw [e_]
          exact ⟨rfl, (fun os h => by cases h), hF1⟩)
      · have zi_ : i < A.length := Nat.lt_of_not_le (fun q => hb_22 (nI_le (by omega) (by omega)))
        obtain ⟨a, ha1, ha2⟩ := drop_cons zi_
        have gA_ : 0 < size → us[i]? = some a := fun q => nx_get hA ha1 q
        have ihI := ih
        have loopJ : ∀ (B : List Nat) (n2 : Nat), B = nxL size 1 (A.drop (i + 1)) → n2 = i + 1 + B.length → n2 < 500 → ∀ (m t : Nat) (σ2 : SS), B.length < t + m → t ≤ B.length → sr2 (fun os => mW u os P.2.2) size a B = sr2 (fun os => mW u os P.2.2) size a (B.drop t) → FM [23] [134] σ σ2 → σ2.1 123 23 = nI size → V G X 8 0 0 47 [(0, Rf G 123), (1, .int (nI size)), (2, .int (nI A.length)), (3, .int (nI i)), (4, .int (nI n2)), (5, .int (nI (i + 1 + t)))] [] (wld G σ2) := by
          intro B n2 hB hn2 n2b m
          induction m with
          | zero =>
            intro t σ2 hm ht he2 hF2 hz2
            exact absurd hm (by omega)
          | succ m ih =>
            intro t σ2 hm ht he2 hF2 hz2
            refine V.iload C rfl dX10_search_47 ?_
            refine V.iload C rfl dX10_search_49 ?_
            refine V.icmp_ge C 173 dX10_search_51 rfl (fun hb_51 => ?_) (fun hb_51 => ?_)
            · have zt_ : t = B.length := by have := (nI_leI (by omega) (by omega)).mp hb_51; omega
              refine V.iinc C (nI (i + 1)) dX10_search_173 rfl (nI_1 i) (by decide) ?_
              refine V.goto C 20 dX10_search_176 rfl ?_
              refine V.lvs (lv' := [(0, Rf G 123), (1, .int (nI size)), (2, .int (nI A.length)), (3, .int (nI (i + 1)))]) rfl ?_
              refine ihI (i + 1) σ2 (by omega) (by omega) ?_ hF2 hz2
              rw [he1, ha2]
              have e2_ : sr2 (fun os => mW u os P.2.2) size a B = none := by rw [he2, zt_, List.drop_length]; rfl
              show (match sr2 (fun os => mW u os P.2.2) size a (nxL size 1 (A.drop (i + 1))) with | some r => some r | none => _) = _
              rw [← hB, e2_]
            · have zt_ : t < B.length := Nat.lt_of_not_le (fun q => hb_51 (nI_le (by omega) (by omega)))
              obtain ⟨b, hb1, hb2⟩ := drop_cons zt_
              have gB_ : 1 < size → us[i + 1 + t]? = some b := fun q => by
                have g_ := nx_get hB hb1 q
                rw [List.getElem?_drop, hA] at g_
                unfold nxL at g_
                rw [if_pos (by omega)] at g_
                exact g_
              have ihJ := ih
              have loopK : ∀ (Cc : List Nat) (n3 : Nat), Cc = nxL size 2 (B.drop (t + 1)) → n3 = i + 1 + t + 1 + Cc.length → n3 < 1000 → ∀ (m s : Nat) (σ3 : SS), Cc.length < s + m → s ≤ Cc.length → sr3 (fun os => mW u os P.2.2) size a b Cc = sr3 (fun os => mW u os P.2.2) size a b (Cc.drop s) → FM [23] [134] σ σ3 → σ3.1 123 23 = nI size → V G X 8 0 0 78 [(0, Rf G 123), (1, .int (nI size)), (2, .int (nI A.length)), (3, .int (nI i)), (4, .int (nI n2)), (5, .int (nI (i + 1 + t))), (6, .int (nI n3)), (7, .int (nI (i + 1 + t + 1 + s)))] [] (wld G σ3) := by
                intro Cc n3 hC hn3 n3b m
                induction m with
                | zero =>
                  intro s σ3 hm hs he3 hF3 hz3
                  exact absurd hm (by omega)
                | succ m ih =>
                  intro s σ3 hm hs he3 hF3 hz3
                  refine V.iload C rfl dX10_search_78 ?_
                  refine V.iload C rfl dX10_search_80 ?_
                  refine V.icmp_ge C 167 dX10_search_82 rfl (fun hb_82 => ?_) (fun hb_82 => ?_)
                  · have zs_ : s = Cc.length := by have := (nI_leI (by omega) (by omega)).mp hb_82; omega
                    refine V.iinc C (nI (i + 1 + (t + 1))) dX10_search_167 rfl (nI_1 (i + 1 + t)) (by decide) ?_
                    refine V.goto C 47 dX10_search_170 rfl ?_
                    refine V.lvs (lv' := [(0, Rf G 123), (1, .int (nI size)), (2, .int (nI A.length)), (3, .int (nI i)), (4, .int (nI n2)), (5, .int (nI (i + 1 + (t + 1))))]) rfl ?_
                    refine ihJ (t + 1) σ3 (by omega) (by omega) ?_ hF3 hz3
                    rw [he2, hb2]
                    have e3_ : sr3 (fun os => mW u os P.2.2) size a b Cc = none := by rw [he3, zs_, List.drop_length]; rfl
                    show (match sr3 (fun os => mW u os P.2.2) size a b (nxL size 2 (B.drop (t + 1))) with | some r => some r | none => _) = _
                    rw [← hC, e3_]
                  · have zs_ : s < Cc.length := Nat.lt_of_not_le (fun q => hb_82 (nI_le (by omega) (by omega)))
                    obtain ⟨c, hc1, hc2⟩ := drop_cons zs_
                    have gC_ : 2 < size → us[i + 1 + t + 1 + s]? = some c := fun q => by
                      have g_ := nx_get hC hc1 q
                      rw [List.getElem?_drop, hB] at g_
                      unfold nxL at g_
                      rw [if_pos (by omega), List.getElem?_drop, hA] at g_
                      unfold nxL at g_
                      rw [if_pos (by omega)] at g_
                      rw [← g_]; congr 1; omega
                    refine V.aload_n C 0 rfl rfl dX10_search_85 ?_
                    refine V.getR C fX10_41 dX10_search_86 (by assumption) rfl ?_
                    refine V.iconst C (nI 0) c_0 dX10_search_89 ?_
                    refine V.iload_n C 1 rfl rfl dX10_search_90 ?_
                    refine V.if_le C 103 dX10_search_91 rfl (fun hb_91 => ?_) (fun hb_91 => ?_)
                    · have y0_ : size = 0 := by have := (nI_leI (a := size) (b := 0) (by omega) (by omega)).mp hb_91; omega
                      refine V.bipush C ((-9)) b_m9 dX10_search_103 ?_
                      refine V.iastN C dX10_search_105 (by assumption) (by omega) ?_
                      refine V.aload_n C 0 rfl rfl dX10_search_106 ?_
                      refine V.getR C fX10_41 dX10_search_107 (by assumption) rfl ?_
                      refine V.iconst C (nI 1) c_1 dX10_search_110 ?_
                      refine V.iload_n C 1 rfl rfl dX10_search_111 ?_
                      refine V.iconst C (nI 1) c_1 dX10_search_112 ?_
                      refine V.icmp_le C 126 dX10_search_113 rfl (fun hb_113 => ?_) (fun hb_113 => ?_)
                      · have y1_ : size ≤ 1 := (nI_leI (by omega) (by omega)).mp hb_113
                        refine V.bipush C ((-9)) b_m9 dX10_search_126 ?_
                        refine V.iastN C dX10_search_128 (by assumption) (by omega) ?_
                        refine V.aload_n C 0 rfl rfl dX10_search_129 ?_
                        refine V.getR C fX10_41 dX10_search_130 (by assumption) rfl ?_
                        refine V.iconst C (nI 2) c_2 dX10_search_133 ?_
                        refine V.iload_n C 1 rfl rfl dX10_search_134 ?_
                        refine V.iconst C (nI 2) c_2 dX10_search_135 ?_
                        refine V.icmp_le C 149 dX10_search_136 rfl (fun hb_136 => ?_) (fun hb_136 => ?_)
                        · have y2_ : size ≤ 2 := (nI_leI (by omega) (by omega)).mp hb_136
                          refine V.bipush C ((-9)) b_m9 dX10_search_149 ?_
                          refine V.iastN C dX10_search_151 (by assumption) (by omega) ?_
                          show V G X 8 0 0 152 _ [] (wld G (st3 (st3 (st3 σ3 0 (-9)) 1 (-9)) 2 (-9)))
                          have hO3_ := RO_put (a := a) (b := b) (c := c) (-9) (-9) (-9) hz3 h3 (fun q => absurd q (by omega)) (fun q => absurd q (by omega)) (fun q => absurd q (by omega))
                          have hF3_ : FM [23] [134] σ (st3 (st3 (st3 σ3 0 (-9)) 1 (-9)) 2 (-9)) := ((hF3.sA _ (by decide)).sA _ (by decide)).sA _ (by decide)
                          have hP3_ : FP ((st3 (st3 (st3 σ3 0 (-9)) 1 (-9)) 2 (-9)).2.1 124) P := by rw [hF3_.a (by decide)]; exact hP
                          have hU3_ := hU.fm hF3_ (by decide) (by decide) (by decide)
                          refine V.aload_n C 0 rfl rfl dX10_search_152 ?_
                          refine V.cVi C lX10_248 oX10_isModel dX10_search_153 (ct_M_isModel G _ P u (oT size a b c) hP3_ hwf hU3_ hu hO3_) (by assumption) rfl rfl (Nat.le_of_ble_eq_true rfl) ⟨Nat.le_of_ble_eq_true rfl, Nat.le_of_ble_eq_true rfl⟩ ⟨Nat.le_of_ble_eq_true rfl, Nat.le_of_ble_eq_true rfl⟩ (fun rr_153 σ153 pp_153 => ?_)
                          obtain ⟨ee_153, ff_153⟩ := pp_153
                          rw [ee_153, ff_153]
                          refine V.if_eq C 161 dX10_search_156 rfl (fun hb_156 => ?_) (fun hb_156 => ?_)
                          · have zm_ := bI_eq0 hb_156
                            refine V.iinc C (nI (i + 1 + t + 1 + (s + 1))) dX10_search_161 rfl (nI_1 (i + 1 + t + 1 + s)) (by decide) ?_
                            refine V.goto C 78 dX10_search_164 rfl ?_
                            refine V.lvs (lv' := [(0, Rf G 123), (1, .int (nI size)), (2, .int (nI A.length)), (3, .int (nI i)), (4, .int (nI n2)), (5, .int (nI (i + 1 + t))), (6, .int (nI n3)), (7, .int (nI (i + 1 + t + 1 + (s + 1))))]) rfl ?_
                            exact ih (s + 1) _ (by omega) (by omega) (by rw [he3, hc2]; show (if mW u (oT size a b c) P.2.2 = true then _ else _) = _; rw [if_neg (by rw [zm_]; decide)]) hF3_ hz3
                          · have zm_ := bI_ne0 hb_156
                            refine V.iconst C (nI 1) c_1 dX10_search_159 ?_
                            exact V.zretS C R dX10_search_160 (by first | exact Or.inl rfl | exact Or.inr rfl | exact bI01 _) (by
                              have e3_ : sr3 (fun os => mW u os P.2.2) size a b Cc = some (oT size a b c) := by rw [he3, hc2]; show (if mW u (oT size a b c) P.2.2 = true then _ else _) = _; rw [if_pos zm_]
                              have e2_ : sr2 (fun os => mW u os P.2.2) size a B = some (oT size a b c) := by rw [he2, hb2]; show (match sr3 (fun os => mW u os P.2.2) size a b (nxL size 2 (B.drop (t + 1))) with | some r => some r | none => _) = _; rw [← hC, e3_]
                              have e1_ : sr0 (fun os => mW u os P.2.2) size us = some (oT size a b c) := by rw [he1, ha2]; show (match sr2 (fun os => mW u os P.2.2) size a (nxL size 1 (A.drop (i + 1))) with | some r => some r | none => _) = _; rw [← hB, e2_]
                              rw [e1_]
                              exact ⟨rfl, (fun os h => by cases h; exact hO3_), hF3_⟩)
                        · exact absurd (Nat.lt_of_not_le (fun q => hb_136 (nI_le q (by omega))) : 2 < size) (by omega)
                      · exact absurd (Nat.lt_of_not_le (fun q => hb_113 (nI_le q (by omega))) : 1 < size) (by omega)
                    · have y0_ : 0 < size := Nat.lt_of_not_le (fun q => hb_91 (nI_le (a := size) (b := 0) q (by decide)))
                      refine V.aload_n C 0 rfl rfl dX10_search_94 ?_
                      refine V.getR C fX10_44 dX10_search_95 (by assumption) rfl ?_
                      refine V.iload_n C 3 rfl rfl dX10_search_98 ?_
                      refine V.ialdN C dX10_search_99 (by assumption) (by have := (List.getElem?_eq_some_iff.mp (gA_ (by omega))).1; have := hUs.2.1; omega) ?_
                      rw [show (σ3.2.1 135) i = nI a from (by rw [hF3.a (by decide)]; exact (hUs.2.2 _ _ (gA_ (by omega))).1)]
                      refine V.goto C 105 dX10_search_100 rfl ?_
                      refine V.iastN C dX10_search_105 (by assumption) (by omega) ?_
                      refine V.aload_n C 0 rfl rfl dX10_search_106 ?_
                      refine V.getR C fX10_41 dX10_search_107 (by assumption) rfl ?_
                      refine V.iconst C (nI 1) c_1 dX10_search_110 ?_
                      refine V.iload_n C 1 rfl rfl dX10_search_111 ?_
                      refine V.iconst C (nI 1) c_1 dX10_search_112 ?_
                      refine V.icmp_le C 126 dX10_search_113 rfl (fun hb_113 => ?_) (fun hb_113 => ?_)
                      · have y1_ : size ≤ 1 := (nI_leI (by omega) (by omega)).mp hb_113
                        refine V.bipush C ((-9)) b_m9 dX10_search_126 ?_
                        refine V.iastN C dX10_search_128 (by assumption) (by omega) ?_
                        refine V.aload_n C 0 rfl rfl dX10_search_129 ?_
                        refine V.getR C fX10_41 dX10_search_130 (by assumption) rfl ?_
                        refine V.iconst C (nI 2) c_2 dX10_search_133 ?_
                        refine V.iload_n C 1 rfl rfl dX10_search_134 ?_
                        refine V.iconst C (nI 2) c_2 dX10_search_135 ?_
                        refine V.icmp_le C 149 dX10_search_136 rfl (fun hb_136 => ?_) (fun hb_136 => ?_)
                        · have y2_ : size ≤ 2 := (nI_leI (by omega) (by omega)).mp hb_136
                          refine V.bipush C ((-9)) b_m9 dX10_search_149 ?_
                          refine V.iastN C dX10_search_151 (by assumption) (by omega) ?_
                          show V G X 8 0 0 152 _ [] (wld G (st3 (st3 (st3 σ3 0 (nI a)) 1 (-9)) 2 (-9)))
                          have hO3_ := RO_put (a := a) (b := b) (c := c) (nI a) (-9) (-9) hz3 h3 (fun q => ⟨rfl, (hUs.2.2 _ _ (gA_ q)).2⟩) (fun q => absurd q (by omega)) (fun q => absurd q (by omega))
                          have hF3_ : FM [23] [134] σ (st3 (st3 (st3 σ3 0 (nI a)) 1 (-9)) 2 (-9)) := ((hF3.sA _ (by decide)).sA _ (by decide)).sA _ (by decide)
                          have hP3_ : FP ((st3 (st3 (st3 σ3 0 (nI a)) 1 (-9)) 2 (-9)).2.1 124) P := by rw [hF3_.a (by decide)]; exact hP
                          have hU3_ := hU.fm hF3_ (by decide) (by decide) (by decide)
                          refine V.aload_n C 0 rfl rfl dX10_search_152 ?_
                          refine V.cVi C lX10_248 oX10_isModel dX10_search_153 (ct_M_isModel G _ P u (oT size a b c) hP3_ hwf hU3_ hu hO3_) (by assumption) rfl rfl (Nat.le_of_ble_eq_true rfl) ⟨Nat.le_of_ble_eq_true rfl, Nat.le_of_ble_eq_true rfl⟩ ⟨Nat.le_of_ble_eq_true rfl, Nat.le_of_ble_eq_true rfl⟩ (fun rr_153 σ153 pp_153 => ?_)
                          obtain ⟨ee_153, ff_153⟩ := pp_153
                          rw [ee_153, ff_153]
                          refine V.if_eq C 161 dX10_search_156 rfl (fun hb_156 => ?_) (fun hb_156 => ?_)
                          · have zm_ := bI_eq0 hb_156
                            refine V.iinc C (nI (i + 1 + t + 1 + (s + 1))) dX10_search_161 rfl (nI_1 (i + 1 + t + 1 + s)) (by decide) ?_
                            refine V.goto C 78 dX10_search_164 rfl ?_
                            refine V.lvs (lv' := [(0, Rf G 123), (1, .int (nI size)), (2, .int (nI A.length)), (3, .int (nI i)), (4, .int (nI n2)), (5, .int (nI (i + 1 + t))), (6, .int (nI n3)), (7, .int (nI (i + 1 + t + 1 + (s + 1))))]) rfl ?_
                            exact ih (s + 1) _ (by omega) (by omega) (by rw [he3, hc2]; show (if mW u (oT size a b c) P.2.2 = true then _ else _) = _; rw [if_neg (by rw [zm_]; decide)]) hF3_ hz3
                          · have zm_ := bI_ne0 hb_156
                            refine V.iconst C (nI 1) c_1 dX10_search_159 ?_
                            exact V.zretS C R dX10_search_160 (by first | exact Or.inl rfl | exact Or.inr rfl | exact bI01 _) (by
                              have e3_ : sr3 (fun os => mW u os P.2.2) size a b Cc = some (oT size a b c) := by rw [he3, hc2]; show (if mW u (oT size a b c) P.2.2 = true then _ else _) = _; rw [if_pos zm_]
                              have e2_ : sr2 (fun os => mW u os P.2.2) size a B = some (oT size a b c) := by rw [he2, hb2]; show (match sr3 (fun os => mW u os P.2.2) size a b (nxL size 2 (B.drop (t + 1))) with | some r => some r | none => _) = _; rw [← hC, e3_]
                              have e1_ : sr0 (fun os => mW u os P.2.2) size us = some (oT size a b c) := by rw [he1, ha2]; show (match sr2 (fun os => mW u os P.2.2) size a (nxL size 1 (A.drop (i + 1))) with | some r => some r | none => _) = _; rw [← hB, e2_]
                              rw [e1_]
                              exact ⟨rfl, (fun os h => by cases h; exact hO3_), hF3_⟩)
                        · exact absurd (Nat.lt_of_not_le (fun q => hb_136 (nI_le q (by omega))) : 2 < size) (by omega)
                      · have y1_ : 1 < size := Nat.lt_of_not_le (fun q => hb_113 (nI_le q (by omega)))
                        refine V.aload_n C 0 rfl rfl dX10_search_116 ?_
                        refine V.getR C fX10_44 dX10_search_117 (by assumption) rfl ?_
                        refine V.iload C rfl dX10_search_120 ?_
                        refine V.ialdN C dX10_search_122 (by assumption) (by have := (List.getElem?_eq_some_iff.mp (gB_ (by omega))).1; have := hUs.2.1; omega) ?_
                        rw [show (sA σ3 134 (va_up (σ3.2.1 134) 0 (nI a))).2.1 135 (i + 1 + t) = nI b from (by rw [sA_ne _ _ (by decide), hF3.a (by decide)]; exact (hUs.2.2 _ _ (gB_ (by omega))).1)]
                        refine V.goto C 128 dX10_search_123 rfl ?_
                        refine V.iastN C dX10_search_128 (by assumption) (by omega) ?_
                        refine V.aload_n C 0 rfl rfl dX10_search_129 ?_
                        refine V.getR C fX10_41 dX10_search_130 (by assumption) rfl ?_
                        refine V.iconst C (nI 2) c_2 dX10_search_133 ?_
                        refine V.iload_n C 1 rfl rfl dX10_search_134 ?_
                        refine V.iconst C (nI 2) c_2 dX10_search_135 ?_
                        refine V.icmp_le C 149 dX10_search_136 rfl (fun hb_136 => ?_) (fun hb_136 => ?_)
                        · have y2_ : size ≤ 2 := (nI_leI (by omega) (by omega)).mp hb_136
                          refine V.bipush C ((-9)) b_m9 dX10_search_149 ?_
                          refine V.iastN C dX10_search_151 (by assumption) (by omega) ?_
                          show V G X 8 0 0 152 _ [] (wld G (st3 (st3 (st3 σ3 0 (nI a)) 1 (nI b)) 2 (-9)))
                          have hO3_ := RO_put (a := a) (b := b) (c := c) (nI a) (nI b) (-9) hz3 h3 (fun q => ⟨rfl, (hUs.2.2 _ _ (gA_ q)).2⟩) (fun q => ⟨rfl, (hUs.2.2 _ _ (gB_ q)).2⟩) (fun q => absurd q (by omega))
                          have hF3_ : FM [23] [134] σ (st3 (st3 (st3 σ3 0 (nI a)) 1 (nI b)) 2 (-9)) := ((hF3.sA _ (by decide)).sA _ (by decide)).sA _ (by decide)
                          have hP3_ : FP ((st3 (st3 (st3 σ3 0 (nI a)) 1 (nI b)) 2 (-9)).2.1 124) P := by rw [hF3_.a (by decide)]; exact hP
                          have hU3_ := hU.fm hF3_ (by decide) (by decide) (by decide)
                          refine V.aload_n C 0 rfl rfl dX10_search_152 ?_
                          refine V.cVi C lX10_248 oX10_isModel dX10_search_153 (ct_M_isModel G _ P u (oT size a b c) hP3_ hwf hU3_ hu hO3_) (by assumption) rfl rfl (Nat.le_of_ble_eq_true rfl) ⟨Nat.le_of_ble_eq_true rfl, Nat.le_of_ble_eq_true rfl⟩ ⟨Nat.le_of_ble_eq_true rfl, Nat.le_of_ble_eq_true rfl⟩ (fun rr_153 σ153 pp_153 => ?_)
                          obtain ⟨ee_153, ff_153⟩ := pp_153
                          rw [ee_153, ff_153]
                          refine V.if_eq C 161 dX10_search_156 rfl (fun hb_156 => ?_) (fun hb_156 => ?_)
                          · have zm_ := bI_eq0 hb_156
                            refine V.iinc C (nI (i + 1 + t + 1 + (s + 1))) dX10_search_161 rfl (nI_1 (i + 1 + t + 1 + s)) (by decide) ?_
                            refine V.goto C 78 dX10_search_164 rfl ?_
                            refine V.lvs (lv' := [(0, Rf G 123), (1, .int (nI size)), (2, .int (nI A.length)), (3, .int (nI i)), (4, .int (nI n2)), (5, .int (nI (i + 1 + t))), (6, .int (nI n3)), (7, .int (nI (i + 1 + t + 1 + (s + 1))))]) rfl ?_
                            exact ih (s + 1) _ (by omega) (by omega) (by rw [he3, hc2]; show (if mW u (oT size a b c) P.2.2 = true then _ else _) = _; rw [if_neg (by rw [zm_]; decide)]) hF3_ hz3
                          · have zm_ := bI_ne0 hb_156
                            refine V.iconst C (nI 1) c_1 dX10_search_159 ?_
                            exact V.zretS C R dX10_search_160 (by first | exact Or.inl rfl | exact Or.inr rfl | exact bI01 _) (by
                              have e3_ : sr3 (fun os => mW u os P.2.2) size a b Cc = some (oT size a b c) := by rw [he3, hc2]; show (if mW u (oT size a b c) P.2.2 = true then _ else _) = _; rw [if_pos zm_]
                              have e2_ : sr2 (fun os => mW u os P.2.2) size a B = some (oT size a b c) := by rw [he2, hb2]; show (match sr3 (fun os => mW u os P.2.2) size a b (nxL size 2 (B.drop (t + 1))) with | some r => some r | none => _) = _; rw [← hC, e3_]
                              have e1_ : sr0 (fun os => mW u os P.2.2) size us = some (oT size a b c) := by rw [he1, ha2]; show (match sr2 (fun os => mW u os P.2.2) size a (nxL size 1 (A.drop (i + 1))) with | some r => some r | none => _) = _; rw [← hB, e2_]
                              rw [e1_]
                              exact ⟨rfl, (fun os h => by cases h; exact hO3_), hF3_⟩)
                        · have y2_ : 2 < size := Nat.lt_of_not_le (fun q => hb_136 (nI_le q (by omega)))
                          refine V.aload_n C 0 rfl rfl dX10_search_139 ?_
                          refine V.getR C fX10_44 dX10_search_140 (by assumption) rfl ?_
                          refine V.iload C rfl dX10_search_143 ?_
                          refine V.ialdN C dX10_search_145 (by assumption) (by have := (List.getElem?_eq_some_iff.mp (gC_ (by omega))).1; have := hUs.2.1; omega) ?_
                          rw [show (sA (sA σ3 134 (va_up (σ3.2.1 134) 0 (nI a))) 134 (va_up ((sA σ3 134 (va_up (σ3.2.1 134) 0 (nI a))).2.1 134) 1 (nI b))).2.1 135 (i + 1 + t + 1 + s) = nI c from (by rw [sA_ne _ _ (by decide), sA_ne _ _ (by decide), hF3.a (by decide)]; exact (hUs.2.2 _ _ (gC_ (by omega))).1)]
                          refine V.goto C 151 dX10_search_146 rfl ?_
                          refine V.iastN C dX10_search_151 (by assumption) (by omega) ?_
                          show V G X 8 0 0 152 _ [] (wld G (st3 (st3 (st3 σ3 0 (nI a)) 1 (nI b)) 2 (nI c)))
                          have hO3_ := RO_put (a := a) (b := b) (c := c) (nI a) (nI b) (nI c) hz3 h3 (fun q => ⟨rfl, (hUs.2.2 _ _ (gA_ q)).2⟩) (fun q => ⟨rfl, (hUs.2.2 _ _ (gB_ q)).2⟩) (fun q => ⟨rfl, (hUs.2.2 _ _ (gC_ q)).2⟩)
                          have hF3_ : FM [23] [134] σ (st3 (st3 (st3 σ3 0 (nI a)) 1 (nI b)) 2 (nI c)) := ((hF3.sA _ (by decide)).sA _ (by decide)).sA _ (by decide)
                          have hP3_ : FP ((st3 (st3 (st3 σ3 0 (nI a)) 1 (nI b)) 2 (nI c)).2.1 124) P := by rw [hF3_.a (by decide)]; exact hP
                          have hU3_ := hU.fm hF3_ (by decide) (by decide) (by decide)
                          refine V.aload_n C 0 rfl rfl dX10_search_152 ?_
                          refine V.cVi C lX10_248 oX10_isModel dX10_search_153 (ct_M_isModel G _ P u (oT size a b c) hP3_ hwf hU3_ hu hO3_) (by assumption) rfl rfl (Nat.le_of_ble_eq_true rfl) ⟨Nat.le_of_ble_eq_true rfl, Nat.le_of_ble_eq_true rfl⟩ ⟨Nat.le_of_ble_eq_true rfl, Nat.le_of_ble_eq_true rfl⟩ (fun rr_153 σ153 pp_153 => ?_)
                          obtain ⟨ee_153, ff_153⟩ := pp_153
                          rw [ee_153, ff_153]
                          refine V.if_eq C 161 dX10_search_156 rfl (fun hb_156 => ?_) (fun hb_156 => ?_)
                          · have zm_ := bI_eq0 hb_156
                            refine V.iinc C (nI (i + 1 + t + 1 + (s + 1))) dX10_search_161 rfl (nI_1 (i + 1 + t + 1 + s)) (by decide) ?_
                            refine V.goto C 78 dX10_search_164 rfl ?_
                            refine V.lvs (lv' := [(0, Rf G 123), (1, .int (nI size)), (2, .int (nI A.length)), (3, .int (nI i)), (4, .int (nI n2)), (5, .int (nI (i + 1 + t))), (6, .int (nI n3)), (7, .int (nI (i + 1 + t + 1 + (s + 1))))]) rfl ?_
                            exact ih (s + 1) _ (by omega) (by omega) (by rw [he3, hc2]; show (if mW u (oT size a b c) P.2.2 = true then _ else _) = _; rw [if_neg (by rw [zm_]; decide)]) hF3_ hz3
                          · have zm_ := bI_ne0 hb_156
                            refine V.iconst C (nI 1) c_1 dX10_search_159 ?_
                            exact V.zretS C R dX10_search_160 (by first | exact Or.inl rfl | exact Or.inr rfl | exact bI01 _) (by
                              have e3_ : sr3 (fun os => mW u os P.2.2) size a b Cc = some (oT size a b c) := by rw [he3, hc2]; show (if mW u (oT size a b c) P.2.2 = true then _ else _) = _; rw [if_pos zm_]
                              have e2_ : sr2 (fun os => mW u os P.2.2) size a B = some (oT size a b c) := by rw [he2, hb2]; show (match sr3 (fun os => mW u os P.2.2) size a b (nxL size 2 (B.drop (t + 1))) with | some r => some r | none => _) = _; rw [← hC, e3_]
                              have e1_ : sr0 (fun os => mW u os P.2.2) size us = some (oT size a b c) := by rw [he1, ha2]; show (match sr2 (fun os => mW u os P.2.2) size a (nxL size 1 (A.drop (i + 1))) with | some r => some r | none => _) = _; rw [← hB, e2_]
                              rw [e1_]
                              exact ⟨rfl, (fun os h => by cases h; exact hO3_), hF3_⟩)
              refine V.iload_n C 1 rfl rfl dX10_search_54 ?_
              refine V.iconst C (nI 2) c_2 dX10_search_55 ?_
              refine V.icmp_le C 66 dX10_search_56 rfl (fun hb_56 => ?_) (fun hb_56 => ?_)
              · have y2_ : size ≤ 2 := (nI_leI (by omega) (by omega)).mp hb_56
                refine V.iload C rfl dX10_search_66 ?_
                refine V.iconst C (nI 2) c_2 dX10_search_68 ?_
                refine V.iadd C dX10_search_69 ?_
                rw [nI_add]
                refine V.istore C dX10_search_70 (by decide) ?_
                refine V.iload C rfl dX10_search_72 ?_
                refine V.iconst C (nI 1) c_1 dX10_search_74 ?_
                refine V.iadd C dX10_search_75 ?_
                rw [nI_add]
                refine V.istore C dX10_search_76 (by decide) ?_
                refine V.lvs (lv' := [(0, Rf G 123), (1, .int (nI size)), (2, .int (nI A.length)), (3, .int (nI i)), (4, .int (nI n2)), (5, .int (nI (i + 1 + t))), (6, .int (nI (i + 1 + t + 2))), (7, .int (nI (i + 1 + t + 1 + 0)))]) rfl ?_
                exact loopK [0] (i + 1 + t + 2) (by unfold nxL; rw [if_neg (by omega)]) rfl (by omega) 2 0 σ2 (by decide) (by omega) rfl hF2 hz2
              · have y2_ : 2 < size := Nat.lt_of_not_le (fun q => hb_56 (nI_le q (by omega)))
                have lB_ : B.length + (i + 1) = us.length := by rw [hB]; unfold nxL; rw [if_pos (by omega), List.length_drop, hA]; unfold nxL; rw [if_pos (by omega)]; have := (List.getElem?_eq_some_iff.mp (gA_ (by omega))).1; omega
                refine V.aload_n C 0 rfl rfl dX10_search_59 ?_
                refine V.getI C fX10_242 dX10_search_60 (by assumption) rfl ?_
                rw [hF2.f (by decide), hUs.1]
                refine V.goto C 70 dX10_search_63 rfl ?_
                refine V.istore C dX10_search_70 (by decide) ?_
                refine V.iload C rfl dX10_search_72 ?_
                refine V.iconst C (nI 1) c_1 dX10_search_74 ?_
                refine V.iadd C dX10_search_75 ?_
                rw [nI_add]
                refine V.istore C dX10_search_76 (by decide) ?_
                refine V.lvs (lv' := [(0, Rf G 123), (1, .int (nI size)), (2, .int (nI A.length)), (3, .int (nI i)), (4, .int (nI n2)), (5, .int (nI (i + 1 + t))), (6, .int (nI us.length)), (7, .int (nI (i + 1 + t + 1 + 0)))]) rfl ?_
                exact loopK (B.drop (t + 1)) us.length (by unfold nxL; rw [if_pos y2_]) (by rw [List.length_drop]; omega) (by omega) (B.length + 1) 0 σ2 (by rw [List.length_drop]; omega) (by omega) rfl hF2 hz2
        refine V.iload_n C 1 rfl rfl dX10_search_25 ?_
        refine V.iconst C (nI 1) c_1 dX10_search_26 ?_
        refine V.icmp_le C 37 dX10_search_27 rfl (fun hb_27 => ?_) (fun hb_27 => ?_)
        · have y1_ : size ≤ 1 := (nI_leI (by omega) (by omega)).mp hb_27
          refine V.iload_n C 3 rfl rfl dX10_search_37 ?_
          refine V.iconst C (nI 2) c_2 dX10_search_38 ?_
          refine V.iadd C dX10_search_39 ?_
          rw [nI_add]
          refine V.istore C dX10_search_40 (by decide) ?_
          refine V.iload_n C 3 rfl rfl dX10_search_42 ?_
          refine V.iconst C (nI 1) c_1 dX10_search_43 ?_
          refine V.iadd C dX10_search_44 ?_
          rw [nI_add]
          refine V.istore C dX10_search_45 (by decide) ?_
          refine V.lvs (lv' := [(0, Rf G 123), (1, .int (nI size)), (2, .int (nI A.length)), (3, .int (nI i)), (4, .int (nI (i + 2))), (5, .int (nI (i + 1 + 0)))]) rfl ?_
          exact loopJ [0] (i + 2) (by unfold nxL; rw [if_neg (by omega)]) rfl (by omega) 2 0 σ1 (by decide) (by omega) rfl hF1 hz1
        · have y1_ : 1 < size := Nat.lt_of_not_le (fun q => hb_27 (nI_le q (by omega)))
          have lA_ : A.length = us.length := by rw [hA]; unfold nxL; rw [if_pos (by omega)]
          refine V.aload_n C 0 rfl rfl dX10_search_30 ?_
          refine V.getI C fX10_242 dX10_search_31 (by assumption) rfl ?_
          rw [hF1.f (by decide), hUs.1]
          refine V.goto C 40 dX10_search_34 rfl ?_
          refine V.istore C dX10_search_40 (by decide) ?_
          refine V.iload_n C 3 rfl rfl dX10_search_42 ?_
          refine V.iconst C (nI 1) c_1 dX10_search_43 ?_
          refine V.iadd C dX10_search_44 ?_
          rw [nI_add]
          refine V.istore C dX10_search_45 (by decide) ?_
          refine V.lvs (lv' := [(0, Rf G 123), (1, .int (nI size)), (2, .int (nI A.length)), (3, .int (nI i)), (4, .int (nI us.length)), (5, .int (nI (i + 1 + 0)))]) rfl ?_
          exact loopJ (A.drop (i + 1)) us.length (by unfold nxL; rw [if_pos y1_]) (by rw [List.length_drop]; omega) (by omega) (A.length + 1) 0 σ1 (by rw [List.length_drop]; omega) (by omega) rfl hF1 hz1
  refine V.aload_n C 0 rfl rfl dX10_search_0 ?_
  refine V.iload_n C 1 rfl rfl dX10_search_1 ?_
  refine V.putI C fX10_233 dX10_search_2 (by assumption) rfl ?_
  refine V.iload_n C 1 rfl rfl dX10_search_5 ?_
  refine V.if_le C 16 dX10_search_6 rfl (fun hb_6 => ?_) (fun hb_6 => ?_)
  · have y0_ : size = 0 := by have := (nI_leI (a := size) (b := 0) (by omega) (by omega)).mp hb_6; omega
    refine V.iconst C (nI 1) c_1 dX10_search_16 ?_
    refine V.istore_n C 2 dX10_search_17 rfl (by decide) ?_
    refine V.iconst C (nI 0) c_0 dX10_search_18 ?_
    refine V.istore_n C 3 dX10_search_19 rfl (by decide) ?_
    refine V.lvs (lv' := [(0, Rf G 123), (1, .int (nI size)), (2, .int (nI [0].length)), (3, .int (nI 0))]) rfl ?_
    exact loopI [0] (by unfold nxL; rw [if_neg (by omega)]) (by decide) 2 0 _ (by decide) (by decide) (by unfold sr0 nxL; rw [if_neg (by omega)]; rfl) ((FM.refl _ _ _).sF _ (by decide)) (sF_F _ _ _ _)
  · have y0_ : 0 < size := Nat.lt_of_not_le (fun q => hb_6 (nI_le (a := size) (b := 0) q (by decide)))
    refine V.aload_n C 0 rfl rfl dX10_search_9 ?_
    refine V.getI C fX10_242 dX10_search_10 (by assumption) rfl ?_
    rw [show (sF σ 123 23 (nI size)).1 123 25 = nI us.length from (sF_ne _ _ (by decide)).trans hUs.1]
    refine V.goto C 17 dX10_search_13 rfl ?_
    refine V.istore_n C 2 dX10_search_17 rfl (by decide) ?_
    refine V.iconst C (nI 0) c_0 dX10_search_18 ?_
    refine V.istore_n C 3 dX10_search_19 rfl (by decide) ?_
    refine V.lvs (lv' := [(0, Rf G 123), (1, .int (nI size)), (2, .int (nI us.length)), (3, .int (nI 0))]) rfl ?_
    exact loopI us (by unfold nxL; rw [if_pos y0_]) hUs.2.1 (us.length + 1) 0 _ (by omega) (by omega) (by unfold sr0 nxL; rw [if_pos y0_]; rfl) ((FM.refl _ _ _).sF _ (by decide)) (sF_F _ _ _ _)
