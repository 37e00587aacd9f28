/-! The model's lexer: in, characterAt, wordOf, isSignCharacter, advance, isFine, take, isSign, number, isName. -/
/-- what the model's methods leave alone: the fields fs of the model and the arrays as may change -/
def FM (fs as : List Nat) (σ σ1 : SS) : Prop := (∀ k, k ≠ 123 → σ1.1 k = σ.1 k) ∧ (∀ j, j ∉ fs → σ1.1 123 j = σ.1 123 j) ∧ (∀ k, k ∉ as → σ1.2.1 k = σ.2.1 k) ∧ σ1.2.2 = σ.2.2
section
variable {fs as fs' as' : List Nat} {σ σ1 σ2 : SS}
theorem FM.refl (fs as : List Nat) (σ : SS) : FM fs as σ σ := ⟨fun _ _ => rfl, fun _ _ => rfl, fun _ _ => rfl, rfl⟩
theorem FM.trans (h1 : FM fs as σ σ1) (h2 : FM fs as σ1 σ2) : FM fs as σ σ2 := ⟨fun k hk => (h2.1 k hk).trans (h1.1 k hk), fun k hk => (h2.2.1 k hk).trans (h1.2.1 k hk), fun k hk => (h2.2.2.1 k hk).trans (h1.2.2.1 k hk), h2.2.2.2.trans h1.2.2.2⟩
theorem FM.mono (h : FM fs as σ σ1) (h1 : ∀ x ∈ fs, x ∈ fs') (h2 : ∀ x ∈ as, x ∈ as') : FM fs' as' σ σ1 := ⟨h.1, fun j hj => h.2.1 j (fun q => hj (h1 j q)), fun j hj => h.2.2.1 j (fun q => hj (h2 j q)), h.2.2.2⟩
theorem FM.sF (h : FM fs as σ σ1) {j : Nat} (v : Int32) (hj : j ∈ fs) : FM fs as σ (sF σ1 123 j v) :=
  ⟨fun k hk => by rw [sF_row _ _ _ hk]; exact h.1 k hk, fun i hi => by rw [sF_ne _ _ (by rintro ⟨_, rfl⟩; exact hi hj)]; exact h.2.1 i hi, h.2.2.1, h.2.2.2⟩
theorem FM.sA (h : FM fs as σ σ1) {k : Nat} (f : Nat → Int32) (hk : k ∈ as) : FM fs as σ (sA σ1 k f) :=
  ⟨h.1, h.2.1, fun i hi => by rw [sA_ne _ _ (show i ≠ k from fun e => hi (by rw [e]; exact hk))]; exact h.2.2.1 i hi, h.2.2.2⟩
theorem FM.f (h : FM fs as σ σ1) {j : Nat} (hj : j ∉ fs) : σ1.1 123 j = σ.1 123 j := h.2.1 j hj
theorem FM.a (h : FM fs as σ σ1) {j : Nat} (hj : j ∉ as) : σ1.2.1 j = σ.2.1 j := h.2.2.1 j hj
end
/-- the model's text -/
def MT (σ : SS) (n : Nat) (ch : Nat → Nat) : Prop := σ.1 123 8 = nI n ∧ n ≤ 200 ∧ ∀ i, i < n → σ.2.1 129 i = nI (ch i) ∧ ch i < 256
theorem MT.fm {fs as : List Nat} {σ σ1 : SS} {n : Nat} {ch : Nat → Nat} (h : MT σ n ch) (hF : FM fs as σ σ1) (h1 : 8 ∉ fs) (h2 : 129 ∉ as) : MT σ1 n ch := by
  unfold MT; rw [hF.f h1, hF.a h2]; exact h
def cA (ch : Nat → Nat) (n k : Nat) : Int32 := if k < n then nI (ch k) else -1
def isSg (c : Nat) : Bool := decide (c = 59 ∨ c = 61 ∨ c = 46 ∨ c = 91 ∨ c = 58 ∨ c = 93 ∨ c = 37)
def tokM (ch : Nat → Nat) (n a : Nat) : Int32 := if kKT ch n a = 261 then 0 else if kKT ch n a = 258 ∨ kKT ch n a = 259 ∨ kKT ch n a = 260 then 1 else if kKT ch n a = 257 then 2 else if kKT ch n a = 256 then 4 else if isSg (ch a) then 3 else 4
def valM (ch : Nat → Nat) (n a : Nat) : Int32 := if kKT ch n a = 261 then -1 else if kKT ch n a = 258 then nI (ch a - 97) else if kKT ch n a = 259 then 8 else if kKT ch n a = 260 then 9 else if kKT ch n a = 256 then -9 else if kKT ch n a = 257 then oN (numT ch n a) else nI (ch a)
def endM (ch : Nat → Nat) (n a : Nat) : Nat := if a < n then tEnd ch n a else a
/-- the token that is next in the model -/
def MK (σ : SS) (n : Nat) (ch : Nat → Nat) (a : Nat) : Prop := a ≤ n ∧ σ.1 123 9 = nI (endM ch n a) ∧ σ.1 123 10 = nI a ∧ σ.1 123 11 = tokM ch n a ∧ σ.1 123 12 = valM ch n a
theorem runE_stop {f : Nat → Bool} {n q : Nat} (h : ¬ (q < n ∧ f q = true)) : runE f n q = q := runE_eq (Nat.le_refl _) (fun _ a b => absurd b (by omega)) h
theorem runE_step {f : Nat → Bool} {n q : Nat} (h : q < n) (hf : f q = true) : runE f n q = runE f n (q + 1) := by
  obtain ⟨h1, h2, h3⟩ := runE_spec f n (q + 1)
  refine runE_eq (by omega) (fun r r1 r2 => ?_) h3
  rcases Nat.lt_or_ge q r with z | z
  · exact h2 r z r2
  · have : r = q := by omega
    rw [this]; exact ⟨h, hf⟩
theorem kw1 (ch : Nat → Nat) (a : Nat) : kwT ch a 1 = if ch a < 105 then 258 else 256 := by
  unfold kwT
  by_cases h : ch a < 105
  · rw [if_pos ⟨rfl, h⟩, if_pos h]
  · rw [if_neg (fun q => h q.2), if_neg h]
    have e0 : wEq ch a 1 0 = false := by unfold wEq; exact decide_eq_false (fun q => absurd q.1 (by decide))
    have e1 : wEq ch a 1 1 = false := by unfold wEq; exact decide_eq_false (fun q => absurd q.1 (by decide))
    rw [e0, e1]; rfl
theorem kw3 (ch : Nat → Nat) (a : Nat) : kwT ch a 3 = if ch a = 110 ∧ ch (a + 1) = 111 ∧ ch (a + 2) = 116 then 260 else 256 := by
  unfold kwT
  have e0 : wEq ch a 3 0 = false := by unfold wEq; exact decide_eq_false (fun q => absurd q.1 (by decide))
  rw [if_neg (fun q => absurd q.1 (by decide)), e0]
  by_cases h : ch a = 110 ∧ ch (a + 1) = 111 ∧ ch (a + 2) = 116
  · have e1 : wEq ch a 3 1 = true := by
      unfold wEq
      refine decide_eq_true ⟨by decide, fun j hj => ?_⟩
      rcases (show j = 0 ∨ j = 1 ∨ j = 2 by omega) with rfl | rfl | rfl
      · exact h.1
      · exact h.2.1
      · exact h.2.2
    rw [e1, if_pos h]; rfl
  · have e1 : wEq ch a 3 1 = false := by
      unfold wEq
      exact decide_eq_false (fun q => h ⟨q.2 0 (by decide), q.2 1 (by decide), q.2 2 (by decide)⟩)
    rw [e1, if_neg h]; rfl
theorem kw4 (ch : Nat → Nat) (a : Nat) : kwT ch a 4 = if ch a = 98 ∧ ch (a + 1) = 105 ∧ ch (a + 2) = 116 ∧ ch (a + 3) = 115 then 259 else 256 := by
  unfold kwT
  have e0 : wEq ch a 4 1 = false := by unfold wEq; exact decide_eq_false (fun q => absurd q.1 (by decide))
  rw [if_neg (fun q => absurd q.1 (by decide)), e0]
  by_cases h : ch a = 98 ∧ ch (a + 1) = 105 ∧ ch (a + 2) = 116 ∧ ch (a + 3) = 115
  · have e1 : wEq ch a 4 0 = true := by
      unfold wEq
      refine decide_eq_true ⟨by decide, fun j hj => ?_⟩
      rcases (show j = 0 ∨ j = 1 ∨ j = 2 ∨ j = 3 by omega) with rfl | rfl | rfl | rfl
      · exact h.1
      · exact h.2.1
      · exact h.2.2.1
      · exact h.2.2.2
    rw [e1, if_pos h]; rfl
  · have e1 : wEq ch a 4 0 = false := by
      unfold wEq
      exact decide_eq_false (fun q => h ⟨q.2 0 (by decide), q.2 1 (by decide), q.2 2 (by decide), q.2 3 (by decide)⟩)
    rw [e1, if_neg h]; rfl
theorem kwO {ch : Nat → Nat} {a s : Nat} (h1 : ¬ s = 1) (h3 : ¬ s = 3) (h4 : ¬ s = 4) : kwT ch a s = 256 := by
  unfold kwT
  have e0 : wEq ch a s 0 = false := by unfold wEq; exact decide_eq_false (fun q => h4 (q.1.trans (by decide)))
  have e1 : wEq ch a s 1 = false := by unfold wEq; exact decide_eq_false (fun q => h3 (q.1.trans (by decide)))
  rw [if_neg (fun q => h1 q.1), e0, e1]; rfl
def valW (ch : Nat → Nat) (a s : Nat) : Int32 := if kwT ch a s = 258 then nI (ch a - 97) else if kwT ch a s = 259 then 8 else if kwT ch a s = 260 then 9 else -9
theorem valW_k {ch : Nat → Nat} {a s t : Nat} (h : kwT ch a s = t) : valW ch a s = (if t = 258 then nI (ch a - 97) else if t = 259 then 8 else if t = 260 then 9 else -9) := by unfold valW; rw [h]
set_option maxRecDepth 100000 in
set_option maxHeartbeats 4000000 in
theorem ct_M_in (G : Gl) (σ : SS) (x lo hi : Int32) : CI G mX10_in [.int x, .int lo, .int hi] σ (fun r σ1 => r = bI (decide (lo ≤ x ∧ x ≤ hi)) ∧ σ1 = σ) := by
  refine Ctr.of oX10_in (Nat.le_of_ble_eq_true rfl) ?_
  intro X C R hnm hz0
  have C : Cx G X cX10_in 3 RX10 0 0 0 0 := C
  have R : Cr G X (some .boolean) 0 0 _ := R
  show V G X 3 0 0 0 [(0, .int x), (1, .int lo), (2, .int hi)] [] (wld G σ)
  refine V.iload_n C 0 rfl rfl dX10_in_0 ?_
  refine V.iload_n C 1 rfl rfl dX10_in_1 ?_
  refine V.icmp_lt C 14 dX10_in_2 rfl (fun hb_2 => ?_) (fun hb_2 => ?_)
  · have z_ : decide (lo ≤ x ∧ x ≤ hi) = false := decide_eq_false (fun q => absurd hb_2 (Int32.not_lt.mpr q.1))
    refine V.iconst C (nI 0) c_0 dX10_in_14 ?_
    exact V.zretS C R dX10_in_15 (by first | exact Or.inl rfl | exact Or.inr rfl | exact bI01 _) ⟨by rw [z_]; rfl, rfl⟩
  · refine V.iload_n C 0 rfl rfl dX10_in_5 ?_
    refine V.iload_n C 2 rfl rfl dX10_in_6 ?_
    refine V.icmp_gt C 14 dX10_in_7 rfl (fun hb_7 => ?_) (fun hb_7 => ?_)
    · have z_ : decide (lo ≤ x ∧ x ≤ hi) = false := decide_eq_false (fun q => absurd hb_7 (Int32.not_lt.mpr q.2))
      refine V.iconst C (nI 0) c_0 dX10_in_14 ?_
      exact V.zretS C R dX10_in_15 (by first | exact Or.inl rfl | exact Or.inr rfl | exact bI01 _) ⟨by rw [z_]; rfl, rfl⟩
    · have z_ : decide (lo ≤ x ∧ x ≤ hi) = true := decide_eq_true ⟨Int32.not_lt.mp hb_2, Int32.not_lt.mp hb_7⟩
      refine V.iconst C (nI 1) c_1 dX10_in_10 ?_
      refine V.goto C 15 dX10_in_11 rfl ?_
      exact V.zretS C R dX10_in_15 (by first | exact Or.inl rfl | exact Or.inr rfl | exact bI01 _) ⟨by rw [z_]; rfl, rfl⟩
set_option maxRecDepth 100000 in
set_option maxHeartbeats 4000000 in
theorem ct_M_char (G : Gl) (σ : SS) (n : Nat) (ch : Nat → Nat) (k : Nat) (hT : MT σ n ch) (hk : k < 2 ^ 30) : CI G mX10_characterAt [Rf G 123, .int (nI k)] σ (fun r σ1 => r = cA ch n k ∧ σ1 = σ) := by
  refine Ctr.of oX10_characterAt (Nat.le_of_ble_eq_true rfl) ?_
  intro X C R hnm hz0
  have C : Cx G X cX10_characterAt 2 RX10 0 0 0 0 := C
  have R : Cr G X (some .int) 0 0 _ := R
  show V G X 2 0 0 0 [(0, Rf G 123), (1, .int (nI k))] [] (wld G σ)
  have kk_123 := sk_123
  have kk_124 := sk_124
  have kk_125 := sk_125
  have kk_129 := sk_129
  have kk_130 := sk_130
  refine V.iload_n C 1 rfl rfl dX10_characterAt_0 ?_
  refine V.aload_n C 0 rfl rfl dX10_characterAt_1 ?_
  refine V.getI C fX10_51 dX10_characterAt_2 (by assumption) rfl ?_
  rw [hT.1]
  refine V.icmp_ge C 17 dX10_characterAt_5 rfl (fun hb_5 => ?_) (fun hb_5 => ?_)
  · have z_ : ¬ k < n := fun q => absurd ((nI_leI (by have := hT.2.1; omega) (by omega)).mp hb_5) (by omega)
    refine V.iconst C ((-1)) c_m1 dX10_characterAt_17 ?_
    exact V.iretS C R dX10_characterAt_18 ⟨by unfold cA; rw [if_neg z_], rfl⟩
  · have z_ : k < n := Nat.lt_of_not_le (fun q => hb_5 (nI_le q (by omega)))
    have n200_ := hT.2.1
    refine V.aload_n C 0 rfl rfl dX10_characterAt_8 ?_
    refine V.getR C fX10_26 dX10_characterAt_9 (by assumption) rfl ?_
    refine V.iload_n C 1 rfl rfl dX10_characterAt_12 ?_
    refine V.ialdN C dX10_characterAt_13 (by assumption) (by omega) ?_
    rw [(hT.2.2 _ z_).1]
    refine V.goto C 18 dX10_characterAt_14 rfl ?_
    exact V.iretS C R dX10_characterAt_18 ⟨by unfold cA; rw [if_pos z_], rfl⟩
set_option maxRecDepth 100000 in
set_option maxHeartbeats 4000000 in
theorem ct_M_word (G : Gl) (σ : SS) (n : Nat) (ch : Nat → Nat) (a e : Nat) (hT : MT σ n ch) (hn : σ.1 123 9 = nI e) (hs : σ.1 123 10 = nI a) (hae : a < e) (hen : e ≤ n) (hlo : 97 ≤ ch a) : CI G mX10_wordOf [Rf G 123] σ (fun r σ1 => r = valW ch a (e - a) ∧ σ1 = σ) := by
  refine Ctr.of oX10_wordOf (Nat.le_of_ble_eq_true rfl) ?_
  intro X C R hnm hz0
  have C : Cx G X cX10_wordOf 3 RX10 1 22 0 0 := C
  have R : Cr G X (some .int) 0 0 _ := R
  show V G X 3 0 0 0 [(0, Rf G 123)] [] (wld G σ)
  have kk_123 := sk_123
  have kk_124 := sk_124
  have kk_125 := sk_125
  have kk_129 := sk_129
  have kk_130 := sk_130
  refine V.aload_n C 0 rfl rfl dX10_wordOf_0 ?_
  refine V.getI C fX10_54 dX10_wordOf_1 (by assumption) rfl ?_
  rw [hn]
  refine V.aload_n C 0 rfl rfl dX10_wordOf_4 ?_
  refine V.getI C fX10_57 dX10_wordOf_5 (by assumption) rfl ?_
  rw [hs]
  refine V.isub C dX10_wordOf_8 ?_
  rw [nI_sub (by omega)]
  have n200_ := hT.2.1
  have cb_ := fun i hi => (hT.2.2 i hi).2
  refine V.istore_n C 1 dX10_wordOf_9 rfl (by decide) ?_
  refine V.aload_n C 0 rfl rfl dX10_wordOf_10 ?_
  refine V.getR C fX10_26 dX10_wordOf_11 (by assumption) rfl ?_
  refine V.aload_n C 0 rfl rfl dX10_wordOf_14 ?_
  refine V.getI C fX10_57 dX10_wordOf_15 (by assumption) rfl ?_
  rw [hs]
  refine V.ialdN C dX10_wordOf_18 (by assumption) (by omega) ?_
  rw [(hT.2.2 _ (by omega)).1]
  refine V.istore_n C 2 dX10_wordOf_19 rfl (by decide) ?_
  refine V.iload_n C 1 rfl rfl dX10_wordOf_20 ?_
  refine V.iconst C (nI 1) c_1 dX10_wordOf_21 ?_
  refine V.icmp_ne C 46 dX10_wordOf_22 rfl (fun hb_22 => ?_) (fun hb_22 => ?_)
  · have q22_ : ¬ e - a = 1 := fun q => hb_22 (by rw [q])
    refine V.iload_n C 1 rfl rfl dX10_wordOf_46 ?_
    refine V.iconst C (nI 3) c_3 dX10_wordOf_47 ?_
    refine V.icmp_ne C 97 dX10_wordOf_48 rfl (fun hb_48 => ?_) (fun hb_48 => ?_)
    · have q48_ : ¬ e - a = 3 := fun q => hb_48 (by rw [q])
      refine V.iload_n C 1 rfl rfl dX10_wordOf_97 ?_
      refine V.iconst C (nI 4) c_4 dX10_wordOf_98 ?_
      refine V.icmp_ne C 161 dX10_wordOf_99 rfl (fun hb_99 => ?_) (fun hb_99 => ?_)
      · have q99_ : ¬ e - a = 4 := fun q => hb_99 (by rw [q])
        refine V.bipush C ((-9)) b_m9 dX10_wordOf_161 ?_
        exact V.iretS C R dX10_wordOf_163 ⟨by rw [valW_k (t := 256) (by rw [kwO q22_ q48_ q99_])]; rfl, rfl⟩
      · have q99_ : e - a = 4 := nI_pe (by omega) (by decide) hb_99
        refine V.iload_n C 2 rfl rfl dX10_wordOf_102 ?_
        refine V.bipush C (nI 98) b_98 dX10_wordOf_103 ?_
        refine V.icmp_ne C 161 dX10_wordOf_105 rfl (fun hb_105 => ?_) (fun hb_105 => ?_)
        · have q105_ : ¬ ch a = 98 := fun q => hb_105 (by rw [q])
          refine V.bipush C ((-9)) b_m9 dX10_wordOf_161 ?_
          exact V.iretS C R dX10_wordOf_163 ⟨by rw [valW_k (t := 256) (by rw [q99_, kw4, if_neg (fun q => q105_ q.1)])]; rfl, rfl⟩
        · have q105_ : ch a = 98 := nI_pe (by have := cb_ _ (show a < n by omega); omega) (by decide) hb_105
          refine V.aload_n C 0 rfl rfl dX10_wordOf_108 ?_
          refine V.getR C fX10_26 dX10_wordOf_109 (by assumption) rfl ?_
          refine V.aload_n C 0 rfl rfl dX10_wordOf_112 ?_
          refine V.getI C fX10_57 dX10_wordOf_113 (by assumption) rfl ?_
          rw [hs]
          refine V.iconst C (nI 1) c_1 dX10_wordOf_116 ?_
          refine V.iadd C dX10_wordOf_117 ?_
          rw [nI_add]
          refine V.ialdN C dX10_wordOf_118 (by assumption) (by omega) ?_
          rw [(hT.2.2 _ (by omega)).1]
          refine V.bipush C (nI 105) b_105 dX10_wordOf_119 ?_
          refine V.icmp_ne C 161 dX10_wordOf_121 rfl (fun hb_121 => ?_) (fun hb_121 => ?_)
          · have q121_ : ¬ ch (a + 1) = 105 := fun q => hb_121 (by rw [q])
            refine V.bipush C ((-9)) b_m9 dX10_wordOf_161 ?_
            exact V.iretS C R dX10_wordOf_163 ⟨by rw [valW_k (t := 256) (by rw [q99_, kw4, if_neg (fun q => q121_ q.2.1)])]; rfl, rfl⟩
          · have q121_ : ch (a + 1) = 105 := nI_pe (by have := cb_ _ (show (a + 1) < n by omega); omega) (by decide) hb_121
            refine V.aload_n C 0 rfl rfl dX10_wordOf_124 ?_
            refine V.getR C fX10_26 dX10_wordOf_125 (by assumption) rfl ?_
            refine V.aload_n C 0 rfl rfl dX10_wordOf_128 ?_
            refine V.getI C fX10_57 dX10_wordOf_129 (by assumption) rfl ?_
            rw [hs]
            refine V.iconst C (nI 2) c_2 dX10_wordOf_132 ?_
            refine V.iadd C dX10_wordOf_133 ?_
            rw [nI_add]
            refine V.ialdN C dX10_wordOf_134 (by assumption) (by omega) ?_
            rw [(hT.2.2 _ (by omega)).1]
            refine V.bipush C (nI 116) b_116 dX10_wordOf_135 ?_
            refine V.icmp_ne C 161 dX10_wordOf_137 rfl (fun hb_137 => ?_) (fun hb_137 => ?_)
            · have q137_ : ¬ ch (a + 2) = 116 := fun q => hb_137 (by rw [q])
              refine V.bipush C ((-9)) b_m9 dX10_wordOf_161 ?_
              exact V.iretS C R dX10_wordOf_163 ⟨by rw [valW_k (t := 256) (by rw [q99_, kw4, if_neg (fun q => q137_ q.2.2.1)])]; rfl, rfl⟩
            · have q137_ : ch (a + 2) = 116 := nI_pe (by have := cb_ _ (show (a + 2) < n by omega); omega) (by decide) hb_137
              refine V.aload_n C 0 rfl rfl dX10_wordOf_140 ?_
              refine V.getR C fX10_26 dX10_wordOf_141 (by assumption) rfl ?_
              refine V.aload_n C 0 rfl rfl dX10_wordOf_144 ?_
              refine V.getI C fX10_57 dX10_wordOf_145 (by assumption) rfl ?_
              rw [hs]
              refine V.iconst C (nI 3) c_3 dX10_wordOf_148 ?_
              refine V.iadd C dX10_wordOf_149 ?_
              rw [nI_add]
              refine V.ialdN C dX10_wordOf_150 (by assumption) (by omega) ?_
              rw [(hT.2.2 _ (by omega)).1]
              refine V.bipush C (nI 115) b_115 dX10_wordOf_151 ?_
              refine V.icmp_ne C 161 dX10_wordOf_153 rfl (fun hb_153 => ?_) (fun hb_153 => ?_)
              · have q153_ : ¬ ch (a + 3) = 115 := fun q => hb_153 (by rw [q])
                refine V.bipush C ((-9)) b_m9 dX10_wordOf_161 ?_
                exact V.iretS C R dX10_wordOf_163 ⟨by rw [valW_k (t := 256) (by rw [q99_, kw4, if_neg (fun q => q153_ q.2.2.2)])]; rfl, rfl⟩
              · have q153_ : ch (a + 3) = 115 := nI_pe (by have := cb_ _ (show (a + 3) < n by omega); omega) (by decide) hb_153
                refine V.bipush C (nI 8) b_8 dX10_wordOf_156 ?_
                refine V.goto C 163 dX10_wordOf_158 rfl ?_
                exact V.iretS C R dX10_wordOf_163 ⟨by rw [valW_k (t := 259) (by rw [q99_, kw4, if_pos ⟨q105_, q121_, q137_, q153_⟩])]; rfl, rfl⟩
    · have q48_ : e - a = 3 := nI_pe (by omega) (by decide) hb_48
      refine V.iload_n C 2 rfl rfl dX10_wordOf_51 ?_
      refine V.bipush C (nI 110) b_110 dX10_wordOf_52 ?_
      refine V.icmp_ne C 94 dX10_wordOf_54 rfl (fun hb_54 => ?_) (fun hb_54 => ?_)
      · have q54_ : ¬ ch a = 110 := fun q => hb_54 (by rw [q])
        refine V.bipush C ((-9)) b_m9 dX10_wordOf_94 ?_
        exact V.iretS C R dX10_wordOf_96 ⟨by rw [valW_k (t := 256) (by rw [q48_, kw3, if_neg (fun q => q54_ q.1)])]; rfl, rfl⟩
      · have q54_ : ch a = 110 := nI_pe (by have := cb_ _ (show a < n by omega); omega) (by decide) hb_54
        refine V.aload_n C 0 rfl rfl dX10_wordOf_57 ?_
        refine V.getR C fX10_26 dX10_wordOf_58 (by assumption) rfl ?_
        refine V.aload_n C 0 rfl rfl dX10_wordOf_61 ?_
        refine V.getI C fX10_57 dX10_wordOf_62 (by assumption) rfl ?_
        rw [hs]
        refine V.iconst C (nI 1) c_1 dX10_wordOf_65 ?_
        refine V.iadd C dX10_wordOf_66 ?_
        rw [nI_add]
        refine V.ialdN C dX10_wordOf_67 (by assumption) (by omega) ?_
        rw [(hT.2.2 _ (by omega)).1]
        refine V.bipush C (nI 111) b_111 dX10_wordOf_68 ?_
        refine V.icmp_ne C 94 dX10_wordOf_70 rfl (fun hb_70 => ?_) (fun hb_70 => ?_)
        · have q70_ : ¬ ch (a + 1) = 111 := fun q => hb_70 (by rw [q])
          refine V.bipush C ((-9)) b_m9 dX10_wordOf_94 ?_
          exact V.iretS C R dX10_wordOf_96 ⟨by rw [valW_k (t := 256) (by rw [q48_, kw3, if_neg (fun q => q70_ q.2.1)])]; rfl, rfl⟩
        · have q70_ : ch (a + 1) = 111 := nI_pe (by have := cb_ _ (show (a + 1) < n by omega); omega) (by decide) hb_70
          refine V.aload_n C 0 rfl rfl dX10_wordOf_73 ?_
          refine V.getR C fX10_26 dX10_wordOf_74 (by assumption) rfl ?_
          refine V.aload_n C 0 rfl rfl dX10_wordOf_77 ?_
          refine V.getI C fX10_57 dX10_wordOf_78 (by assumption) rfl ?_
          rw [hs]
          refine V.iconst C (nI 2) c_2 dX10_wordOf_81 ?_
          refine V.iadd C dX10_wordOf_82 ?_
          rw [nI_add]
          refine V.ialdN C dX10_wordOf_83 (by assumption) (by omega) ?_
          rw [(hT.2.2 _ (by omega)).1]
          refine V.bipush C (nI 116) b_116 dX10_wordOf_84 ?_
          refine V.icmp_ne C 94 dX10_wordOf_86 rfl (fun hb_86 => ?_) (fun hb_86 => ?_)
          · have q86_ : ¬ ch (a + 2) = 116 := fun q => hb_86 (by rw [q])
            refine V.bipush C ((-9)) b_m9 dX10_wordOf_94 ?_
            exact V.iretS C R dX10_wordOf_96 ⟨by rw [valW_k (t := 256) (by rw [q48_, kw3, if_neg (fun q => q86_ q.2.2)])]; rfl, rfl⟩
          · have q86_ : ch (a + 2) = 116 := nI_pe (by have := cb_ _ (show (a + 2) < n by omega); omega) (by decide) hb_86
            refine V.bipush C (nI 9) b_9 dX10_wordOf_89 ?_
            refine V.goto C 96 dX10_wordOf_91 rfl ?_
            exact V.iretS C R dX10_wordOf_96 ⟨by rw [valW_k (t := 260) (by rw [q48_, kw3, if_pos ⟨q54_, q70_, q86_⟩])]; rfl, rfl⟩
  · have q22_ : e - a = 1 := nI_pe (by omega) (by decide) hb_22
    refine V.iload_n C 2 rfl rfl dX10_wordOf_25 ?_
    refine V.bipush C (nI 97) b_97 dX10_wordOf_26 ?_
    refine V.bipush C (nI 104) b_104 dX10_wordOf_28 ?_
    refine V.cSi C lX10_60 oX10_in dX10_wordOf_30 (ct_M_in G σ (nI (ch a)) (nI 97) (nI 104)) rfl rfl (Nat.le_of_ble_eq_true rfl) ⟨Nat.le_of_ble_eq_true rfl, Nat.le_of_ble_eq_true rfl⟩ ⟨Nat.le_of_ble_eq_true rfl, Nat.le_of_ble_eq_true rfl⟩ (fun rr_30 σ30 pp_30 => ?_)
    obtain ⟨ee_30, ff_30⟩ := pp_30
    rw [ee_30, ff_30]
    refine V.if_eq C 43 dX10_wordOf_33 rfl (fun hb_33 => ?_) (fun hb_33 => ?_)
    · have z_ : ¬ ch a < 105 := fun q => absurd (of_decide_eq_false (bI_eq0 hb_33)) (fun h => h ⟨nI_le hlo (by omega), nI_le (by omega) (by decide)⟩)
      refine V.bipush C ((-9)) b_m9 dX10_wordOf_43 ?_
      exact V.iretS C R dX10_wordOf_45 ⟨by rw [valW_k (t := 256) (by rw [q22_, kw1, if_neg z_])]; rfl, rfl⟩
    · have z_ : ch a < 105 := by
        have := (of_decide_eq_true (bI_ne0 hb_33)).2
        have := (nI_leI (by have := cb_ a (by omega); omega) (by decide)).mp this; omega
      refine V.iload_n C 2 rfl rfl dX10_wordOf_36 ?_
      refine V.bipush C (nI 97) b_97 dX10_wordOf_37 ?_
      refine V.isub C dX10_wordOf_39 ?_
      rw [nI_sub hlo]
      refine V.goto C 45 dX10_wordOf_40 rfl ?_
      exact V.iretS C R dX10_wordOf_45 ⟨by rw [valW_k (t := 258) (by rw [q22_, kw1, if_pos z_])]; rfl, rfl⟩
set_option maxRecDepth 100000 in
set_option maxHeartbeats 4000000 in
theorem ct_M_sg (G : Gl) (σ : SS) (c : Nat) (hc : c < 256) : CI G mX10_isSignCharacter [.int (nI c)] σ (fun r σ1 => r = bI (isSg c) ∧ σ1 = σ) := by
  refine Ctr.of oX10_isSignCharacter (Nat.le_of_ble_eq_true rfl) ?_
  intro X C R hnm hz0
  have C : Cx G X cX10_isSignCharacter 1 RX10 0 0 0 0 := C
  have R : Cr G X (some .boolean) 0 0 _ := R
  show V G X 1 0 0 0 [(0, .int (nI c))] [] (wld G σ)
  refine V.iload_n C 0 rfl rfl dX10_isSignCharacter_0 ?_
  refine V.bipush C (nI 59) b_59 dX10_isSignCharacter_1 ?_
  refine V.icmp_eq C 42 dX10_isSignCharacter_3 rfl (fun hb_3 => ?_) (fun hb_3 => ?_)
  · have z_ : isSg c = true := decide_eq_true (by have := nI_pe (by omega) (by decide) hb_3; omega)
    refine V.iconst C (nI 1) c_1 dX10_isSignCharacter_42 ?_
    refine V.goto C 47 dX10_isSignCharacter_43 rfl ?_
    exact V.zretS C R dX10_isSignCharacter_47 (by first | exact Or.inl rfl | exact Or.inr rfl | exact bI01 _) ⟨by rw [z_]; rfl, rfl⟩
  · have q3_ : ¬ c = 59 := fun q => hb_3 (by rw [q])
    refine V.iload_n C 0 rfl rfl dX10_isSignCharacter_6 ?_
    refine V.bipush C (nI 61) b_61 dX10_isSignCharacter_7 ?_
    refine V.icmp_eq C 42 dX10_isSignCharacter_9 rfl (fun hb_9 => ?_) (fun hb_9 => ?_)
    · have z_ : isSg c = true := decide_eq_true (by have := nI_pe (by omega) (by decide) hb_9; omega)
      refine V.iconst C (nI 1) c_1 dX10_isSignCharacter_42 ?_
      refine V.goto C 47 dX10_isSignCharacter_43 rfl ?_
      exact V.zretS C R dX10_isSignCharacter_47 (by first | exact Or.inl rfl | exact Or.inr rfl | exact bI01 _) ⟨by rw [z_]; rfl, rfl⟩
    · have q9_ : ¬ c = 61 := fun q => hb_9 (by rw [q])
      refine V.iload_n C 0 rfl rfl dX10_isSignCharacter_12 ?_
      refine V.bipush C (nI 46) b_46 dX10_isSignCharacter_13 ?_
      refine V.icmp_eq C 42 dX10_isSignCharacter_15 rfl (fun hb_15 => ?_) (fun hb_15 => ?_)
      · have z_ : isSg c = true := decide_eq_true (by have := nI_pe (by omega) (by decide) hb_15; omega)
        refine V.iconst C (nI 1) c_1 dX10_isSignCharacter_42 ?_
        refine V.goto C 47 dX10_isSignCharacter_43 rfl ?_
        exact V.zretS C R dX10_isSignCharacter_47 (by first | exact Or.inl rfl | exact Or.inr rfl | exact bI01 _) ⟨by rw [z_]; rfl, rfl⟩
      · have q15_ : ¬ c = 46 := fun q => hb_15 (by rw [q])
        refine V.iload_n C 0 rfl rfl dX10_isSignCharacter_18 ?_
        refine V.bipush C (nI 91) b_91 dX10_isSignCharacter_19 ?_
        refine V.icmp_eq C 42 dX10_isSignCharacter_21 rfl (fun hb_21 => ?_) (fun hb_21 => ?_)
        · have z_ : isSg c = true := decide_eq_true (by have := nI_pe (by omega) (by decide) hb_21; omega)
          refine V.iconst C (nI 1) c_1 dX10_isSignCharacter_42 ?_
          refine V.goto C 47 dX10_isSignCharacter_43 rfl ?_
          exact V.zretS C R dX10_isSignCharacter_47 (by first | exact Or.inl rfl | exact Or.inr rfl | exact bI01 _) ⟨by rw [z_]; rfl, rfl⟩
        · have q21_ : ¬ c = 91 := fun q => hb_21 (by rw [q])
          refine V.iload_n C 0 rfl rfl dX10_isSignCharacter_24 ?_
          refine V.bipush C (nI 58) b_58 dX10_isSignCharacter_25 ?_
          refine V.icmp_eq C 42 dX10_isSignCharacter_27 rfl (fun hb_27 => ?_) (fun hb_27 => ?_)
          · have z_ : isSg c = true := decide_eq_true (by have := nI_pe (by omega) (by decide) hb_27; omega)
            refine V.iconst C (nI 1) c_1 dX10_isSignCharacter_42 ?_
            refine V.goto C 47 dX10_isSignCharacter_43 rfl ?_
            exact V.zretS C R dX10_isSignCharacter_47 (by first | exact Or.inl rfl | exact Or.inr rfl | exact bI01 _) ⟨by rw [z_]; rfl, rfl⟩
          · have q27_ : ¬ c = 58 := fun q => hb_27 (by rw [q])
            refine V.iload_n C 0 rfl rfl dX10_isSignCharacter_30 ?_
            refine V.bipush C (nI 93) b_93 dX10_isSignCharacter_31 ?_
            refine V.icmp_eq C 42 dX10_isSignCharacter_33 rfl (fun hb_33 => ?_) (fun hb_33 => ?_)
            · have z_ : isSg c = true := decide_eq_true (by have := nI_pe (by omega) (by decide) hb_33; omega)
              refine V.iconst C (nI 1) c_1 dX10_isSignCharacter_42 ?_
              refine V.goto C 47 dX10_isSignCharacter_43 rfl ?_
              exact V.zretS C R dX10_isSignCharacter_47 (by first | exact Or.inl rfl | exact Or.inr rfl | exact bI01 _) ⟨by rw [z_]; rfl, rfl⟩
            · have q33_ : ¬ c = 93 := fun q => hb_33 (by rw [q])
              refine V.iload_n C 0 rfl rfl dX10_isSignCharacter_36 ?_
              refine V.bipush C (nI 37) b_37 dX10_isSignCharacter_37 ?_
              refine V.icmp_ne C 46 dX10_isSignCharacter_39 rfl (fun hb_39 => ?_) (fun hb_39 => ?_)
              · have q39_ : ¬ c = 37 := fun q => hb_39 (by rw [q])
                have z_ : isSg c = false := decide_eq_false (by omega)
                refine V.iconst C (nI 0) c_0 dX10_isSignCharacter_46 ?_
                exact V.zretS C R dX10_isSignCharacter_47 (by first | exact Or.inl rfl | exact Or.inr rfl | exact bI01 _) ⟨by rw [z_]; rfl, rfl⟩
              · have z_ : isSg c = true := decide_eq_true (by have := nI_pe (by omega) (by decide) hb_39; omega)
                refine V.iconst C (nI 1) c_1 dX10_isSignCharacter_42 ?_
                refine V.goto C 47 dX10_isSignCharacter_43 rfl ?_
                exact V.zretS C R dX10_isSignCharacter_47 (by first | exact Or.inl rfl | exact Or.inr rfl | exact bI01 _) ⟨by rw [z_]; rfl, rfl⟩
