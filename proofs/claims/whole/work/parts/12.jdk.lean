/-! Arrays.fill, Integer.bitCount; the setters' laws. -/
theorem sA_A (σ : SS) (k : Nat) (f : Nat → Int32) : (sA σ k f).2.1 k = f := up_eq _ _ _
theorem sA_ne (σ : SS) {k j : Nat} (f : Nat → Int32) (h : j ≠ k) : (sA σ k f).2.1 j = σ.2.1 j := up_ne _ _ h
theorem sA_F (σ : SS) (k : Nat) (f : Nat → Int32) : (sA σ k f).1 = σ.1 := rfl
theorem sA_L (σ : SS) (k : Nat) (f : Nat → Int32) : (sA σ k f).2.2.1 = σ.2.2.1 := rfl
theorem sA_P (σ : SS) (k : Nat) (f : Nat → Int32) : (sA σ k f).2.2.2 = σ.2.2.2 := rfl
theorem up_up {α : Type} (f : Nat → α) (k : Nat) (v w : α) : va_up (va_up f k v) k w = va_up f k w := by
  funext j; unfold va_up; by_cases h : j = k <;> simp [h]
theorem up_same {α : Type} (f : Nat → α) (k : Nat) : va_up f k (f k) = f := by
  funext j; unfold va_up; by_cases h : j = k <;> simp [h]
theorem sA_sA (σ : SS) (k : Nat) (f g : Nat → Int32) : sA (sA σ k f) k g = sA σ k g := by unfold sA; rw [up_up]
theorem sA_self (σ : SS) (k : Nat) : sA σ k (σ.2.1 k) = σ := by unfold sA; rw [up_same]
theorem sL_L (σ : SS) (k : Nat) (f : Nat → Int64) : (sL σ k f).2.2.1 k = f := up_eq _ _ _
theorem sL_ne (σ : SS) {k j : Nat} (f : Nat → Int64) (h : j ≠ k) : (sL σ k f).2.2.1 j = σ.2.2.1 j := up_ne _ _ h
theorem sL_sL (σ : SS) (k : Nat) (f g : Nat → Int64) : sL (sL σ k f) k g = sL σ k g := by unfold sL; rw [up_up]
theorem sL_self (σ : SS) (k : Nat) : sL σ k (σ.2.2.1 k) = σ := by unfold sL; rw [up_same]
theorem sF_F (σ : SS) (k j : Nat) (v : Int32) : (sF σ k j v).1 k j = v := by simp [sF, va_up]
theorem sF_ne (σ : SS) {k j a b : Nat} (v : Int32) (h : ¬ (a = k ∧ b = j)) : (sF σ k j v).1 a b = σ.1 a b := by
  unfold sF va_up
  by_cases h1 : a = k
  · by_cases h2 : b = j
    · exact absurd ⟨h1, h2⟩ h
    · simp [h1, h2]
  · simp [h1]
theorem sF_sF (σ : SS) (k j : Nat) (v w : Int32) : sF (sF σ k j v) k j w = sF σ k j w := by
  unfold sF; simp only [up_up, up_eq]
theorem sF_self (σ : SS) (k j : Nat) : sF σ k j (σ.1 k j) = σ := by unfold sF; rw [up_same, up_same]
theorem V.alenS {G : Gl} {X : Cx0} {cc : ByteArray} {nL fr lo mc ms ce sl pc : Nat} {own : String} {lv : List (Nat × Value)} {st : List Value} {σ : SS} (C : Cx G X cc nL own fr lo mc ms) {k0 t n : Nat} (d : decode cc pc = .ok (.arraylength, 1)) (hk : sk k0 = some (.inl (t, n))) (ht : t < 4) (k : V G X nL ce sl (pc + 1) lv (.int (nI n) :: st) (wld G σ)) : V G X nL ce sl pc lv (Rf G k0 :: st) (wld G σ) := by
  intro H locs ls a1 a2 a3
  rcases (show t = 0 ∨ t = 1 ∨ t = 2 ∨ t = 3 by omega) with h | h | h | h
  · rw [h] at hk
    exact va_alen C.1 C.2.1 C.2.2.2.2.2.1.1 a1 k0 0 (mkW_get (wld_at (G := G) (σ := σ) hk)) (ty := .int) rfl rfl d (k H locs ls a1 a2 a3)
  · rw [h] at hk
    exact va_alen C.1 C.2.1 C.2.2.2.2.2.1.1 a1 k0 1 (mkW_get (wld_at (G := G) (σ := σ) hk)) (ty := .long) rfl rfl d (k H locs ls a1 a2 a3)
  · rw [h] at hk
    exact va_alen C.1 C.2.1 C.2.2.2.2.2.1.1 a1 k0 2 (mkW_get (wld_at (G := G) (σ := σ) hk)) (ty := .boolean) rfl rfl d (k H locs ls a1 a2 a3)
  · rw [h] at hk
    exact va_alen C.1 C.2.1 C.2.2.2.2.2.1.1 a1 k0 3 (mkW_get (wld_at (G := G) (σ := σ) hk)) (ty := .char) rfl rfl d (k H locs ls a1 a2 a3)
def ushr32 (x y : Int32) : Int32 := (x.toUInt32 >>> (y &&& 31).toUInt32).toInt32
theorem V.iushr {G : Gl} {X : Cx0} {cc : ByteArray} {nL fr lo mc ms ce sl pc : Nat} {own : String} {lv : List (Nat × Value)} {st : List Value} {cs : List va_E} (C : Cx G X cc nL own fr lo mc ms) {x y : Int32} (d : decode cc pc = .ok (.iushr, 1)) (k : V G X nL ce sl (pc + 1) lv (.int (ushr32 x y) :: st) cs) : V G X nL ce sl pc lv (.int y :: .int x :: st) cs :=
  fun H locs ls a1 a2 a3 => lv_iushr C.1 C.2.1 d rfl (k H locs ls a1 a2 a3)
theorem V.ldcw {G : Gl} {X : Cx0} {cc : ByteArray} {nL fr lo mc ms ce sl pc : Nat} {own : String} {lv : List (Nat × Value)} {st : List Value} {cs : List va_E} (C : Cx G X cc nL own fr lo mc ms) {i : Nat} {v : Int32} (hw : Cond.constant own i v ∈ TB) (d : decode cc pc = .ok (.ldc_w i, 3)) (k : V G X nL ce sl (pc + 3) lv (.int v :: st) cs) : V G X nL ce sl pc lv st cs :=
  fun H locs ls a1 a2 a3 => lv_ldcw C.1 C.2.1 C.2.2.2.1 (C.2.2.2.2.1 _ hw) d (k H locs ls a1 a2 a3)
def bc32 (x0 : Int32) : Int32 :=
  let x1 := x0 - (ushr32 x0 (nI 1) &&& 1431655765)
  let x2 := (x1 &&& 858993459) + (ushr32 x1 (nI 2) &&& 858993459)
  let x3 := (x2 + ushr32 x2 (nI 4)) &&& 252645135
  let x4 := x3 + ushr32 x3 (nI 8)
  let x5 := x4 + ushr32 x4 (nI 16)
  x5 &&& nI 63
set_option maxRecDepth 100000 in
set_option maxHeartbeats 4000000 in
theorem ct_bitCount (G : Gl) (σ : SS) (x : Int32) : CI G mJ6_bitCount_0f7a4 [.int x] σ (fun r σ1 => r = bc32 x ∧ σ1 = σ) := by
  refine Ctr.of oJ6_bitCount_0f7a4 (Nat.le_of_ble_eq_true rfl) ?_
  intro X C R hnm hz0
  have C : Cx G X cJ6_bitCount_0f7a4 1 RJ6 0 0 0 0 := C
  have R : Cr G X (some .int) 0 0 _ := R
  show V G X 1 0 0 0 [(0, .int x)] [] (wld G σ)
  refine V.iload_n C 0 rfl rfl dJ6_bitCount_0f7a4_0 ?_
  refine V.iload_n C 0 rfl rfl dJ6_bitCount_0f7a4_1 ?_
  refine V.iconst C (nI 1) c_1 dJ6_bitCount_0f7a4_2 ?_
  refine V.iushr C dJ6_bitCount_0f7a4_3 ?_
  refine V.ldcw C qJ6_265 dJ6_bitCount_0f7a4_4 ?_
  refine V.iand C dJ6_bitCount_0f7a4_7 ?_
  refine V.isub C dJ6_bitCount_0f7a4_8 ?_
  refine V.istore_n C 0 dJ6_bitCount_0f7a4_9 rfl (by decide) ?_
  refine V.iload_n C 0 rfl rfl dJ6_bitCount_0f7a4_10 ?_
  refine V.ldcw C qJ6_266 dJ6_bitCount_0f7a4_11 ?_
  refine V.iand C dJ6_bitCount_0f7a4_14 ?_
  refine V.iload_n C 0 rfl rfl dJ6_bitCount_0f7a4_15 ?_
  refine V.iconst C (nI 2) c_2 dJ6_bitCount_0f7a4_16 ?_
  refine V.iushr C dJ6_bitCount_0f7a4_17 ?_
  refine V.ldcw C qJ6_266 dJ6_bitCount_0f7a4_18 ?_
  refine V.iand C dJ6_bitCount_0f7a4_21 ?_
  refine V.iadd C dJ6_bitCount_0f7a4_22 ?_
  refine V.istore_n C 0 dJ6_bitCount_0f7a4_23 rfl (by decide) ?_
  refine V.iload_n C 0 rfl rfl dJ6_bitCount_0f7a4_24 ?_
  refine V.iload_n C 0 rfl rfl dJ6_bitCount_0f7a4_25 ?_
  refine V.iconst C (nI 4) c_4 dJ6_bitCount_0f7a4_26 ?_
  refine V.iushr C dJ6_bitCount_0f7a4_27 ?_
  refine V.iadd C dJ6_bitCount_0f7a4_28 ?_
  refine V.ldcw C qJ6_267 dJ6_bitCount_0f7a4_29 ?_
  refine V.iand C dJ6_bitCount_0f7a4_32 ?_
  refine V.istore_n C 0 dJ6_bitCount_0f7a4_33 rfl (by decide) ?_
  refine V.iload_n C 0 rfl rfl dJ6_bitCount_0f7a4_34 ?_
  refine V.iload_n C 0 rfl rfl dJ6_bitCount_0f7a4_35 ?_
  refine V.bipush C (nI 8) b_8 dJ6_bitCount_0f7a4_36 ?_
  refine V.iushr C dJ6_bitCount_0f7a4_38 ?_
  refine V.iadd C dJ6_bitCount_0f7a4_39 ?_
  refine V.istore_n C 0 dJ6_bitCount_0f7a4_40 rfl (by decide) ?_
  refine V.iload_n C 0 rfl rfl dJ6_bitCount_0f7a4_41 ?_
  refine V.iload_n C 0 rfl rfl dJ6_bitCount_0f7a4_42 ?_
  refine V.bipush C (nI 16) b_16 dJ6_bitCount_0f7a4_43 ?_
  refine V.iushr C dJ6_bitCount_0f7a4_45 ?_
  refine V.iadd C dJ6_bitCount_0f7a4_46 ?_
  refine V.istore_n C 0 dJ6_bitCount_0f7a4_47 rfl (by decide) ?_
  refine V.iload_n C 0 rfl rfl dJ6_bitCount_0f7a4_48 ?_
  refine V.bipush C (nI 63) b_63 dJ6_bitCount_0f7a4_49 ?_
  refine V.iand C dJ6_bitCount_0f7a4_51 ?_
  exact V.iretS C R dJ6_bitCount_0f7a4_52 ⟨rfl, rfl⟩
set_option maxRecDepth 100000 in
set_option maxHeartbeats 4000000 in
theorem ct_fillI (G : Gl) (σ : SS) (k n : Nat) (v : Int32) (hk : sk k = some (.inl (0, n))) (hn : n < 2 ^ 31) : CV G mJ7_fill_53178 [Rf G k, .int v] σ (fun σ1 => σ1 = sA σ k (fun j => if j < n then v else σ.2.1 k j)) := by
  refine Ctr.of oJ7_fill_53178 (Nat.le_of_ble_eq_true rfl) ?_
  intro X C R hnm hz0
  have C : Cx G X cJ7_fill_53178 4 RJ7 0 0 0 0 := C
  have R : Cr G X none 0 0 _ := R
  show V G X 4 0 0 0 [(0, Rf G k), (1, .int v)] [] (wld G σ)
  have loop : ∀ m i : Nat, i + m = n → V G X 4 0 0 5 [(0, Rf G k), (1, .int v), (2, .int (nI i)), (3, .int (nI n))] [] (wld G (sA σ k (fun j => if j < i then v else σ.2.1 k j))) := by
    intro m
    induction m with
    | zero =>
      intro i hi
      have hi : i = n := by omega
      subst hi
      refine V.iload_n C 2 rfl rfl dJ7_fill_53178_5 ?_
      refine V.iload_n C 3 rfl rfl dJ7_fill_53178_6 ?_
      refine V.icmp_ge C 20 dJ7_fill_53178_7 rfl (fun hc => ?_) (fun hc => ?_)
      · exact V.vretS C R dJ7_fill_53178_20 rfl
      · exact absurd (nI_le (Nat.le_refl i) hn) hc
    | succ m ih =>
      intro i hi
      refine V.iload_n C 2 rfl rfl dJ7_fill_53178_5 ?_
      refine V.iload_n C 3 rfl rfl dJ7_fill_53178_6 ?_
      refine V.icmp_ge C 20 dJ7_fill_53178_7 rfl (fun hc => ?_) (fun hc => ?_)
      · exact absurd ((nI_leI (by omega) (by omega)).mp hc) (by omega)
      · refine V.aload_n C 0 rfl rfl dJ7_fill_53178_10 ?_
        refine V.iload_n C 2 rfl rfl dJ7_fill_53178_11 ?_
        refine V.iload_n C 1 rfl rfl dJ7_fill_53178_12 ?_
        refine V.iastS C dJ7_fill_53178_13 (by assumption) (vp_in_nI (by omega) hn) ?_
        refine V.iinc C (nI (i + 1)) dJ7_fill_53178_14 rfl (nI_1 i) (by decide) ?_
        refine V.goto C 5 dJ7_fill_53178_17 rfl ?_
        refine V.lvs (lv' := [(0, Rf G k), (1, .int v), (2, .int (nI (i + 1))), (3, .int (nI n))]) rfl ?_
        rw [sA_sA, sA_A]
        have e : va_up (fun j => if j < i then v else σ.2.1 k j) (nI i).toNatClampNeg v = fun j => if j < i + 1 then v else σ.2.1 k j := by
          rw [nI_clamp (by omega)]
          funext j
          unfold va_up
          by_cases h1 : j = i
          · simp [h1]
          · by_cases h2 : j < i
            · simp [h1, h2, show j < i + 1 by omega]
            · simp [h1, h2, show ¬ j < i + 1 by omega]
        rw [e]
        exact ih (i + 1) (by omega)
  refine V.iconst C (nI 0) c_0 dJ7_fill_53178_0 ?_
  refine V.istore_n C 2 dJ7_fill_53178_1 rfl (by decide) ?_
  refine V.aload_n C 0 rfl rfl dJ7_fill_53178_2 ?_
  refine V.alenS C dJ7_fill_53178_3 (by assumption) (by decide) ?_
  refine V.istore_n C 3 dJ7_fill_53178_4 rfl (by decide) ?_
  refine V.lvs (lv' := [(0, Rf G k), (1, .int v), (2, .int (nI 0)), (3, .int (nI n))]) rfl ?_
  have e0 : σ = sA σ k (fun j => if j < 0 then v else σ.2.1 k j) := by simp only [Nat.not_lt_zero, if_false]; exact (sA_self σ k).symm
  have q := loop n 0 (by omega)
  rw [← e0] at q
  exact q
set_option maxRecDepth 100000 in
set_option maxHeartbeats 4000000 in
theorem ct_fillL (G : Gl) (σ : SS) (k n : Nat) (v : Int64) (hk : sk k = some (.inl (1, n))) (hn : n < 2 ^ 31) : CV G mJ7_fill_d0a16 [Rf G k, .long v] σ (fun σ1 => σ1 = sL σ k (fun j => if j < n then v else σ.2.2.1 k j)) := by
  refine Ctr.of oJ7_fill_d0a16 (Nat.le_of_ble_eq_true rfl) ?_
  intro X C R hnm hz0
  have C : Cx G X cJ7_fill_d0a16 5 RJ7 0 0 0 0 := C
  have R : Cr G X none 0 0 _ := R
  show V G X 5 0 0 0 [(0, Rf G k), (1, .long v)] [] (wld G σ)
  have loop : ∀ m i : Nat, i + m = n → V G X 5 0 0 6 [(0, Rf G k), (1, .long v), (3, .int (nI i)), (4, .int (nI n))] [] (wld G (sL σ k (fun j => if j < i then v else σ.2.2.1 k j))) := by
    intro m
    induction m with
    | zero =>
      intro i hi
      have hi : i = n := by omega
      subst hi
      refine V.iload_n C 3 rfl rfl dJ7_fill_d0a16_6 ?_
      refine V.iload C rfl dJ7_fill_d0a16_7 ?_
      refine V.icmp_ge C 22 dJ7_fill_d0a16_9 rfl (fun hc => ?_) (fun hc => ?_)
      · exact V.vretS C R dJ7_fill_d0a16_22 rfl
      · exact absurd (nI_le (Nat.le_refl i) hn) hc
    | succ m ih =>
      intro i hi
      refine V.iload_n C 3 rfl rfl dJ7_fill_d0a16_6 ?_
      refine V.iload C rfl dJ7_fill_d0a16_7 ?_
      refine V.icmp_ge C 22 dJ7_fill_d0a16_9 rfl (fun hc => ?_) (fun hc => ?_)
      · exact absurd ((nI_leI (by omega) (by omega)).mp hc) (by omega)
      · refine V.aload_n C 0 rfl rfl dJ7_fill_d0a16_12 ?_
        refine V.iload_n C 3 rfl rfl dJ7_fill_d0a16_13 ?_
        refine V.lload_n C 1 rfl rfl dJ7_fill_d0a16_14 ?_
        refine V.lastS C dJ7_fill_d0a16_15 (by assumption) (vp_in_nI (by omega) hn) ?_
        refine V.iinc C (nI (i + 1)) dJ7_fill_d0a16_16 rfl (nI_1 i) (by decide) ?_
        refine V.goto C 6 dJ7_fill_d0a16_19 rfl ?_
        refine V.lvs (lv' := [(0, Rf G k), (1, .long v), (3, .int (nI (i + 1))), (4, .int (nI n))]) rfl ?_
        rw [sL_sL, sL_L]
        have e : va_up (fun j => if j < i then v else σ.2.2.1 k j) (nI i).toNatClampNeg v = fun j => if j < i + 1 then v else σ.2.2.1 k j := by
          rw [nI_clamp (by omega)]
          funext j
          unfold va_up
          by_cases h1 : j = i
          · simp [h1]
          · by_cases h2 : j < i
            · simp [h1, h2, show j < i + 1 by omega]
            · simp [h1, h2, show ¬ j < i + 1 by omega]
        rw [e]
        exact ih (i + 1) (by omega)
  refine V.iconst C (nI 0) c_0 dJ7_fill_d0a16_0 ?_
  refine V.istore_n C 3 dJ7_fill_d0a16_1 rfl (by decide) ?_
  refine V.aload_n C 0 rfl rfl dJ7_fill_d0a16_2 ?_
  refine V.alenS C dJ7_fill_d0a16_3 (by assumption) (by decide) ?_
  refine V.istore C dJ7_fill_d0a16_4 (by decide) ?_
  refine V.lvs (lv' := [(0, Rf G k), (1, .long v), (3, .int (nI 0)), (4, .int (nI n))]) rfl ?_
  have e0 : σ = sL σ k (fun j => if j < 0 then v else σ.2.2.1 k j) := by simp only [Nat.not_lt_zero, if_false]; exact (sL_self σ k).symm
  have q := loop n 0 (by omega)
  rw [← e0] at q
  exact q
