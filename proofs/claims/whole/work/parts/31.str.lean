/-! String constants: "bits" (0) and "not" (1): length, charAt. -/
def sLen (i : Nat) : Nat := ([4, 3] : List Nat).getD i 0
def sByt (i k : Nat) : Int32 := (([[98, 105, 116, 115], [110, 111, 116]] : List (List Int32)).getD i []).getD k 0
def LkJ (own : String) (idx : Nat) (μ : Mi) (n : Nat) : Prop := Cond.methodLink own idx μ.1 ∈ TB ∧ Cond.instanceMethod μ.1 ∈ TB ∧ Cond.selects "java/lang/String" μ.1 μ.1 ∈ TB ∧ (parseMethodDescriptor μ.1.desc).map (fun d => d.parameters.length) = some n
theorem fJ0_9 : Cond.fieldLink RJ0 9 "java/lang/String" "value" "[B" ∈ TB := TB_of (i := 1290) (by decide +kernel) (by decide +kernel)
theorem fJ0_15 : Cond.fieldLink RJ0 15 "java/lang/String" "coder" "B" ∈ TB := TB_of (i := 1291) (by decide +kernel) (by decide +kernel)
theorem fJ0_38 : Cond.fieldLink RJ0 38 "java/lang/String" "COMPACT_STRINGS" "Z" ∈ TB := TB_of (i := 395) (by decide +kernel) (by decide +kernel)
theorem fJ0_1053 : Cond.fieldLink RJ0 1053 "jdk/internal/util/Preconditions" "SIOOBE_FORMATTER" "Ljava/util/function/BiFunction;" ∈ TB := TB_of (i := 411) (by decide +kernel) (by decide +kernel)
theorem jX8_55 : LkJ RX8 55 mJ0_length_8abf5 0 := ⟨TB_of (i := 387) (by decide +kernel) (by decide +kernel), TB_of (i := 388) (by decide +kernel) (by decide +kernel), TB_of (i := 389) (by decide +kernel) (by decide +kernel), by decide +kernel⟩
theorem jJ0_335 : LkJ RJ0 335 mJ0_coder_7d493 0 := ⟨TB_of (i := 391) (by decide +kernel) (by decide +kernel), TB_of (i := 392) (by decide +kernel) (by decide +kernel), TB_of (i := 393) (by decide +kernel) (by decide +kernel), by decide +kernel⟩
theorem jX8_60 : LkJ RX8 60 mJ0_charAt_5068e 1 := ⟨TB_of (i := 397) (by decide +kernel) (by decide +kernel), TB_of (i := 398) (by decide +kernel) (by decide +kernel), TB_of (i := 399) (by decide +kernel) (by decide +kernel), by decide +kernel⟩
theorem jJ0_492 : LkJ RJ0 492 mJ0_isLatin1_aae02 0 := ⟨TB_of (i := 401) (by decide +kernel) (by decide +kernel), TB_of (i := 402) (by decide +kernel) (by decide +kernel), TB_of (i := 403) (by decide +kernel) (by decide +kernel), by decide +kernel⟩
section
variable {G : Gl} {X : Cx0} {cc : ByteArray} {nL fr lo mc ms ce sl pc : Nat} {own : String} {lv : List (Nat × Value)} {st : List Value} {cs : List va_E} {σ : SS}
theorem V.strVal (C : Cx G X cc nL own fr lo mc ms) {i idx : Nat} (hi : i < 2) (h : Cond.fieldLink own idx "java/lang/String" "value" "[B" ∈ TB) (d : decode cc pc = .ok (.getfield idx, 3)) (k : V G X nL ce sl (pc + 3) lv (.ref (G.2.2 (12 + i)) :: st) cs) : V G X nL ce sl pc lv (.ref (G.2.2 (10 + i)) :: st) cs :=
  fun H locs ls a1 a2 a3 => vk_getf C.1 C.2.1 (C.2.2.2.2.2.1.2.2.2.1.1 i hi).2.2.1 a2 C.2.2.2.1 (C.2.2.2.2.1 _ h) (fun _ h => h) d (k H locs ls a1 a2 a3)
theorem V.strCoder (C : Cx G X cc nL own fr lo mc ms) {i idx : Nat} (hi : i < 2) (h : Cond.fieldLink own idx "java/lang/String" "coder" "B" ∈ TB) (d : decode cc pc = .ok (.getfield idx, 3)) (k : V G X nL ce sl (pc + 3) lv (.int 0 :: st) cs) : V G X nL ce sl pc lv (.ref (G.2.2 (10 + i)) :: st) cs :=
  fun H locs ls a1 a2 a3 => vk_getf C.1 C.2.1 (C.2.2.2.2.2.1.2.2.2.1.1 i hi).2.1 a2 C.2.2.2.1 (C.2.2.2.2.1 _ h) (fun _ h => h) d (k H locs ls a1 a2 a3)
theorem V.compact (C : Cx G X cc nL own fr lo mc ms) {idx : Nat} (h : Cond.fieldLink own idx "java/lang/String" "COMPACT_STRINGS" "Z" ∈ TB) (d : decode cc pc = .ok (.getstatic idx, 3)) (k : V G X nL ce sl (pc + 3) lv (.int 1 :: st) cs) : V G X nL ce sl pc lv st cs :=
  fun H locs ls a1 a2 a3 => va_gets C.1 C.2.1 C.2.2.2.2.2.1.2.2.2.2.2.2.1 a2 C.2.2.2.1 (C.2.2.2.2.1 _ h) (fun _ h => h) d (k H locs ls a1 a2 a3)
theorem V.formatter (C : Cx G X cc nL own fr lo mc ms) {idx : Nat} (h : Cond.fieldLink own idx "jdk/internal/util/Preconditions" "SIOOBE_FORMATTER" "Ljava/util/function/BiFunction;" ∈ TB) (d : decode cc pc = .ok (.getstatic idx, 3)) (k : ∀ v : Value, (v = .null ∨ ∃ a, v = .ref a) → V G X nL ce sl (pc + 3) lv (v :: st) cs) : V G X nL ce sl pc lv st cs := by
  intro H locs ls a1 a2 a3
  rcases C.2.2.2.2.2.1.2.2.2.2.2.2.2 with h1 | ⟨t, h1⟩
  · exact va_gets C.1 C.2.1 h1 a2 C.2.2.2.1 (C.2.2.2.2.1 _ h) (fun _ h => h) d (k _ (Or.inl rfl) H locs ls a1 a2 a3)
  · exact va_gets C.1 C.2.1 h1 a2 C.2.2.2.1 (C.2.2.2.2.1 _ h) (fun _ h => h) d (k _ (Or.inr ⟨t, rfl⟩) H locs ls a1 a2 a3)
theorem V.strLen (C : Cx G X cc nL own fr lo mc ms) {i : Nat} (hi : i < 2) (d : decode cc pc = .ok (.arraylength, 1)) (k : V G X nL ce sl (pc + 1) lv (.int (nI (sLen i)) :: st) cs) : V G X nL ce sl pc lv (.ref (G.2.2 (12 + i)) :: st) cs :=
  fun H locs ls a1 a2 a3 => va_tlen C.1 C.2.1 (C.2.2.2.2.2.1.2.2.2.1.1 i hi).2.2.2 a2 rfl d (k H locs ls a1 a2 a3)
theorem V.strByte (C : Cx G X cc nL own fr lo mc ms) {i j : Nat} (hi : i < 2) (hj : j < sLen i) (d : decode cc pc = .ok (.baload, 1)) (k : V G X nL ce sl (pc + 1) lv (.int (sByt i j) :: st) cs) : V G X nL ce sl pc lv (.int (nI j) :: .ref (G.2.2 (12 + i)) :: st) cs := by
  intro H locs ls a1 a2 a3
  have hs : sLen i < 2 ^ 31 := by
    rcases (show i = 0 ∨ i = 1 by omega) with rfl | rfl <;> decide
  refine va_tb C.1 C.2.1 (C.2.2.2.2.2.1.2.2.2.1.1 i hi).2.2.2 a2 (vp_in_nI hj hs) (v := .int (sByt i j)) ?_ d (k H locs ls a1 a2 a3)
  rw [nI_clamp (Nat.lt_trans hj hs)]; rfl
theorem V.ldcS (C : Cx G X cc nL "SliceSolver$Text" fr lo mc ms) {i idx : Nat} {tx : String} (hi : (i = 0 ∧ idx = 47 ∧ tx = "bits") ∨ (i = 1 ∧ idx = 53 ∧ tx = "not")) (d : decode cc pc = .ok (.ldc idx, 2)) (k : V G X nL ce sl (pc + 2) lv (.ref (G.2.2 (10 + i)) :: st) cs) : V G X nL ce sl pc lv st cs := by
  intro H locs ls a1 a2 a3
  rcases hi with ⟨rfl, rfl, rfl⟩ | ⟨rfl, rfl, rfl⟩
  · exact va_ldcS C.1 C.2.1 C.2.2.2.1 C.2.2.2.2.2.1.2.2.2.2.1 d (k H locs ls a1 a2 a3)
  · exact va_ldcS C.1 C.2.1 C.2.2.2.1 C.2.2.2.2.2.1.2.2.2.2.2.1 d (k H locs ls a1 a2 a3)
theorem V.callJ (C : Cx G X cc nL own fr lo mc ms) {idx n i : Nat} {μ : Mi} {As : List Value} {st0 : List Value} {post : Int32 → SS → Prop} (L : LkJ own idx μ n) (M : MOk μ) (hi : i < 2) (d : decode cc pc = .ok (.invokevirtual idx, 3)) (h : CI G μ (.ref (G.2.2 (10 + i)) :: As) σ post) (hn : As.length = n) (hst : st0 = As.reverse ++ .ref (G.2.2 (10 + i)) :: st) (hw : (st.map fun v => v.category).sum ≤ 8) (hr : μ.2.2.2.2.1 + 1 ≤ fr ∧ 8 + (μ.2.2.1 + 11) + μ.2.2.2.2.2 ≤ lo) (hm : ce ≤ mc ∧ sl ≤ ms)
    (k : ∀ (r : Int32) (σ1 : SS), post r σ1 → V G X nL ce sl (pc + 3) lv (.int r :: st) (wld G σ1)) : V G X nL ce sl pc lv st0 (wld G σ) := by
  refine V.run (mc' := 0) (ms' := 0) (post' := PI G post) (a := (.ref (G.2.2 (10 + i)) :: As).toArray) (fun H locs ls a1 a2 a3 T hT Y => ?_) (by intro v cs2 hp; obtain ⟨r, σ1, h1, h2, hp⟩ := hp; rw [h1, h2]; exact k r σ1 hp)
  obtain ⟨l1, l2, l3, l4⟩ := L
  obtain ⟨c1, c2, c3, c4, c5, c6, c7, c8, c9, c10⟩ := C
  have hup : H.size ≤ (xS X).heap.size + ce := by rw [← hT]; exact Y.heapSize
  refine va_runV (As := As) (rest := st) (b := G.2.2 (10 + i)) ⟨c1, c2, c3, c4, c5⟩ (h X.2.1) (C := "java/lang/String") (bytes := μ.2.1) (maxL := μ.2.2.1) (ret := μ.2.2.2.1) (n := n) ⟨callB_of n c5 M.good rfl rfl rfl (c5 _ M.2.1) (c5 _ l1) ⟨M.2.2.2.1, M.2.2.2.2, l4⟩ ⟨by rw [c7]; exact hr.1, by rw [c8]; exact hr.2⟩, c5 _ l2, c5 _ l3⟩ ⟨Px.blind _ _ _ _, ?_, ?_⟩ rfl hn a3.1 hst (lv_room hw) d ⟨by rw [c9]; exact hm.1, by rw [c10]; exact hm.2⟩
  · exact vk_recv (adK := fun i => G.2.2 (10 + i)) c6.2.2.2.1 hi a2
  · exact Px.pre ⟨c1, c2, c3, c4, c5, c6, c7, c8, c9, c10⟩ (fun h => by cases h) a1 a2 hup
theorem V.aloadV (C : Cx G X cc nL own fr lo mc ms) {k0 : Fin 4} {v : Value} (i : Nat) (hv : v = .null ∨ ∃ a, v = .ref a) (hi : (k0 : Nat) = i) (h : lget lv i = some v) (d : decode cc pc = .ok (.aload_n k0, 1)) (k : V G X nL ce sl (pc + 1) lv (v :: st) cs) : V G X nL ce sl pc lv st cs := by
  intro H locs ls a1 a2 a3
  rcases hv with rfl | ⟨a, rfl⟩
  · exact lv_aload_nN C.1 C.2.1 d hi (lget_at a3 h) (k H locs ls a1 a2 a3)
  · exact lv_aload_n C.1 C.2.1 d hi (lget_at a3 h) (k H locs ls a1 a2 a3)
theorem V.bretS (C : Cx G X cc nL own fr lo mc ms) {post : Int32 → SS → Prop} (R : Cr G X (some .byte) ce sl (PI G post)) {v : Int32} (d : decode cc pc = .ok (.ireturn, 1)) (hn : narrow .byte (.int v) = .int v) (h : post v σ) : V G X nL ce sl pc lv [.int v] (wld G σ) := V.bret C R d hn ⟨_, _, rfl, rfl, h⟩
theorem V.cretS (C : Cx G X cc nL own fr lo mc ms) {post : Int32 → SS → Prop} (R : Cr G X (some .char) ce sl (PI G post)) {v : Int32} (d : decode cc pc = .ok (.ireturn, 1)) (hn : narrow .char (.int v) = .int v) (h : post v σ) : V G X nL ce sl pc lv [.int v] (wld G σ) := V.cret C R d hn ⟨_, _, rfl, rfl, h⟩
end
set_option maxRecDepth 100000 in
set_option maxHeartbeats 4000000 in
theorem ct_Js_coder (G : Gl) (σ : SS) (i : Nat) (hi : i < 2) : CI G mJ0_coder_7d493 [.ref (G.2.2 (10 + i))] σ (fun r σ1 => r = 0 ∧ σ1 = σ) := by
  refine Ctr.of oJ0_coder_7d493 (Nat.le_of_ble_eq_true rfl) ?_
  intro X C R hnm hz0
  have C : Cx G X cJ0_coder_7d493 1 RJ0 0 0 0 0 := C
  have R : Cr G X (some .byte) 0 0 _ := R
  show V G X 1 0 0 0 [(0, .ref (G.2.2 (10 + i)))] [] (wld G σ)
  refine V.compact C fJ0_38 dJ0_coder_7d493_0 ?_
  refine V.if_eq C 13 dJ0_coder_7d493_3 rfl (fun hb_3 => ?_) (fun hb_3 => ?_)
  · exact absurd hb_3 (by decide)
  · refine V.rload_n C 0 rfl rfl dJ0_coder_7d493_6 ?_
    refine V.strCoder C hi fJ0_15 dJ0_coder_7d493_7 ?_
    refine V.goto C 14 dJ0_coder_7d493_10 rfl ?_
    exact V.bretS C R dJ0_coder_7d493_14 rfl ⟨rfl, rfl⟩
set_option maxRecDepth 100000 in
set_option maxHeartbeats 4000000 in
theorem ct_Js_latin (G : Gl) (σ : SS) (i : Nat) (hi : i < 2) : CI G mJ0_isLatin1_aae02 [.ref (G.2.2 (10 + i))] σ (fun r σ1 => r = 1 ∧ σ1 = σ) := by
  refine Ctr.of oJ0_isLatin1_aae02 (Nat.le_of_ble_eq_true rfl) ?_
  intro X C R hnm hz0
  have C : Cx G X cJ0_isLatin1_aae02 1 RJ0 0 0 0 0 := C
  have R : Cr G X (some .boolean) 0 0 _ := R
  show V G X 1 0 0 0 [(0, .ref (G.2.2 (10 + i)))] [] (wld G σ)
  refine V.compact C fJ0_38 dJ0_isLatin1_aae02_0 ?_
  refine V.if_eq C 17 dJ0_isLatin1_aae02_3 rfl (fun hb_3 => ?_) (fun hb_3 => ?_)
  · exact absurd hb_3 (by decide)
  · refine V.rload_n C 0 rfl rfl dJ0_isLatin1_aae02_6 ?_
    refine V.strCoder C hi fJ0_15 dJ0_isLatin1_aae02_7 ?_
    refine V.if_ne C 17 dJ0_isLatin1_aae02_10 rfl (fun hb_10 => ?_) (fun hb_10 => ?_)
    · exact absurd rfl hb_10
    · refine V.iconst C (nI 1) c_1 dJ0_isLatin1_aae02_13 ?_
      refine V.goto C 18 dJ0_isLatin1_aae02_14 rfl ?_
      exact V.zretS C R dJ0_isLatin1_aae02_18 (by first | exact Or.inl rfl | exact Or.inr rfl | exact bI01 _) ⟨rfl, rfl⟩
set_option maxRecDepth 100000 in
set_option maxHeartbeats 4000000 in
theorem ct_Js_length (G : Gl) (σ : SS) (i : Nat) (hi : i < 2) : CI G mJ0_length_8abf5 [.ref (G.2.2 (10 + i))] σ (fun r σ1 => r = nI (sLen i) ∧ σ1 = σ) := by
  refine Ctr.of oJ0_length_8abf5 (Nat.le_of_ble_eq_true rfl) ?_
  intro X C R hnm hz0
  have C : Cx G X cJ0_length_8abf5 1 RJ0 1 20 0 0 := C
  have R : Cr G X (some .int) 0 0 _ := R
  show V G X 1 0 0 0 [(0, .ref (G.2.2 (10 + i)))] [] (wld G σ)
  refine V.rload_n C 0 rfl rfl dJ0_length_8abf5_0 ?_
  refine V.strVal C hi fJ0_9 dJ0_length_8abf5_1 ?_
  refine V.strLen C hi dJ0_length_8abf5_4 ?_
  refine V.rload_n C 0 rfl rfl dJ0_length_8abf5_5 ?_
  refine V.callJ C jJ0_335 oJ0_coder_7d493 hi dJ0_length_8abf5_6 (ct_Js_coder G σ i hi) rfl rfl (Nat.le_of_ble_eq_true rfl) ⟨Nat.le_of_ble_eq_true rfl, Nat.le_of_ble_eq_true rfl⟩ ⟨Nat.le_of_ble_eq_true rfl, Nat.le_of_ble_eq_true rfl⟩ (fun rr_6 σ6 pp_6 => ?_)
  obtain ⟨ee_6, ff_6⟩ := pp_6
  rw [ee_6, ff_6]
  refine V.ishr C dJ0_length_8abf5_9 ?_
  exact V.iretS C R dJ0_length_8abf5_10 ⟨by rcases (show i = 0 ∨ i = 1 by omega) with rfl | rfl <;> decide, rfl⟩
set_option maxRecDepth 100000 in
set_option maxHeartbeats 4000000 in
theorem ct_Js_check3 (G : Gl) (σ : SS) (k l : Nat) (v : Value) (hv : v = .null ∨ ∃ a, v = .ref a) (hk : k < l) (hl : l < 2 ^ 31) : CI G mJ3_checkIndex_8e157 [.int (nI k), .int (nI l), v] σ (fun r σ1 => r = nI k ∧ σ1 = σ) := by
  rcases hv with rfl | ⟨a, rfl⟩
  · refine Ctr.of oJ3_checkIndex_8e157 (Nat.le_of_ble_eq_true rfl) ?_
    intro X C R hnm hz0
    have C : Cx G X cJ3_checkIndex_8e157 3 RJ3 0 0 0 0 := C
    have R : Cr G X (some .int) 0 0 _ := R
    show V G X 3 0 0 0 [(0, .int (nI k)), (1, .int (nI l)), (2, .null)] [] (wld G σ)
    refine V.iload_n C 0 rfl rfl dJ3_checkIndex_8e157_0 ?_
    refine V.if_lt C 9 dJ3_checkIndex_8e157_1 rfl (fun hb_1 => ?_) (fun hb_1 => ?_)
    · exact absurd hb_1 (nI_pos (by omega))
    · refine V.iload_n C 0 rfl rfl dJ3_checkIndex_8e157_4 ?_
      refine V.iload_n C 1 rfl rfl dJ3_checkIndex_8e157_5 ?_
      refine V.icmp_lt C 16 dJ3_checkIndex_8e157_6 rfl (fun hb_6 => ?_) (fun hb_6 => ?_)
      · refine V.iload_n C 0 rfl rfl dJ3_checkIndex_8e157_16 ?_
        exact V.iretS C R dJ3_checkIndex_8e157_17 ⟨rfl, rfl⟩
      · exact absurd (nI_lt hk hl) hb_6
  · refine Ctr.of oJ3_checkIndex_8e157 (Nat.le_of_ble_eq_true rfl) ?_
    intro X C R hnm hz0
    have C : Cx G X cJ3_checkIndex_8e157 3 RJ3 0 0 0 0 := C
    have R : Cr G X (some .int) 0 0 _ := R
    show V G X 3 0 0 0 [(0, .int (nI k)), (1, .int (nI l)), (2, .ref a)] [] (wld G σ)
    refine V.iload_n C 0 rfl rfl dJ3_checkIndex_8e157_0 ?_
    refine V.if_lt C 9 dJ3_checkIndex_8e157_1 rfl (fun hb_1 => ?_) (fun hb_1 => ?_)
    · exact absurd hb_1 (nI_pos (by omega))
    · refine V.iload_n C 0 rfl rfl dJ3_checkIndex_8e157_4 ?_
      refine V.iload_n C 1 rfl rfl dJ3_checkIndex_8e157_5 ?_
      refine V.icmp_lt C 16 dJ3_checkIndex_8e157_6 rfl (fun hb_6 => ?_) (fun hb_6 => ?_)
      · refine V.iload_n C 0 rfl rfl dJ3_checkIndex_8e157_16 ?_
        exact V.iretS C R dJ3_checkIndex_8e157_17 ⟨rfl, rfl⟩
      · exact absurd (nI_lt hk hl) hb_6
set_option maxRecDepth 100000 in
set_option maxHeartbeats 4000000 in
theorem ct_Js_check2 (G : Gl) (σ : SS) (k l : Nat) (hk : k < l) (hl : l < 2 ^ 31) : CV G mJ0_checkIndex_df160 [.int (nI k), .int (nI l)] σ (fun σ1 => σ1 = σ) := by
  refine Ctr.of oJ0_checkIndex_df160 (Nat.le_of_ble_eq_true rfl) ?_
  intro X C R hnm hz0
  have C : Cx G X cJ0_checkIndex_df160 2 RJ0 1 22 0 0 := C
  have R : Cr G X none 0 0 _ := R
  show V G X 2 0 0 0 [(0, .int (nI k)), (1, .int (nI l))] [] (wld G σ)
  refine V.iload_n C 0 rfl rfl dJ0_checkIndex_df160_0 ?_
  refine V.iload_n C 1 rfl rfl dJ0_checkIndex_df160_1 ?_
  refine V.formatter C fJ0_1053 dJ0_checkIndex_df160_2 (fun v hv => ?_)
  refine V.cSi C lJ0_1059 oJ3_checkIndex_8e157 dJ0_checkIndex_df160_5 (ct_Js_check3 G σ k l v hv hk hl) rfl rfl (Nat.le_of_ble_eq_true rfl) ⟨Nat.le_of_ble_eq_true rfl, Nat.le_of_ble_eq_true rfl⟩ ⟨Nat.le_of_ble_eq_true rfl, Nat.le_of_ble_eq_true rfl⟩ (fun rr_5 σ5 pp_5 => ?_)
  obtain ⟨ee_5, ff_5⟩ := pp_5
  rw [ee_5, ff_5]
  refine V.pop C rfl dJ0_checkIndex_df160_8 ?_
  exact V.vretS C R dJ0_checkIndex_df160_9 rfl
theorem sByt_c : ∀ i, i < 2 → ∀ k, k < sLen i → ((sByt i k &&& nI 255).toUInt32 % 65536).toInt32 = sByt i k ∧ narrow .char (.int (sByt i k)) = .int (sByt i k) := by decide +kernel
theorem sLen_lt {i : Nat} (hi : i < 2) : sLen i < 2 ^ 31 := by
  rcases (show i = 0 ∨ i = 1 by omega) with rfl | rfl <;> decide
set_option maxRecDepth 100000 in
set_option maxHeartbeats 4000000 in
theorem ct_Js_l1char (G : Gl) (σ : SS) (i k : Nat) (hi : i < 2) (hk : k < sLen i) : CI G mJ1_charAt_3b067 [.ref (G.2.2 (12 + i)), .int (nI k)] σ (fun r σ1 => r = sByt i k ∧ σ1 = σ) := by
  refine Ctr.of oJ1_charAt_3b067 (Nat.le_of_ble_eq_true rfl) ?_
  intro X C R hnm hz0
  have C : Cx G X cJ1_charAt_3b067 2 RJ1 2 43 0 0 := C
  have R : Cr G X (some .char) 0 0 _ := R
  show V G X 2 0 0 0 [(0, .ref (G.2.2 (12 + i))), (1, .int (nI k))] [] (wld G σ)
  refine V.iload_n C 1 rfl rfl dJ1_charAt_3b067_0 ?_
  refine V.rload_n C 0 rfl rfl dJ1_charAt_3b067_1 ?_
  refine V.strLen C hi dJ1_charAt_3b067_2 ?_
  refine V.cSv C lJ1_9 oJ0_checkIndex_df160 dJ1_charAt_3b067_3 (ct_Js_check2 G σ k (sLen i) hk (sLen_lt hi)) rfl rfl (Nat.le_of_ble_eq_true rfl) ⟨Nat.le_of_ble_eq_true rfl, Nat.le_of_ble_eq_true rfl⟩ ⟨Nat.le_of_ble_eq_true rfl, Nat.le_of_ble_eq_true rfl⟩ (fun σ3 pp_3 => ?_)
  rw [pp_3]
  refine V.rload_n C 0 rfl rfl dJ1_charAt_3b067_6 ?_
  refine V.iload_n C 1 rfl rfl dJ1_charAt_3b067_7 ?_
  refine V.strByte C hi hk dJ1_charAt_3b067_8 ?_
  refine V.sipush C (nI 255) s_255 dJ1_charAt_3b067_9 ?_
  refine V.iand C dJ1_charAt_3b067_12 ?_
  refine V.i2c C (sByt i k) (sByt_c i hi k hk).1 dJ1_charAt_3b067_13 ?_
  exact V.cretS C R dJ1_charAt_3b067_14 (sByt_c i hi k hk).2 ⟨rfl, rfl⟩
set_option maxRecDepth 100000 in
set_option maxHeartbeats 4000000 in
theorem ct_Js_charAt (G : Gl) (σ : SS) (i k : Nat) (hi : i < 2) (hk : k < sLen i) : CI G mJ0_charAt_5068e [.ref (G.2.2 (10 + i)), .int (nI k)] σ (fun r σ1 => r = sByt i k ∧ σ1 = σ) := by
  refine Ctr.of oJ0_charAt_5068e (Nat.le_of_ble_eq_true rfl) ?_
  intro X C R hnm hz0
  have C : Cx G X cJ0_charAt_5068e 2 RJ0 4 85 0 0 := C
  have R : Cr G X (some .char) 0 0 _ := R
  show V G X 2 0 0 0 [(0, .ref (G.2.2 (10 + i))), (1, .int (nI k))] [] (wld G σ)
  refine V.rload_n C 0 rfl rfl dJ0_charAt_5068e_0 ?_
  refine V.callJ C jJ0_492 oJ0_isLatin1_aae02 hi dJ0_charAt_5068e_1 (ct_Js_latin G σ i hi) rfl rfl (Nat.le_of_ble_eq_true rfl) ⟨Nat.le_of_ble_eq_true rfl, Nat.le_of_ble_eq_true rfl⟩ ⟨Nat.le_of_ble_eq_true rfl, Nat.le_of_ble_eq_true rfl⟩ (fun rr_1 σ1 pp_1 => ?_)
  obtain ⟨ee_1, ff_1⟩ := pp_1
  rw [ee_1, ff_1]
  refine V.if_eq C 16 dJ0_charAt_5068e_4 rfl (fun hb_4 => ?_) (fun hb_4 => ?_)
  · exact absurd hb_4 (by decide)
  · refine V.rload_n C 0 rfl rfl dJ0_charAt_5068e_7 ?_
    refine V.strVal C hi fJ0_9 dJ0_charAt_5068e_8 ?_
    refine V.iload_n C 1 rfl rfl dJ0_charAt_5068e_11 ?_
    refine V.cSi C lJ0_495 oJ1_charAt_3b067 dJ0_charAt_5068e_12 (ct_Js_l1char G σ i k hi hk) rfl rfl (Nat.le_of_ble_eq_true rfl) ⟨Nat.le_of_ble_eq_true rfl, Nat.le_of_ble_eq_true rfl⟩ ⟨Nat.le_of_ble_eq_true rfl, Nat.le_of_ble_eq_true rfl⟩ (fun rr_12 σ12 pp_12 => ?_)
    obtain ⟨ee_12, ff_12⟩ := pp_12
    rw [ee_12, ff_12]
    exact V.cretS C R dJ0_charAt_5068e_15 (sByt_c i hi k hk).2 ⟨rfl, rfl⟩
