/-! Arrays.fill and Classes.clear over any world; the makers of Text, Term, Statements, Cuts, Model, Classes, Problem, Reader, History. -/
theorem V.alenI {G : Gl} {X : Cx0} {cc : ByteArray} {nL fr lo mc ms ce sl pc : Nat} {own : String} {lv : List (Nat × Value)} {st : List Value} {cs : List va_E} (C : Cx G X cc nL own fr lo mc ms) {k0 n : Nat} {f : Nat → Int32} (d : decode cc pc = .ok (.arraylength, 1)) (hc : cs[k0]? = some (aI G n f)) (k : V G X nL ce sl (pc + 1) lv (.int (nI n) :: st) cs) : V G X nL ce sl pc lv (Rf G k0 :: st) cs :=
  fun H locs ls a1 a2 a3 => va_alen C.1 C.2.1 C.2.2.2.2.2.1.1 a1 k0 0 (mkW_get hc) (ty := .int) rfl rfl d (k H locs ls a1 a2 a3)
theorem set_at {cs : List va_E} {k : Nat} {e e' : va_E} (h : cs[k]? = some e') : (cs.set k e)[k]? = some e := by
  rw [List.getElem?_set, if_pos rfl, if_pos (List.getElem?_eq_some_iff.mp h).1]
set_option maxRecDepth 100000 in
set_option maxHeartbeats 4000000 in
theorem ct_fillC (G : Gl) (cs : List va_E) (k n : Nat) (v : Int32) (f0 : Nat → Int32) (hk : cs[k]? = some (aI G n f0)) (hn : n < 2 ^ 31) : Ctr G mJ7_fill_53178 [Rf G k, .int v] cs false 0 0 (fun r cs' => r = none ∧ ∃ f : Nat → Int32, (∀ j, j < n → f j = v) ∧ cs' = cs.set k (aI G n f)) := by
  refine Ctr.of oJ7_fill_53178 (Nat.le_of_ble_eq_true rfl) ?_
  intro X C R hnm hz0
  have C : Cx G X cJ7_fill_53178 4 RJ7 0 0 0 0 := C
  have R : Cr G X none 0 0 _ := R
  show V G X 4 0 0 0 [(0, Rf G k), (1, .int v)] [] cs
  have loop : ∀ (m i : Nat) (f : Nat → Int32), i + m = n → (∀ j, j < i → f j = v) → V G X 4 0 0 5 [(0, Rf G k), (1, .int v), (2, .int (nI i)), (3, .int (nI n))] [] (cs.set k (aI G n f)) := by
    intro m
    induction m with
    | zero =>
      intro i f hi hf
      have hi : i = n := by omega
      subst hi
      refine V.iload_n C 2 rfl rfl dJ7_fill_53178_5 ?_
      refine V.iload_n C 3 rfl rfl dJ7_fill_53178_6 ?_
      refine V.icmp_ge C 20 dJ7_fill_53178_7 rfl (fun hc => ?_) (fun hc => ?_)
      · exact V.vret C R dJ7_fill_53178_20 ⟨rfl, f, hf, rfl⟩
      · exact absurd (nI_le (Nat.le_refl i) hn) hc
    | succ m ih =>
      intro i f hi hf
      refine V.iload_n C 2 rfl rfl dJ7_fill_53178_5 ?_
      refine V.iload_n C 3 rfl rfl dJ7_fill_53178_6 ?_
      refine V.icmp_ge C 20 dJ7_fill_53178_7 rfl (fun hc => ?_) (fun hc => ?_)
      · exact absurd ((nI_leI (by omega) (by omega)).mp hc) (by omega)
      · refine V.aload_n C 0 rfl rfl dJ7_fill_53178_10 ?_
        refine V.iload_n C 2 rfl rfl dJ7_fill_53178_11 ?_
        refine V.iload_n C 1 rfl rfl dJ7_fill_53178_12 ?_
        refine V.iast C dJ7_fill_53178_13 (set_at hk) (vp_in_nI (by omega) hn) ?_
        refine V.iinc C (nI (i + 1)) dJ7_fill_53178_14 rfl (nI_1 i) (by decide) ?_
        refine V.goto C 5 dJ7_fill_53178_17 rfl ?_
        refine V.lvs (lv' := [(0, Rf G k), (1, .int v), (2, .int (nI (i + 1))), (3, .int (nI n))]) rfl ?_
        rw [List.set_set]
        refine ih (i + 1) _ (by omega) (fun j hj => ?_)
        rw [nI_clamp (by omega)]
        by_cases h1 : j = i
        · rw [h1, up_eq]
        · rw [up_ne _ _ h1]; exact hf j (by omega)
  refine V.iconst C (nI 0) c_0 dJ7_fill_53178_0 ?_
  refine V.istore_n C 2 dJ7_fill_53178_1 rfl (by decide) ?_
  refine V.aload_n C 0 rfl rfl dJ7_fill_53178_2 ?_
  refine V.alenI C dJ7_fill_53178_3 hk ?_
  refine V.istore_n C 3 dJ7_fill_53178_4 rfl (by decide) ?_
  refine V.lvs (lv' := [(0, Rf G k), (1, .int v), (2, .int (nI 0)), (3, .int (nI n))]) rfl ?_
  have q := loop n 0 f0 (by omega) (fun j hj => absurd hj (by omega))
  have e : cs.set k (aI G n f0) = cs := by
    apply List.ext_getElem?
    intro j
    rw [List.getElem?_set]
    by_cases hj : k = j
    · subst hj; rw [if_pos rfl, if_pos (List.getElem?_eq_some_iff.mp hk).1, hk]
    · rw [if_neg hj]
  rw [e] at q
  exact q
/-- the classes' cells, new: every bit its own root, nothing fixed -/
def BCl (G : Gl) (n : Nat) (B : List va_E) : Prop := ∃ f g : Nat → Int32, (∀ j, j < 128 → f j = nI j ∧ g j = -1) ∧ B = [ob 0 [Rf G (n + 1), Rf G (n + 2), .int (nI 1)], aI G 128 f, aI G 128 g]
set_option maxRecDepth 100000 in
set_option maxHeartbeats 4000000 in
theorem ct_clearN (G : Gl) (pre : List va_E) (n : Nat) (hn : pre.length = n) (f0 g0 : Nat → Int32) (x0 : Int32) : Ctr G mX0_clear [Rf G (n + 0)] (pre ++ [ob 0 [Rf G (n + 1), Rf G (n + 2), .int x0], aI G 128 f0, aI G 128 g0]) false 0 0 (fun r cs' => r = none ∧ ∃ B, BCl G n B ∧ cs' = pre ++ B) := by
  refine Ctr.of oX0_clear (Nat.le_of_ble_eq_true rfl) ?_
  intro X C R hnm hz0
  have C : Cx G X cX0_clear 2 RX0 1 23 0 0 := C
  have R : Cr G X none 0 0 _ := R
  show V G X 2 0 0 0 [(0, Rf G (n + 0))] [] (pre ++ [ob 0 [Rf G (n + 1), Rf G (n + 2), .int x0], aI G 128 f0, aI G 128 g0])
  have loop : ∀ (m i : Nat) (f : Nat → Int32), 128 < i + m → i ≤ 128 → (∀ j, j < i → f j = nI j) → V G X 2 0 0 2 [(0, Rf G (n + 0)), (1, .int (nI i))] [] (pre ++ [ob 0 [Rf G (n + 1), Rf G (n + 2), .int x0], aI G 128 f, aI G 128 g0]) := by
    intro m
    induction m with
    | zero =>
      intro i f hm hi hf
      exact absurd hm (by omega)
    | succ m ih =>
      intro i f hm hi hf
      refine V.iload_n C 1 rfl rfl dX0_clear_2 ?_
      refine V.sipush C (nI 128) s_128 dX0_clear_3 ?_
      refine V.icmp_ge C 22 dX0_clear_6 rfl (fun hc => ?_) (fun hc => ?_)
      · have hi8 : i = 128 := by have := (nI_leI (by decide) (by omega)).mp hc; omega
        refine V.aload_n C 0 rfl rfl dX0_clear_22 ?_
        refine V.getL C hn 0 fX0_15 dX0_clear_23 rfl rfl ?_
        refine V.iconst C ((-1)) c_m1 dX0_clear_26 ?_
        refine V.callS C lX0_21 oJ7_fill_53178 dX0_clear_27 (ct_fillC G _ (n + 2) 128 (-1) g0 (by rw [← hn, app_at]; rfl) (by decide)) rfl rfl (Nat.le_of_ble_eq_true rfl) ⟨Nat.le_of_ble_eq_true rfl, Nat.le_of_ble_eq_true rfl⟩ ⟨Nat.le_of_ble_eq_true rfl, Nat.le_of_ble_eq_true rfl⟩ (fun h => by cases h) (fun v cs' hp => ?_)
        obtain ⟨rfl, g, hg, rfl⟩ := hp
        have e := app_set pre [ob 0 [Rf G (n + 1), Rf G (n + 2), .int x0], aI G 128 f, aI G 128 g0] 2 (aI G 128 g)
        rw [hn] at e
        rw [e]
        show V G X 2 0 0 30 _ [] (pre ++ [ob 0 [Rf G (n + 1), Rf G (n + 2), .int x0], aI G 128 f, aI G 128 g])
        refine V.aload_n C 0 rfl rfl dX0_clear_30 ?_
        refine V.iconst C (nI 1) c_1 dX0_clear_31 ?_
        refine V.putL C hn 0 fX0_27 dX0_clear_32 rfl rfl rfl (Nat.le_of_ble_eq_true rfl) ?_
        exact V.vret C R dX0_clear_35 ⟨rfl, _, ⟨f, g, fun j hj => ⟨hf j (by omega), hg j hj⟩, rfl⟩, rfl⟩
      · have hi8 : i < 128 := Nat.lt_of_not_le (fun q => hc (nI_le q (by omega)))
        refine V.aload_n C 0 rfl rfl dX0_clear_9 ?_
        refine V.getL C hn 0 fX0_9 dX0_clear_10 rfl rfl ?_
        refine V.iload_n C 1 rfl rfl dX0_clear_13 ?_
        refine V.iload_n C 1 rfl rfl dX0_clear_14 ?_
        refine V.iast C dX0_clear_15 (by rw [← hn, app_at]; rfl) (vp_in_nI (by omega) (by decide)) ?_
        have e := app_set pre [ob 0 [Rf G (n + 1), Rf G (n + 2), .int x0], aI G 128 f, aI G 128 g0] 1 (aI G 128 (va_up f (nI i).toNatClampNeg (nI i)))
        rw [hn] at e
        rw [e]
        refine V.iinc C (nI (i + 1)) dX0_clear_16 rfl (nI_1 i) (by decide) ?_
        refine V.goto C 2 dX0_clear_19 rfl ?_
        refine V.lvs (lv' := [(0, Rf G (n + 0)), (1, .int (nI (i + 1)))]) rfl ?_
        refine ih (i + 1) _ (by omega) (by omega) (fun j hj => ?_)
        rw [nI_clamp (by omega)]
        by_cases h1 : j = i
        · rw [h1, up_eq]
        · rw [up_ne _ _ h1]; exact hf j (by omega)
  refine V.iconst C (nI 0) c_0 dX0_clear_0 ?_
  refine V.istore_n C 1 dX0_clear_1 rfl (by decide) ?_
  refine V.lvs (lv' := [(0, Rf G (n + 0)), (1, .int (nI 0))]) rfl ?_
  exact loop 129 0 f0 (by omega) (by omega) (fun j hj => absurd hj (by omega))
set_option maxRecDepth 100000 in
set_option maxHeartbeats 4000000 in
def BTx (G : Gl) (n : Nat) : List va_E := [ob 8 [Rf G (n + 1), .int 0, Rf G (n + 2), Rf G (n + 3), Rf G (n + 4), .int 0, .int 0], aC G 200 (fun _ => 0), aI G 200 (fun _ => 0), aI G 200 (fun _ => 0), aI G 200 (fun _ => 0)]
set_option maxRecDepth 100000 in
set_option maxHeartbeats 4000000 in
theorem mk_Text (G : Gl) (pre : List va_E) (n : Nat) (hn : pre.length = n) : CN G mX8_init [Rf G (n + 0)] pre (ob 8 [.null, .int 0, .null, .null, .null, .int 0, .int 0]) 4 800 (fun B => B = BTx G n) := by
  refine Ctr.of oX8_init (Nat.le_of_ble_eq_true rfl) ?_
  intro X C R hnm hz0
  have C : Cx G X cX8_init 1 RX8 1 20 4 800 := C
  have R : Cr G X none 4 800 _ := R
  have hz1 : (xS X).heap.size = G.1 + (n + 1) := by rw [hz0 rfl, List.length_append, hn]; rfl
  have hb : G.1 ≤ (xS X).heap.size := by rw [hz1]; omega
  show V G X 1 0 0 0 [(0, Rf G (n + 0))] [] (pre ++ [ob 8 [.null, .int 0, .null, .null, .null, .int 0, .int 0]])
  refine V.aload_n C 0 rfl rfl dX8_init_0 ?_
  refine V.objInit C lX8_3 objI1 objI2 dX8_init_1 (Nat.le_of_ble_eq_true rfl) (Nat.le_of_ble_eq_true rfl) ?_
  refine V.aload_n C 0 rfl rfl dX8_init_4 ?_
  refine V.sipush C (nI 200) s_200 dX8_init_5 ?_
  refine V.newaCL C hb hn (by rw [hz1]; simp only [List.length_append, List.length_cons, List.length_nil] <;> omega) 200 dX8_init_8 (by decide) (by decide) (Nat.le_of_ble_eq_true rfl) ⟨Nat.le_of_ble_eq_true rfl, Nat.le_of_ble_eq_true rfl⟩ ?_
  show V G X 1 1 200 10 [(0, Rf G (n + 0))] [Rf G (n + 1), Rf G (n + 0)] (pre ++ [ob 8 [.null, .int 0, .null, .null, .null, .int 0, .int 0], aC G 200 (fun _ => 0)])
  refine V.putFL C hnm hn 0 fX8_9 dX8_init_10 rfl rfl rfl (Nat.le_of_ble_eq_true rfl) ?_
  show V G X 1 1 200 13 [(0, Rf G (n + 0))] [] (pre ++ [ob 8 [Rf G (n + 1), .int 0, .null, .null, .null, .int 0, .int 0], aC G 200 (fun _ => 0)])
  refine V.aload_n C 0 rfl rfl dX8_init_13 ?_
  refine V.sipush C (nI 200) s_200 dX8_init_14 ?_
  refine V.newaIL C hb hn (by rw [hz1]; simp only [List.length_append, List.length_cons, List.length_nil] <;> omega) 200 dX8_init_17 (by decide) (by decide) (Nat.le_of_ble_eq_true rfl) ⟨Nat.le_of_ble_eq_true rfl, Nat.le_of_ble_eq_true rfl⟩ ?_
  show V G X 1 2 400 19 [(0, Rf G (n + 0))] [Rf G (n + 2), Rf G (n + 0)] (pre ++ [ob 8 [Rf G (n + 1), .int 0, .null, .null, .null, .int 0, .int 0], aC G 200 (fun _ => 0), aI G 200 (fun _ => 0)])
  refine V.putFL C hnm hn 0 fX8_15 dX8_init_19 rfl rfl rfl (Nat.le_of_ble_eq_true rfl) ?_
  show V G X 1 2 400 22 [(0, Rf G (n + 0))] [] (pre ++ [ob 8 [Rf G (n + 1), .int 0, Rf G (n + 2), .null, .null, .int 0, .int 0], aC G 200 (fun _ => 0), aI G 200 (fun _ => 0)])
  refine V.aload_n C 0 rfl rfl dX8_init_22 ?_
  refine V.sipush C (nI 200) s_200 dX8_init_23 ?_
  refine V.newaIL C hb hn (by rw [hz1]; simp only [List.length_append, List.length_cons, List.length_nil] <;> omega) 200 dX8_init_26 (by decide) (by decide) (Nat.le_of_ble_eq_true rfl) ⟨Nat.le_of_ble_eq_true rfl, Nat.le_of_ble_eq_true rfl⟩ ?_
  show V G X 1 3 600 28 [(0, Rf G (n + 0))] [Rf G (n + 3), Rf G (n + 0)] (pre ++ [ob 8 [Rf G (n + 1), .int 0, Rf G (n + 2), .null, .null, .int 0, .int 0], aC G 200 (fun _ => 0), aI G 200 (fun _ => 0), aI G 200 (fun _ => 0)])
  refine V.putFL C hnm hn 0 fX8_19 dX8_init_28 rfl rfl rfl (Nat.le_of_ble_eq_true rfl) ?_
  show V G X 1 3 600 31 [(0, Rf G (n + 0))] [] (pre ++ [ob 8 [Rf G (n + 1), .int 0, Rf G (n + 2), Rf G (n + 3), .null, .int 0, .int 0], aC G 200 (fun _ => 0), aI G 200 (fun _ => 0), aI G 200 (fun _ => 0)])
  refine V.aload_n C 0 rfl rfl dX8_init_31 ?_
  refine V.sipush C (nI 200) s_200 dX8_init_32 ?_
  refine V.newaIL C hb hn (by rw [hz1]; simp only [List.length_append, List.length_cons, List.length_nil] <;> omega) 200 dX8_init_35 (by decide) (by decide) (Nat.le_of_ble_eq_true rfl) ⟨Nat.le_of_ble_eq_true rfl, Nat.le_of_ble_eq_true rfl⟩ ?_
  show V G X 1 4 800 37 [(0, Rf G (n + 0))] [Rf G (n + 4), Rf G (n + 0)] (pre ++ [ob 8 [Rf G (n + 1), .int 0, Rf G (n + 2), Rf G (n + 3), .null, .int 0, .int 0], aC G 200 (fun _ => 0), aI G 200 (fun _ => 0), aI G 200 (fun _ => 0), aI G 200 (fun _ => 0)])
  refine V.putFL C hnm hn 0 fX8_22 dX8_init_37 rfl rfl rfl (Nat.le_of_ble_eq_true rfl) ?_
  show V G X 1 4 800 40 [(0, Rf G (n + 0))] [] (pre ++ [ob 8 [Rf G (n + 1), .int 0, Rf G (n + 2), Rf G (n + 3), Rf G (n + 4), .int 0, .int 0], aC G 200 (fun _ => 0), aI G 200 (fun _ => 0), aI G 200 (fun _ => 0), aI G 200 (fun _ => 0)])
  exact V.vret C R dX8_init_40 ⟨rfl, _, rfl, rfl⟩
set_option maxRecDepth 100000 in
set_option maxHeartbeats 4000000 in
def BTe (G : Gl) (n : Nat) : List va_E := [ob 7 [Rf G (n + 1), .int 0, .int 0], aI G 16 (fun _ => 0)]
set_option maxRecDepth 100000 in
set_option maxHeartbeats 4000000 in
theorem mk_Term (G : Gl) (pre : List va_E) (n : Nat) (hn : pre.length = n) : CN G mX7_init [Rf G (n + 0)] pre (ob 7 [.null, .int 0, .int 0]) 1 16 (fun B => B = BTe G n) := by
  refine Ctr.of oX7_init (Nat.le_of_ble_eq_true rfl) ?_
  intro X C R hnm hz0
  have C : Cx G X cX7_init 1 RX7 1 20 1 16 := C
  have R : Cr G X none 1 16 _ := R
  have hz1 : (xS X).heap.size = G.1 + (n + 1) := by rw [hz0 rfl, List.length_append, hn]; rfl
  have hb : G.1 ≤ (xS X).heap.size := by rw [hz1]; omega
  show V G X 1 0 0 0 [(0, Rf G (n + 0))] [] (pre ++ [ob 7 [.null, .int 0, .int 0]])
  refine V.aload_n C 0 rfl rfl dX7_init_0 ?_
  refine V.objInit C lX7_3 objI1 objI2 dX7_init_1 (Nat.le_of_ble_eq_true rfl) (Nat.le_of_ble_eq_true rfl) ?_
  refine V.aload_n C 0 rfl rfl dX7_init_4 ?_
  refine V.bipush C (nI 16) b_16 dX7_init_5 ?_
  refine V.newaIL C hb hn (by rw [hz1]; simp only [List.length_append, List.length_cons, List.length_nil] <;> omega) 16 dX7_init_7 (by decide) (by decide) (Nat.le_of_ble_eq_true rfl) ⟨Nat.le_of_ble_eq_true rfl, Nat.le_of_ble_eq_true rfl⟩ ?_
  show V G X 1 1 16 9 [(0, Rf G (n + 0))] [Rf G (n + 1), Rf G (n + 0)] (pre ++ [ob 7 [.null, .int 0, .int 0], aI G 16 (fun _ => 0)])
  refine V.putFL C hnm hn 0 fX7_9 dX7_init_9 rfl rfl rfl (Nat.le_of_ble_eq_true rfl) ?_
  show V G X 1 1 16 12 [(0, Rf G (n + 0))] [] (pre ++ [ob 7 [Rf G (n + 1), .int 0, .int 0], aI G 16 (fun _ => 0)])
  exact V.vret C R dX7_init_12 ⟨rfl, _, rfl, rfl⟩
set_option maxRecDepth 100000 in
set_option maxHeartbeats 4000000 in
def BSt10 (G : Gl) (n : Nat) : List va_E := [ob 6 [.int (nI 10), .int 0, Rf G (n + 1), Rf G (n + 2), Rf G (n + 3)], aI G 10 (fun _ => 0), aI G 320 (fun _ => 0), aI G 20 (fun _ => 0)]
set_option maxRecDepth 100000 in
set_option maxHeartbeats 4000000 in
theorem mk_St10 (G : Gl) (pre : List va_E) (n : Nat) (hn : pre.length = n) : CN G mX6_init [Rf G (n + 0), .int (nI 10)] pre (ob 6 [.int 0, .int 0, .null, .null, .null]) 3 350 (fun B => B = BSt10 G n) := by
  refine Ctr.of oX6_init (Nat.le_of_ble_eq_true rfl) ?_
  intro X C R hnm hz0
  have C : Cx G X cX6_init 2 RX6 1 21 3 350 := C
  have R : Cr G X none 3 350 _ := R
  have hz1 : (xS X).heap.size = G.1 + (n + 1) := by rw [hz0 rfl, List.length_append, hn]; rfl
  have hb : G.1 ≤ (xS X).heap.size := by rw [hz1]; omega
  show V G X 2 0 0 0 [(0, Rf G (n + 0)), (1, .int (nI 10))] [] (pre ++ [ob 6 [.int 0, .int 0, .null, .null, .null]])
  refine V.aload_n C 0 rfl rfl dX6_init_0 ?_
  refine V.objInit C lX6_3 objI1 objI2 dX6_init_1 (Nat.le_of_ble_eq_true rfl) (Nat.le_of_ble_eq_true rfl) ?_
  refine V.aload_n C 0 rfl rfl dX6_init_4 ?_
  refine V.iload_n C 1 rfl rfl dX6_init_5 ?_
  refine V.iconst C (nI 0) c_0 dX6_init_6 ?_
  refine V.mmax C lX6_9 math_max1 math_ini math_max2 dX6_init_7 (Nat.le_of_ble_eq_true rfl) (Nat.le_of_ble_eq_true rfl) (Nat.le_of_ble_eq_true rfl) (Nat.le_of_ble_eq_true rfl) ?_
  rw [if_neg (show ¬ (nI 10) < (nI 0) by decide)]
  refine V.putFL C hnm hn 0 fX6_15 dX6_init_10 rfl rfl rfl (Nat.le_of_ble_eq_true rfl) ?_
  show V G X 2 0 0 13 [(0, Rf G (n + 0)), (1, .int (nI 10))] [] (pre ++ [ob 6 [.int (nI 10), .int 0, .null, .null, .null]])
  refine V.aload_n C 0 rfl rfl dX6_init_13 ?_
  refine V.aload_n C 0 rfl rfl dX6_init_14 ?_
  refine V.getL C hn 0 fX6_15 dX6_init_15 rfl rfl ?_
  refine V.newaIL C hb hn (by rw [hz1]; simp only [List.length_append, List.length_cons, List.length_nil] <;> omega) 10 dX6_init_18 (by decide) (by decide) (Nat.le_of_ble_eq_true rfl) ⟨Nat.le_of_ble_eq_true rfl, Nat.le_of_ble_eq_true rfl⟩ ?_
  show V G X 2 1 10 20 [(0, Rf G (n + 0)), (1, .int (nI 10))] [Rf G (n + 1), Rf G (n + 0)] (pre ++ [ob 6 [.int (nI 10), .int 0, .null, .null, .null], aI G 10 (fun _ => 0)])
  refine V.putFL C hnm hn 0 fX6_21 dX6_init_20 rfl rfl rfl (Nat.le_of_ble_eq_true rfl) ?_
  show V G X 2 1 10 23 [(0, Rf G (n + 0)), (1, .int (nI 10))] [] (pre ++ [ob 6 [.int (nI 10), .int 0, Rf G (n + 1), .null, .null], aI G 10 (fun _ => 0)])
  refine V.aload_n C 0 rfl rfl dX6_init_23 ?_
  refine V.aload_n C 0 rfl rfl dX6_init_24 ?_
  refine V.getL C hn 0 fX6_15 dX6_init_25 rfl rfl ?_
  refine V.iconst C (nI 2) c_2 dX6_init_28 ?_
  refine V.imul C dX6_init_29 ?_
  refine V.bipush C (nI 16) b_16 dX6_init_30 ?_
  refine V.imul C dX6_init_32 ?_
  refine V.newaIL C hb hn (by rw [hz1]; simp only [List.length_append, List.length_cons, List.length_nil] <;> omega) 320 dX6_init_33 (by decide) (by decide) (Nat.le_of_ble_eq_true rfl) ⟨Nat.le_of_ble_eq_true rfl, Nat.le_of_ble_eq_true rfl⟩ ?_
  show V G X 2 2 330 35 [(0, Rf G (n + 0)), (1, .int (nI 10))] [Rf G (n + 2), Rf G (n + 0)] (pre ++ [ob 6 [.int (nI 10), .int 0, Rf G (n + 1), .null, .null], aI G 10 (fun _ => 0), aI G 320 (fun _ => 0)])
  refine V.putFL C hnm hn 0 fX6_25 dX6_init_35 rfl rfl rfl (Nat.le_of_ble_eq_true rfl) ?_
  show V G X 2 2 330 38 [(0, Rf G (n + 0)), (1, .int (nI 10))] [] (pre ++ [ob 6 [.int (nI 10), .int 0, Rf G (n + 1), Rf G (n + 2), .null], aI G 10 (fun _ => 0), aI G 320 (fun _ => 0)])
  refine V.aload_n C 0 rfl rfl dX6_init_38 ?_
  refine V.aload_n C 0 rfl rfl dX6_init_39 ?_
  refine V.getL C hn 0 fX6_15 dX6_init_40 rfl rfl ?_
  refine V.iconst C (nI 2) c_2 dX6_init_43 ?_
  refine V.imul C dX6_init_44 ?_
  refine V.newaIL C hb hn (by rw [hz1]; simp only [List.length_append, List.length_cons, List.length_nil] <;> omega) 20 dX6_init_45 (by decide) (by decide) (Nat.le_of_ble_eq_true rfl) ⟨Nat.le_of_ble_eq_true rfl, Nat.le_of_ble_eq_true rfl⟩ ?_
  show V G X 2 3 350 47 [(0, Rf G (n + 0)), (1, .int (nI 10))] [Rf G (n + 3), Rf G (n + 0)] (pre ++ [ob 6 [.int (nI 10), .int 0, Rf G (n + 1), Rf G (n + 2), .null], aI G 10 (fun _ => 0), aI G 320 (fun _ => 0), aI G 20 (fun _ => 0)])
  refine V.putFL C hnm hn 0 fX6_28 dX6_init_47 rfl rfl rfl (Nat.le_of_ble_eq_true rfl) ?_
  show V G X 2 3 350 50 [(0, Rf G (n + 0)), (1, .int (nI 10))] [] (pre ++ [ob 6 [.int (nI 10), .int 0, Rf G (n + 1), Rf G (n + 2), Rf G (n + 3)], aI G 10 (fun _ => 0), aI G 320 (fun _ => 0), aI G 20 (fun _ => 0)])
  exact V.vret C R dX6_init_50 ⟨rfl, _, rfl, rfl⟩
set_option maxRecDepth 100000 in
set_option maxHeartbeats 4000000 in
def BSt3 (G : Gl) (n : Nat) : List va_E := [ob 6 [.int (nI 3), .int 0, Rf G (n + 1), Rf G (n + 2), Rf G (n + 3)], aI G 3 (fun _ => 0), aI G 96 (fun _ => 0), aI G 6 (fun _ => 0)]
set_option maxRecDepth 100000 in
set_option maxHeartbeats 4000000 in
theorem mk_St3 (G : Gl) (pre : List va_E) (n : Nat) (hn : pre.length = n) : CN G mX6_init [Rf G (n + 0), .int (nI 3)] pre (ob 6 [.int 0, .int 0, .null, .null, .null]) 3 105 (fun B => B = BSt3 G n) := by
  refine Ctr.of oX6_init (Nat.le_of_ble_eq_true rfl) ?_
  intro X C R hnm hz0
  have C : Cx G X cX6_init 2 RX6 1 21 3 105 := C
  have R : Cr G X none 3 105 _ := R
  have hz1 : (xS X).heap.size = G.1 + (n + 1) := by rw [hz0 rfl, List.length_append, hn]; rfl
  have hb : G.1 ≤ (xS X).heap.size := by rw [hz1]; omega
  show V G X 2 0 0 0 [(0, Rf G (n + 0)), (1, .int (nI 3))] [] (pre ++ [ob 6 [.int 0, .int 0, .null, .null, .null]])
  refine V.aload_n C 0 rfl rfl dX6_init_0 ?_
  refine V.objInit C lX6_3 objI1 objI2 dX6_init_1 (Nat.le_of_ble_eq_true rfl) (Nat.le_of_ble_eq_true rfl) ?_
  refine V.aload_n C 0 rfl rfl dX6_init_4 ?_
  refine V.iload_n C 1 rfl rfl dX6_init_5 ?_
  refine V.iconst C (nI 0) c_0 dX6_init_6 ?_
  refine V.mmax C lX6_9 math_max1 math_ini math_max2 dX6_init_7 (Nat.le_of_ble_eq_true rfl) (Nat.le_of_ble_eq_true rfl) (Nat.le_of_ble_eq_true rfl) (Nat.le_of_ble_eq_true rfl) ?_
  rw [if_neg (show ¬ (nI 3) < (nI 0) by decide)]
  refine V.putFL C hnm hn 0 fX6_15 dX6_init_10 rfl rfl rfl (Nat.le_of_ble_eq_true rfl) ?_
  show V G X 2 0 0 13 [(0, Rf G (n + 0)), (1, .int (nI 3))] [] (pre ++ [ob 6 [.int (nI 3), .int 0, .null, .null, .null]])
  refine V.aload_n C 0 rfl rfl dX6_init_13 ?_
  refine V.aload_n C 0 rfl rfl dX6_init_14 ?_
  refine V.getL C hn 0 fX6_15 dX6_init_15 rfl rfl ?_
  refine V.newaIL C hb hn (by rw [hz1]; simp only [List.length_append, List.length_cons, List.length_nil] <;> omega) 3 dX6_init_18 (by decide) (by decide) (Nat.le_of_ble_eq_true rfl) ⟨Nat.le_of_ble_eq_true rfl, Nat.le_of_ble_eq_true rfl⟩ ?_
  show V G X 2 1 3 20 [(0, Rf G (n + 0)), (1, .int (nI 3))] [Rf G (n + 1), Rf G (n + 0)] (pre ++ [ob 6 [.int (nI 3), .int 0, .null, .null, .null], aI G 3 (fun _ => 0)])
  refine V.putFL C hnm hn 0 fX6_21 dX6_init_20 rfl rfl rfl (Nat.le_of_ble_eq_true rfl) ?_
  show V G X 2 1 3 23 [(0, Rf G (n + 0)), (1, .int (nI 3))] [] (pre ++ [ob 6 [.int (nI 3), .int 0, Rf G (n + 1), .null, .null], aI G 3 (fun _ => 0)])
  refine V.aload_n C 0 rfl rfl dX6_init_23 ?_
  refine V.aload_n C 0 rfl rfl dX6_init_24 ?_
  refine V.getL C hn 0 fX6_15 dX6_init_25 rfl rfl ?_
  refine V.iconst C (nI 2) c_2 dX6_init_28 ?_
  refine V.imul C dX6_init_29 ?_
  refine V.bipush C (nI 16) b_16 dX6_init_30 ?_
  refine V.imul C dX6_init_32 ?_
  refine V.newaIL C hb hn (by rw [hz1]; simp only [List.length_append, List.length_cons, List.length_nil] <;> omega) 96 dX6_init_33 (by decide) (by decide) (Nat.le_of_ble_eq_true rfl) ⟨Nat.le_of_ble_eq_true rfl, Nat.le_of_ble_eq_true rfl⟩ ?_
  show V G X 2 2 99 35 [(0, Rf G (n + 0)), (1, .int (nI 3))] [Rf G (n + 2), Rf G (n + 0)] (pre ++ [ob 6 [.int (nI 3), .int 0, Rf G (n + 1), .null, .null], aI G 3 (fun _ => 0), aI G 96 (fun _ => 0)])
  refine V.putFL C hnm hn 0 fX6_25 dX6_init_35 rfl rfl rfl (Nat.le_of_ble_eq_true rfl) ?_
  show V G X 2 2 99 38 [(0, Rf G (n + 0)), (1, .int (nI 3))] [] (pre ++ [ob 6 [.int (nI 3), .int 0, Rf G (n + 1), Rf G (n + 2), .null], aI G 3 (fun _ => 0), aI G 96 (fun _ => 0)])
  refine V.aload_n C 0 rfl rfl dX6_init_38 ?_
  refine V.aload_n C 0 rfl rfl dX6_init_39 ?_
  refine V.getL C hn 0 fX6_15 dX6_init_40 rfl rfl ?_
  refine V.iconst C (nI 2) c_2 dX6_init_43 ?_
  refine V.imul C dX6_init_44 ?_
  refine V.newaIL C hb hn (by rw [hz1]; simp only [List.length_append, List.length_cons, List.length_nil] <;> omega) 6 dX6_init_45 (by decide) (by decide) (Nat.le_of_ble_eq_true rfl) ⟨Nat.le_of_ble_eq_true rfl, Nat.le_of_ble_eq_true rfl⟩ ?_
  show V G X 2 3 105 47 [(0, Rf G (n + 0)), (1, .int (nI 3))] [Rf G (n + 3), Rf G (n + 0)] (pre ++ [ob 6 [.int (nI 3), .int 0, Rf G (n + 1), Rf G (n + 2), .null], aI G 3 (fun _ => 0), aI G 96 (fun _ => 0), aI G 6 (fun _ => 0)])
  refine V.putFL C hnm hn 0 fX6_28 dX6_init_47 rfl rfl rfl (Nat.le_of_ble_eq_true rfl) ?_
  show V G X 2 3 105 50 [(0, Rf G (n + 0)), (1, .int (nI 3))] [] (pre ++ [ob 6 [.int (nI 3), .int 0, Rf G (n + 1), Rf G (n + 2), Rf G (n + 3)], aI G 3 (fun _ => 0), aI G 96 (fun _ => 0), aI G 6 (fun _ => 0)])
  exact V.vret C R dX6_init_50 ⟨rfl, _, rfl, rfl⟩
set_option maxRecDepth 100000 in
set_option maxHeartbeats 4000000 in
def BCu (G : Gl) (n : Nat) : List va_E := [ob 1 [Rf G (n + 1)], aI G 8 (fun _ => 0)]
set_option maxRecDepth 100000 in
set_option maxHeartbeats 4000000 in
theorem mk_Cuts (G : Gl) (pre : List va_E) (n : Nat) (hn : pre.length = n) : CN G mX1_init [Rf G (n + 0)] pre (ob 1 [.null]) 1 8 (fun B => B = BCu G n) := by
  refine Ctr.of oX1_init (Nat.le_of_ble_eq_true rfl) ?_
  intro X C R hnm hz0
  have C : Cx G X cX1_init 1 RX1 1 20 1 8 := C
  have R : Cr G X none 1 8 _ := R
  have hz1 : (xS X).heap.size = G.1 + (n + 1) := by rw [hz0 rfl, List.length_append, hn]; rfl
  have hb : G.1 ≤ (xS X).heap.size := by rw [hz1]; omega
  show V G X 1 0 0 0 [(0, Rf G (n + 0))] [] (pre ++ [ob 1 [.null]])
  refine V.aload_n C 0 rfl rfl dX1_init_0 ?_
  refine V.objInit C lX1_3 objI1 objI2 dX1_init_1 (Nat.le_of_ble_eq_true rfl) (Nat.le_of_ble_eq_true rfl) ?_
  refine V.aload_n C 0 rfl rfl dX1_init_4 ?_
  refine V.bipush C (nI 8) b_8 dX1_init_5 ?_
  refine V.newaIL C hb hn (by rw [hz1]; simp only [List.length_append, List.length_cons, List.length_nil] <;> omega) 8 dX1_init_7 (by decide) (by decide) (Nat.le_of_ble_eq_true rfl) ⟨Nat.le_of_ble_eq_true rfl, Nat.le_of_ble_eq_true rfl⟩ ?_
  show V G X 1 1 8 9 [(0, Rf G (n + 0))] [Rf G (n + 1), Rf G (n + 0)] (pre ++ [ob 1 [.null], aI G 8 (fun _ => 0)])
  refine V.putFL C hnm hn 0 fX1_9 dX1_init_9 rfl rfl rfl (Nat.le_of_ble_eq_true rfl) ?_
  show V G X 1 1 8 12 [(0, Rf G (n + 0))] [] (pre ++ [ob 1 [Rf G (n + 1)], aI G 8 (fun _ => 0)])
  exact V.vret C R dX1_init_12 ⟨rfl, _, rfl, rfl⟩
set_option maxRecDepth 100000 in
set_option maxHeartbeats 4000000 in
def BMo (G : Gl) (n : Nat) : List va_E := [ob 3 [Rf G (n + 1), Rf G (n + 2), .int 0, Rf G (n + 3), .int 0], aL G 128 (fun _ => 0), aI G 128 (fun _ => 0), aI G 3 (fun _ => 0)]
set_option maxRecDepth 100000 in
set_option maxHeartbeats 4000000 in
theorem mk_Model (G : Gl) (pre : List va_E) (n : Nat) (hn : pre.length = n) : CN G mX3_init [Rf G (n + 0)] pre (ob 3 [.null, .null, .int 0, .null, .int 0]) 3 259 (fun B => B = BMo G n) := by
  refine Ctr.of oX3_init (Nat.le_of_ble_eq_true rfl) ?_
  intro X C R hnm hz0
  have C : Cx G X cX3_init 1 RX3 1 20 3 259 := C
  have R : Cr G X none 3 259 _ := R
  have hz1 : (xS X).heap.size = G.1 + (n + 1) := by rw [hz0 rfl, List.length_append, hn]; rfl
  have hb : G.1 ≤ (xS X).heap.size := by rw [hz1]; omega
  show V G X 1 0 0 0 [(0, Rf G (n + 0))] [] (pre ++ [ob 3 [.null, .null, .int 0, .null, .int 0]])
  refine V.aload_n C 0 rfl rfl dX3_init_0 ?_
  refine V.objInit C lX3_3 objI1 objI2 dX3_init_1 (Nat.le_of_ble_eq_true rfl) (Nat.le_of_ble_eq_true rfl) ?_
  refine V.aload_n C 0 rfl rfl dX3_init_4 ?_
  refine V.sipush C (nI 128) s_128 dX3_init_5 ?_
  refine V.newaLL C hb hn (by rw [hz1]; simp only [List.length_append, List.length_cons, List.length_nil] <;> omega) 128 dX3_init_8 (by decide) (by decide) (Nat.le_of_ble_eq_true rfl) ⟨Nat.le_of_ble_eq_true rfl, Nat.le_of_ble_eq_true rfl⟩ ?_
  show V G X 1 1 128 10 [(0, Rf G (n + 0))] [Rf G (n + 1), Rf G (n + 0)] (pre ++ [ob 3 [.null, .null, .int 0, .null, .int 0], aL G 128 (fun _ => 0)])
  refine V.putFL C hnm hn 0 fX3_9 dX3_init_10 rfl rfl rfl (Nat.le_of_ble_eq_true rfl) ?_
  show V G X 1 1 128 13 [(0, Rf G (n + 0))] [] (pre ++ [ob 3 [Rf G (n + 1), .null, .int 0, .null, .int 0], aL G 128 (fun _ => 0)])
  refine V.aload_n C 0 rfl rfl dX3_init_13 ?_
  refine V.sipush C (nI 128) s_128 dX3_init_14 ?_
  refine V.newaIL C hb hn (by rw [hz1]; simp only [List.length_append, List.length_cons, List.length_nil] <;> omega) 128 dX3_init_17 (by decide) (by decide) (Nat.le_of_ble_eq_true rfl) ⟨Nat.le_of_ble_eq_true rfl, Nat.le_of_ble_eq_true rfl⟩ ?_
  show V G X 1 2 256 19 [(0, Rf G (n + 0))] [Rf G (n + 2), Rf G (n + 0)] (pre ++ [ob 3 [Rf G (n + 1), .null, .int 0, .null, .int 0], aL G 128 (fun _ => 0), aI G 128 (fun _ => 0)])
  refine V.putFL C hnm hn 0 fX3_15 dX3_init_19 rfl rfl rfl (Nat.le_of_ble_eq_true rfl) ?_
  show V G X 1 2 256 22 [(0, Rf G (n + 0))] [] (pre ++ [ob 3 [Rf G (n + 1), Rf G (n + 2), .int 0, .null, .int 0], aL G 128 (fun _ => 0), aI G 128 (fun _ => 0)])
  refine V.aload_n C 0 rfl rfl dX3_init_22 ?_
  refine V.iconst C (nI 3) c_3 dX3_init_23 ?_
  refine V.newaIL C hb hn (by rw [hz1]; simp only [List.length_append, List.length_cons, List.length_nil] <;> omega) 3 dX3_init_24 (by decide) (by decide) (Nat.le_of_ble_eq_true rfl) ⟨Nat.le_of_ble_eq_true rfl, Nat.le_of_ble_eq_true rfl⟩ ?_
  show V G X 1 3 259 26 [(0, Rf G (n + 0))] [Rf G (n + 3), Rf G (n + 0)] (pre ++ [ob 3 [Rf G (n + 1), Rf G (n + 2), .int 0, .null, .int 0], aL G 128 (fun _ => 0), aI G 128 (fun _ => 0), aI G 3 (fun _ => 0)])
  refine V.putFL C hnm hn 0 fX3_19 dX3_init_26 rfl rfl rfl (Nat.le_of_ble_eq_true rfl) ?_
  show V G X 1 3 259 29 [(0, Rf G (n + 0))] [] (pre ++ [ob 3 [Rf G (n + 1), Rf G (n + 2), .int 0, Rf G (n + 3), .int 0], aL G 128 (fun _ => 0), aI G 128 (fun _ => 0), aI G 3 (fun _ => 0)])
  exact V.vret C R dX3_init_29 ⟨rfl, _, rfl, rfl⟩
set_option maxRecDepth 100000 in
set_option maxHeartbeats 4000000 in
def BPb (G : Gl) (n : Nat) : List va_E := [ob 4 [Rf G (n + 1), Rf G (n + 2), Rf G (n + 6)], aI G 8 (fun _ => 0), ob 6 [.int (nI 10), .int 0, Rf G (n + 3), Rf G (n + 4), Rf G (n + 5)], aI G 10 (fun _ => 0), aI G 320 (fun _ => 0), aI G 20 (fun _ => 0), ob 6 [.int (nI 3), .int 0, Rf G (n + 7), Rf G (n + 8), Rf G (n + 9)], aI G 3 (fun _ => 0), aI G 96 (fun _ => 0), aI G 6 (fun _ => 0)]
set_option maxRecDepth 100000 in
set_option maxHeartbeats 4000000 in
theorem mk_Problem (G : Gl) (pre : List va_E) (n : Nat) (hn : pre.length = n) : CN G mX4_init [Rf G (n + 0)] pre (ob 4 [.null, .null, .null]) 9 473 (fun B => B = BPb G n) := by
  refine Ctr.of oX4_init (Nat.le_of_ble_eq_true rfl) ?_
  intro X C R hnm hz0
  have C : Cx G X cX4_init 1 RX4 2 42 9 473 := C
  have R : Cr G X none 9 473 _ := R
  have hz1 : (xS X).heap.size = G.1 + (n + 1) := by rw [hz0 rfl, List.length_append, hn]; rfl
  have hb : G.1 ≤ (xS X).heap.size := by rw [hz1]; omega
  show V G X 1 0 0 0 [(0, Rf G (n + 0))] [] (pre ++ [ob 4 [.null, .null, .null]])
  refine V.aload_n C 0 rfl rfl dX4_init_0 ?_
  refine V.objInit C lX4_3 objI1 objI2 dX4_init_1 (Nat.le_of_ble_eq_true rfl) (Nat.le_of_ble_eq_true rfl) ?_
  refine V.aload_n C 0 rfl rfl dX4_init_4 ?_
  refine V.bipush C (nI 8) b_8 dX4_init_5 ?_
  refine V.newaIL C hb hn (by rw [hz1]; simp only [List.length_append, List.length_cons, List.length_nil] <;> omega) 8 dX4_init_7 (by decide) (by decide) (Nat.le_of_ble_eq_true rfl) ⟨Nat.le_of_ble_eq_true rfl, Nat.le_of_ble_eq_true rfl⟩ ?_
  show V G X 1 1 8 9 [(0, Rf G (n + 0))] [Rf G (n + 1), Rf G (n + 0)] (pre ++ [ob 4 [.null, .null, .null], aI G 8 (fun _ => 0)])
  refine V.putFL C hnm hn 0 fX4_9 dX4_init_9 rfl rfl rfl (Nat.le_of_ble_eq_true rfl) ?_
  show V G X 1 1 8 12 [(0, Rf G (n + 0))] [] (pre ++ [ob 4 [Rf G (n + 1), .null, .null], aI G 8 (fun _ => 0)])
  refine V.aload_n C 0 rfl rfl dX4_init_12 ?_
  refine V.newL C hb hn (by rw [hz1]; simp only [List.length_append, List.length_cons, List.length_nil] <;> omega) kX4_15 dX4_init_13 ⟨Nat.le_of_ble_eq_true rfl, Nat.le_of_ble_eq_true rfl⟩ ?_
  show V G X 1 2 13 16 [(0, Rf G (n + 0))] [Rf G (n + 2), Rf G (n + 0)] (pre ++ [ob 4 [Rf G (n + 1), .null, .null], aI G 8 (fun _ => 0), ob 6 [.int 0, .int 0, .null, .null, .null]])
  refine V.dup C rfl dX4_init_16 ?_
  refine V.bipush C (nI 10) b_10 dX4_init_17 ?_
  refine V.iniI (L := [ob 4 [Rf G (n + 1), .null, .null], aI G 8 (fun _ => 0)]) C hn (by rw [hz1]; simp only [List.length_append, List.length_cons, List.length_nil] <;> omega) lX4_17 oX6_init rfl dX4_init_19 (mk_St10 G (pre ++ [ob 4 [Rf G (n + 1), .null, .null], aI G 8 (fun _ => 0)]) (n + 2) (by rw [List.length_append, hn]; rfl)) rfl rfl (Nat.le_of_ble_eq_true rfl) ⟨Nat.le_of_ble_eq_true rfl, Nat.le_of_ble_eq_true rfl⟩ ⟨Nat.le_of_ble_eq_true rfl, Nat.le_of_ble_eq_true rfl⟩ (fun B hB => ?_)
  subst hB
  show V G X 1 5 363 22 [(0, Rf G (n + 0))] [Rf G (n + 2), Rf G (n + 0)] (pre ++ [ob 4 [Rf G (n + 1), .null, .null], aI G 8 (fun _ => 0), ob 6 [.int (nI 10), .int 0, Rf G (n + 3), Rf G (n + 4), Rf G (n + 5)], aI G 10 (fun _ => 0), aI G 320 (fun _ => 0), aI G 20 (fun _ => 0)])
  refine V.putFL C hnm hn 0 fX4_20 dX4_init_22 rfl rfl rfl (Nat.le_of_ble_eq_true rfl) ?_
  show V G X 1 5 363 25 [(0, Rf G (n + 0))] [] (pre ++ [ob 4 [Rf G (n + 1), Rf G (n + 2), .null], aI G 8 (fun _ => 0), ob 6 [.int (nI 10), .int 0, Rf G (n + 3), Rf G (n + 4), Rf G (n + 5)], aI G 10 (fun _ => 0), aI G 320 (fun _ => 0), aI G 20 (fun _ => 0)])
  refine V.aload_n C 0 rfl rfl dX4_init_25 ?_
  refine V.newL C hb hn (by rw [hz1]; simp only [List.length_append, List.length_cons, List.length_nil] <;> omega) kX4_15 dX4_init_26 ⟨Nat.le_of_ble_eq_true rfl, Nat.le_of_ble_eq_true rfl⟩ ?_
  show V G X 1 6 368 29 [(0, Rf G (n + 0))] [Rf G (n + 6), Rf G (n + 0)] (pre ++ [ob 4 [Rf G (n + 1), Rf G (n + 2), .null], aI G 8 (fun _ => 0), ob 6 [.int (nI 10), .int 0, Rf G (n + 3), Rf G (n + 4), Rf G (n + 5)], aI G 10 (fun _ => 0), aI G 320 (fun _ => 0), aI G 20 (fun _ => 0), ob 6 [.int 0, .int 0, .null, .null, .null]])
  refine V.dup C rfl dX4_init_29 ?_
  refine V.iconst C (nI 3) c_3 dX4_init_30 ?_
  refine V.iniI (L := [ob 4 [Rf G (n + 1), Rf G (n + 2), .null], aI G 8 (fun _ => 0), ob 6 [.int (nI 10), .int 0, Rf G (n + 3), Rf G (n + 4), Rf G (n + 5)], aI G 10 (fun _ => 0), aI G 320 (fun _ => 0), aI G 20 (fun _ => 0)]) C hn (by rw [hz1]; simp only [List.length_append, List.length_cons, List.length_nil] <;> omega) lX4_17 oX6_init rfl dX4_init_31 (mk_St3 G (pre ++ [ob 4 [Rf G (n + 1), Rf G (n + 2), .null], aI G 8 (fun _ => 0), ob 6 [.int (nI 10), .int 0, Rf G (n + 3), Rf G (n + 4), Rf G (n + 5)], aI G 10 (fun _ => 0), aI G 320 (fun _ => 0), aI G 20 (fun _ => 0)]) (n + 6) (by rw [List.length_append, hn]; rfl)) rfl rfl (Nat.le_of_ble_eq_true rfl) ⟨Nat.le_of_ble_eq_true rfl, Nat.le_of_ble_eq_true rfl⟩ ⟨Nat.le_of_ble_eq_true rfl, Nat.le_of_ble_eq_true rfl⟩ (fun B hB => ?_)
  subst hB
  show V G X 1 9 473 34 [(0, Rf G (n + 0))] [Rf G (n + 6), Rf G (n + 0)] (pre ++ [ob 4 [Rf G (n + 1), Rf G (n + 2), .null], aI G 8 (fun _ => 0), ob 6 [.int (nI 10), .int 0, Rf G (n + 3), Rf G (n + 4), Rf G (n + 5)], aI G 10 (fun _ => 0), aI G 320 (fun _ => 0), aI G 20 (fun _ => 0), ob 6 [.int (nI 3), .int 0, Rf G (n + 7), Rf G (n + 8), Rf G (n + 9)], aI G 3 (fun _ => 0), aI G 96 (fun _ => 0), aI G 6 (fun _ => 0)])
  refine V.putFL C hnm hn 0 fX4_24 dX4_init_34 rfl rfl rfl (Nat.le_of_ble_eq_true rfl) ?_
  show V G X 1 9 473 37 [(0, Rf G (n + 0))] [] (pre ++ [ob 4 [Rf G (n + 1), Rf G (n + 2), Rf G (n + 6)], aI G 8 (fun _ => 0), ob 6 [.int (nI 10), .int 0, Rf G (n + 3), Rf G (n + 4), Rf G (n + 5)], aI G 10 (fun _ => 0), aI G 320 (fun _ => 0), aI G 20 (fun _ => 0), ob 6 [.int (nI 3), .int 0, Rf G (n + 7), Rf G (n + 8), Rf G (n + 9)], aI G 3 (fun _ => 0), aI G 96 (fun _ => 0), aI G 6 (fun _ => 0)])
  exact V.vret C R dX4_init_37 ⟨rfl, _, rfl, rfl⟩
