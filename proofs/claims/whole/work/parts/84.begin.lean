/-! The law: its beginning. -/
theorem b_30 (G : Gl) (f0 g0 f1 g1 : Nat → Int32) : (BSo G 0 f0 g0 f1 g1)[30]? = some (aP G 6 (va_up (va_up (va_up (va_up (va_up (va_up (fun _ => none) 0 (some (0 + 31))) 1 (some (0 + 41))) 2 (some (0 + 51))) 3 (some (0 + 61))) 4 (some (0 + 71))) 5 (some (0 + 81)))) := rfl
theorem b_len (G : Gl) (f0 g0 f1 g1 : Nat → Int32) : (BSo G 0 f0 g0 f1 g1).length = 123 := rfl
theorem b_up : ∀ j, j < 6 → ((va_up (va_up (va_up (va_up (va_up (va_up (fun _ => none) 0 (some (0 + 31))) 1 (some (0 + 41))) 2 (some (0 + 51))) 3 (some (0 + 61))) 4 (some (0 + 71))) 5 (some (0 + 81))) : Nat → Option Nat) j = (fun j => some (31 + 10 * j)) j := by decide +kernel
set_option maxRecDepth 100000 in
set_option maxHeartbeats 1000000 in
theorem begin_3 (G : Gl) (X : Cx0) (C : Cx G X cL_law 4 "SliceSolverLaw" 13 478 600000 7302250) (b L : Nat) (xs : Nat → Int32) (hX : va_X b L xs (xS X) (xS X).heap) (hbl : b < (xS X).heap.size) (hG : G.1 = (xS X).heap.size) (hL : L ≤ 2560) (E : ∀ (H : Heap) (ls : Array Slot), W X.1 X.2.1 X.2.2.1 (xR X) (xS X) (xM X) (xA X) (xB X) (xMe X) (xC X) H [] 600000 7302250 (xQ X) (F0 (xM X) 724 ls [.int (nI 1)])) (f0 g0 f1 g1 : Nat → Int32) (hf0 : ∀ j, j < 128 → f0 j = nI j ∧ g0 j = -1) : V G X 4 136 11551 16 [(0, .ref b), (1, Rf G 0), (2, Rf G 123)] [] (BSo G 0 f0 g0 f1 g1 ++ BRf G 123) := by
  refine V.iconst C (nI 0) c_0 dL_law_16 ?_
  refine V.istore_n C 3 dL_law_17 rfl (by decide) ?_
  refine V.lvs (lv' := [(0, .ref b), (1, Rf G 0), (2, Rf G 123), (3, .int (nI 0))]) rfl ?_
  have h30 : (BSo G 0 f0 g0 f1 g1 ++ BRf G 123)[30]? = some (aP G 6 (va_up (va_up (va_up (va_up (va_up (va_up (fun _ => none) 0 (some (0 + 31))) 1 (some (0 + 41))) 2 (some (0 + 51))) 3 (some (0 + 61))) 4 (some (0 + 71))) 5 (some (0 + 81)))) := by
    rw [List.getElem?_append_left (by rw [b_len]; decide)]; exact b_30 G f0 g0 f1 g1
  refine V.paP h30 b_up ?_
  rw [List.set_append_left _ _ (by rw [b_len]; decide)]
  have e : (BSo G 0 f0 g0 f1 g1).set 30 (aP G 6 (fun j => some (31 + 10 * j))) ++ BRf G 123 = wld G (s0 f0 g0 f1 g1) := w0_eq G f0 g0 f1 g1
  rw [e]
  exact law_loop G X C b L xs hX hbl hG hL E (L + 6) 0 _ (by omega) (by omega) (InvL0 hf0)
set_option maxRecDepth 100000 in
set_option maxHeartbeats 1000000 in
theorem begin_2 (G : Gl) (X : Cx0) (C : Cx G X cL_law 4 "SliceSolverLaw" 13 478 600000 7302250) (b : Nat) (hG : G.1 = (xS X).heap.size) (pre : List va_E) (hlen : pre.length = 123) (go : V G X 4 136 11551 16 [(0, .ref b), (1, Rf G 0), (2, Rf G 123)] [] (pre ++ BRf G 123)) : V G X 4 123 6402 8 [(0, .ref b), (1, Rf G 0)] [] pre := by
  refine V.new C (by omega) (by rw [hlen]; omega) kL_10 dL_law_8 ⟨Nat.le_of_ble_eq_true rfl, Nat.le_of_ble_eq_true rfl⟩ ?_
  rw [hlen]
  refine V.dup C rfl dL_law_11 ?_
  refine V.iniI (pre := pre) (n := 123) (L := []) C hlen (by show (xS X).heap.size + 124 = G.1 + (123 + (0 + 1)); omega) lL_12 oX10_init rfl dL_law_12 (mk_Ref G (pre ++ []) 123 (by rw [List.append_nil]; exact hlen)) rfl rfl (Nat.le_of_ble_eq_true rfl) ⟨Nat.le_of_ble_eq_true rfl, Nat.le_of_ble_eq_true rfl⟩ ⟨Nat.le_of_ble_eq_true rfl, Nat.le_of_ble_eq_true rfl⟩ (fun B hB => ?_)
  subst hB
  refine V.astore_n C 2 dL_law_15 rfl (by decide) ?_
  refine V.lvs (lv' := [(0, .ref b), (1, Rf G 0), (2, Rf G 123)]) rfl ?_
  exact go
set_option maxRecDepth 100000 in
set_option maxHeartbeats 1000000 in
theorem begin_1 (G : Gl) (X : Cx0) (C : Cx G X cL_law 4 "SliceSolverLaw" 13 478 600000 7302250) (b : Nat) (hG : G.1 = (xS X).heap.size) (go : ∀ f0 g0 f1 g1 : Nat → Int32, (∀ j, j < 128 → f0 j = nI j ∧ g0 j = -1) → V G X 4 123 6402 8 [(0, .ref b), (1, Rf G 0)] [] (BSo G 0 f0 g0 f1 g1)) : V G X 4 0 0 0 [(0, .ref b)] [] [] := by
  refine V.new C (by omega) (by show (xS X).heap.size + 0 = G.1 + 0; omega) kL_7 dL_law_0 ⟨Nat.le_of_ble_eq_true rfl, Nat.le_of_ble_eq_true rfl⟩ ?_
  refine V.dup C rfl dL_law_3 ?_
  refine V.iniI (pre := []) (n := 0) (L := []) C rfl (by show (xS X).heap.size + 1 = G.1 + (0 + (0 + 1)); omega) lL_9 oX9_init rfl dL_law_4 (mk_Solver G ([] ++ []) 0 rfl) rfl rfl (Nat.le_of_ble_eq_true rfl) ⟨Nat.le_of_ble_eq_true rfl, Nat.le_of_ble_eq_true rfl⟩ ⟨Nat.le_of_ble_eq_true rfl, Nat.le_of_ble_eq_true rfl⟩ (fun B hB => ?_)
  obtain ⟨f0, g0, f1, g1, hf0, hf1, rfl⟩ := hB
  refine V.astore_n C 1 dL_law_7 rfl (by decide) ?_
  refine V.lvs (lv' := [(0, .ref b), (1, Rf G 0)]) rfl ?_
  exact go f0 g0 f1 g1 hf0
theorem law_begin (G : Gl) (X : Cx0) (C : Cx G X cL_law 4 "SliceSolverLaw" 13 478 600000 7302250) (b L : Nat) (xs : Nat → Int32) (hX : va_X b L xs (xS X) (xS X).heap) (hbl : b < (xS X).heap.size) (hG : G.1 = (xS X).heap.size) (hL : L ≤ 2560) (E : ∀ (H : Heap) (ls : Array Slot), W X.1 X.2.1 X.2.2.1 (xR X) (xS X) (xM X) (xA X) (xB X) (xMe X) (xC X) H [] 600000 7302250 (xQ X) (F0 (xM X) 724 ls [.int (nI 1)])) : V G X 4 0 0 0 [(0, .ref b)] [] [] :=
  begin_1 G X C b hG (fun f0 g0 f1 g1 hf0 => begin_2 G X C b hG _ (b_len G f0 g0 f1 g1) (begin_3 G X C b L xs hX hbl hG hL E f0 g0 f1 g1 hf0))
