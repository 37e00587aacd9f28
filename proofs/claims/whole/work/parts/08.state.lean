/-! The state over a fixed skeleton of cells: numbers of fields, of int arrays, of long arrays, which problem stands where in the history. S 0, text 1, reader 6, term 7, problem 9, draft 19, history 29, saved 30, s1 91, s2 101, cuts 111, classes 113, trial 116, model 119, M 123 -/
abbrev SS : Type := (Nat → Nat → Int32) × (Nat → Nat → Int32) × (Nat → Nat → Int64) × (Nat → Nat)
abbrev Sk : Type := (Nat × Nat) ⊕ (Nat × List (Option Nat))
def skL : List Sk := [.inr (9, [some 1, some 6, some 9, some 19, some 29, some 91, some 101, none, some 111, some 113, some 116, some 119, none]), .inr (8, [some 2, none, some 3, some 4, some 5, none, none]), .inl (3, 200), .inl (0, 200), .inl (0, 200), .inl (0, 200), .inr (5, [some 1, some 7, none, none]), .inr (7, [some 8, none, none]), .inl (0, 16), .inr (4, [some 10, some 11, some 15]), .inl (0, 8), .inr (6, [none, none, some 12, some 13, some 14]), .inl (0, 10), .inl (0, 320), .inl (0, 20), .inr (6, [none, none, some 16, some 17, some 18]), .inl (0, 3), .inl (0, 96), .inl (0, 6), .inr (4, [some 20, some 21, some 25]), .inl (0, 8), .inr (6, [none, none, some 22, some 23, some 24]), .inl (0, 10), .inl (0, 320), .inl (0, 20), .inr (6, [none, none, some 26, some 27, some 28]), .inl (0, 3), .inl (0, 96), .inl (0, 6), .inr (2, [some 30, none]), .inl (4, 6), .inr (4, [some 32, some 33, some 37]), .inl (0, 8), .inr (6, [none, none, some 34, some 35, some 36]), .inl (0, 10), .inl (0, 320), .inl (0, 20), .inr (6, [none, none, some 38, some 39, some 40]), .inl (0, 3), .inl (0, 96), .inl (0, 6), .inr (4, [some 42, some 43, some 47]), .inl (0, 8), .inr (6, [none, none, some 44, some 45, some 46]), .inl (0, 10), .inl (0, 320), .inl (0, 20), .inr (6, [none, none, some 48, some 49, some 50]), .inl (0, 3), .inl (0, 96), .inl (0, 6), .inr (4, [some 52, some 53, some 57]), .inl (0, 8), .inr (6, [none, none, some 54, some 55, some 56]), .inl (0, 10), .inl (0, 320), .inl (0, 20), .inr (6, [none, none, some 58, some 59, some 60]), .inl (0, 3), .inl (0, 96), .inl (0, 6), .inr (4, [some 62, some 63, some 67]), .inl (0, 8), .inr (6, [none, none, some 64, some 65, some 66]), .inl (0, 10), .inl (0, 320), .inl (0, 20), .inr (6, [none, none, some 68, some 69, some 70]), .inl (0, 3), .inl (0, 96), .inl (0, 6), .inr (4, [some 72, some 73, some 77]), .inl (0, 8), .inr (6, [none, none, some 74, some 75, some 76]), .inl (0, 10), .inl (0, 320), .inl (0, 20), .inr (6, [none, none, some 78, some 79, some 80]), .inl (0, 3), .inl (0, 96), .inl (0, 6), .inr (4, [some 82, some 83, some 87]), .inl (0, 8), .inr (6, [none, none, some 84, some 85, some 86]), .inl (0, 10), .inl (0, 320), .inl (0, 20), .inr (6, [none, none, some 88, some 89, some 90]), .inl (0, 3), .inl (0, 96), .inl (0, 6), .inr (4, [some 92, some 93, some 97]), .inl (0, 8), .inr (6, [none, none, some 94, some 95, some 96]), .inl (0, 10), .inl (0, 320), .inl (0, 20), .inr (6, [none, none, some 98, some 99, some 100]), .inl (0, 3), .inl (0, 96), .inl (0, 6), .inr (4, [some 102, some 103, some 107]), .inl (0, 8), .inr (6, [none, none, some 104, some 105, some 106]), .inl (0, 10), .inl (0, 320), .inl (0, 20), .inr (6, [none, none, some 108, some 109, some 110]), .inl (0, 3), .inl (0, 96), .inl (0, 6), .inr (1, [some 112]), .inl (0, 8), .inr (0, [some 114, some 115, none]), .inl (0, 128), .inl (0, 128), .inr (0, [some 117, some 118, none]), .inl (0, 128), .inl (0, 128), .inr (3, [some 120, some 121, none, some 122, none]), .inl (1, 128), .inl (0, 128), .inl (0, 3), .inr (10, [none, some 124, some 125, some 126, none, some 127, some 128, some 129, none, none, none, none, none, none, some 130, none, none, some 131, none, some 132, some 133, none, some 134, none, some 135, none]), .inl (0, 439), .inl (0, 439), .inl (0, 2634), .inl (0, 878), .inl (2, 2), .inl (0, 200), .inl (0, 16), .inl (2, 128), .inl (0, 128), .inl (0, 128), .inl (0, 3), .inl (0, 128)]
def sk (k : Nat) : Option Sk := skL[k]?
def fv (G : Gl) (σ : SS) (k j : Nat) (r : Option Nat) : Value := match r with
  | none => .int (σ.1 k j)
  | some t => Rf G t
def cellOf (G : Gl) (σ : SS) (k : Nat) (s : Sk) : va_E := match s with
  | .inl (0, n) => aI G n (σ.2.1 k)
  | .inl (1, n) => aL G n (σ.2.2.1 k)
  | .inl (2, n) => aZ G n (σ.2.1 k)
  | .inl (3, n) => aC G n (σ.2.1 k)
  | .inl (_ + 4, n) => aP G n (fun j => some (σ.2.2.2 j))
  | .inr (ci, fs) => ob ci (fs.mapIdx (fun j r => fv G σ k j r))
def wld (G : Gl) (σ : SS) : List va_E := skL.mapIdx (fun k s => cellOf G σ k s)
theorem wld_get (G : Gl) (σ : SS) (k : Nat) : (wld G σ)[k]? = (sk k).map (cellOf G σ k) := by unfold wld sk; rw [List.getElem?_mapIdx]
theorem wld_at {G : Gl} {σ : SS} {k : Nat} {s : Sk} (h : sk k = some s) : (wld G σ)[k]? = some (cellOf G σ k s) := by rw [wld_get, h]; rfl
theorem wld_len (G : Gl) (σ : SS) : (wld G σ).length = 136 := by unfold wld; rw [List.length_mapIdx]; rfl
def sF (σ : SS) (k j : Nat) (v : Int32) : SS := (va_up σ.1 k (va_up (σ.1 k) j v), σ.2.1, σ.2.2.1, σ.2.2.2)
def sA (σ : SS) (k : Nat) (f : Nat → Int32) : SS := (σ.1, va_up σ.2.1 k f, σ.2.2.1, σ.2.2.2)
def sL (σ : SS) (k : Nat) (f : Nat → Int64) : SS := (σ.1, σ.2.1, va_up σ.2.2.1 k f, σ.2.2.2)
def sP (σ : SS) (f : Nat → Nat) : SS := (σ.1, σ.2.1, σ.2.2.1, f)
theorem wld_set {G : Gl} {σ σ' : SS} {k : Nat} {s : Sk} {e : va_E} (h : sk k = some s) (he : cellOf G σ' k s = e) (ho : ∀ j s', j ≠ k → sk j = some s' → cellOf G σ' j s' = cellOf G σ j s') : (wld G σ).set k e = wld G σ' := by
  apply List.ext_getElem?
  intro j
  rw [List.getElem?_set]
  by_cases hj : k = j
  · subst hj
    rw [if_pos rfl, if_pos (by have := List.getElem?_eq_some_iff.mp (wld_at (G := G) (σ := σ) h); exact this.1), wld_at h, he]
  · rw [if_neg hj, wld_get, wld_get]
    cases hs : sk j with
    | none => rfl
    | some s' => simp only [Option.map_some]; rw [ho j s' (fun e => hj e.symm) hs]
theorem cellOf_F {G : Gl} {σ σ' : SS} {j : Nat} {s : Sk} (h1 : σ'.1 j = σ.1 j) (h2 : σ'.2.1 j = σ.2.1 j) (h3 : σ'.2.2.1 j = σ.2.2.1 j) (h4 : σ'.2.2.2 = σ.2.2.2) : cellOf G σ' j s = cellOf G σ j s := by
  unfold cellOf fv
  rw [h1, h2, h3, h4]
theorem wld_sF {G : Gl} {σ : SS} {k j ci : Nat} {fs : List (Option Nat)} {v : Int32} (h : sk k = some (.inr (ci, fs))) (hj : fs[j]? = some none) : (wld G σ).set k (ob ci ((fs.mapIdx (fun j r => fv G σ k j r)).set j (.int v))) = wld G (sF σ k j v) := by
  refine wld_set h ?_ (fun i s' hi hs => cellOf_F (by simp [sF, va_up, hi]) rfl rfl rfl)
  show ob ci (fs.mapIdx (fun i r => fv G (sF σ k j v) k i r)) = _
  congr 1
  apply List.ext_getElem?
  intro i
  rw [List.getElem?_set, List.getElem?_mapIdx, List.getElem?_mapIdx]
  by_cases hi : j = i
  · subst hi
    rw [if_pos rfl, if_pos (by rw [List.length_mapIdx]; exact (List.getElem?_eq_some_iff.mp hj).1), hj]
    simp [fv, sF, va_up]
  · rw [if_neg hi]
    cases fs[i]? with
    | none => rfl
    | some r => cases r <;> simp [fv, sF, va_up, Ne.symm hi]
theorem wld_sAI {G : Gl} {σ : SS} {k n : Nat} {f : Nat → Int32} (h : sk k = some (.inl (0, n))) : (wld G σ).set k (aI G n f) = wld G (sA σ k f) := wld_set h (by simp [cellOf, sA, va_up]) (fun i s' hi hs => cellOf_F rfl (by simp [sA, va_up, hi]) rfl rfl)
theorem wld_sAZ {G : Gl} {σ : SS} {k n : Nat} {f : Nat → Int32} (h : sk k = some (.inl (2, n))) : (wld G σ).set k (aZ G n f) = wld G (sA σ k f) := wld_set h (by simp [cellOf, sA, va_up]) (fun i s' hi hs => cellOf_F rfl (by simp [sA, va_up, hi]) rfl rfl)
theorem wld_sAC {G : Gl} {σ : SS} {k n : Nat} {f : Nat → Int32} (h : sk k = some (.inl (3, n))) : (wld G σ).set k (aC G n f) = wld G (sA σ k f) := wld_set h (by simp [cellOf, sA, va_up]) (fun i s' hi hs => cellOf_F rfl (by simp [sA, va_up, hi]) rfl rfl)
theorem wld_sL {G : Gl} {σ : SS} {k n : Nat} {f : Nat → Int64} (h : sk k = some (.inl (1, n))) : (wld G σ).set k (aL G n f) = wld G (sL σ k f) := wld_set h (by simp [cellOf, sL, va_up]) (fun i s' hi hs => cellOf_F rfl rfl (by simp [sL, va_up, hi]) rfl)
def notP (s : Sk) : Bool := match s with
  | .inl (t, _) => decide (t < 4)
  | .inr _ => true
theorem cellOf_P {G : Gl} {σ σ' : SS} {j : Nat} {s : Sk} (hn : notP s = true) (h1 : σ'.1 j = σ.1 j) (h2 : σ'.2.1 j = σ.2.1 j) (h3 : σ'.2.2.1 j = σ.2.2.1 j) : cellOf G σ' j s = cellOf G σ j s := by
  rcases s with ⟨t, n⟩ | ⟨ci, fs⟩
  · match t with
    | 0 => simp [cellOf, h2]
    | 1 => simp [cellOf, h3]
    | 2 => simp [cellOf, h2]
    | 3 => simp [cellOf, h2]
    | t + 4 => simp [notP] at hn; omega
  · simp [cellOf, fv, h1]
theorem sk_P : ∀ j s, j ≠ 30 → sk j = some s → notP s = true := by
  have h : ∀ j, j < 136 → j ≠ 30 → (sk j).all notP = true := by decide +kernel
  intro j s hj hs
  have hl : j < 136 := (List.getElem?_eq_some_iff.mp hs).1
  have := h j hl hj
  rw [hs] at this
  exact this
theorem wld_sP {G : Gl} {σ : SS} {f : Nat → Nat} : (wld G σ).set 30 (aP G 6 (fun j => some (f j))) = wld G (sP σ f) := wld_set (s := .inl (4, 6)) rfl (by simp [cellOf, sP]) (fun i s' hi hs => cellOf_P (sk_P i s' hi hs) rfl rfl rfl)
/-- the answers' forms -/
def PI (G : Gl) (post : Int32 → SS → Prop) : Option Value → List va_E → Prop := fun v cs => ∃ (r : Int32) (σ : SS), v = some (.int r) ∧ cs = wld G σ ∧ post r σ
def PL (G : Gl) (post : Int64 → SS → Prop) : Option Value → List va_E → Prop := fun v cs => ∃ (r : Int64) (σ : SS), v = some (.long r) ∧ cs = wld G σ ∧ post r σ
def PV (G : Gl) (post : SS → Prop) : Option Value → List va_E → Prop := fun v cs => ∃ σ : SS, v = none ∧ cs = wld G σ ∧ post σ
def PR (G : Gl) (post : Nat → SS → Prop) : Option Value → List va_E → Prop := fun v cs => ∃ (r : Nat) (σ : SS), v = some (Rf G r) ∧ cs = wld G σ ∧ post r σ
abbrev CI (G : Gl) (μ : Mi) (As : List Value) (σ : SS) (post : Int32 → SS → Prop) : Prop := Ctr G μ As (wld G σ) false 0 0 (PI G post)
abbrev CL (G : Gl) (μ : Mi) (As : List Value) (σ : SS) (post : Int64 → SS → Prop) : Prop := Ctr G μ As (wld G σ) false 0 0 (PL G post)
abbrev CV (G : Gl) (μ : Mi) (As : List Value) (σ : SS) (post : SS → Prop) : Prop := Ctr G μ As (wld G σ) false 0 0 (PV G post)
abbrev CR (G : Gl) (μ : Mi) (As : List Value) (σ : SS) (post : Nat → SS → Prop) : Prop := Ctr G μ As (wld G σ) false 0 0 (PR G post)
section
variable {G : Gl} {X : Cx0} {cc : ByteArray} {nL fr lo mc ms ce sl pc : Nat} {own : String} {lv : List (Nat × Value)} {st : List Value} {σ : SS}
theorem V.getI (C : Cx G X cc nL own fr lo mc ms) {idx ci j k0 : Nat} {fin : Option Bool} {ty : FieldType} {fs : List (Option Nat)} (F : FLk own idx ci j fin ty) (d : decode cc pc = .ok (.getfield idx, 3)) (hk : sk k0 = some (.inr (ci, fs))) (hj : fs[j]? = some none) (k : V G X nL ce sl (pc + 3) lv (.int (σ.1 k0 j) :: st) (wld G σ)) : V G X nL ce sl pc lv (Rf G k0 :: st) (wld G σ) :=
  V.get C F d (wld_at hk) (v := .int (σ.1 k0 j)) (by rw [List.getElem?_mapIdx, hj]; rfl) k
theorem V.getR (C : Cx G X cc nL own fr lo mc ms) {idx ci j k0 t : Nat} {fin : Option Bool} {ty : FieldType} {fs : List (Option Nat)} (F : FLk own idx ci j fin ty) (d : decode cc pc = .ok (.getfield idx, 3)) (hk : sk k0 = some (.inr (ci, fs))) (hj : fs[j]? = some (some t)) (k : V G X nL ce sl (pc + 3) lv (Rf G t :: st) (wld G σ)) : V G X nL ce sl pc lv (Rf G k0 :: st) (wld G σ) :=
  V.get C F d (wld_at hk) (v := Rf G t) (by rw [List.getElem?_mapIdx, hj]; rfl) k
theorem V.putI (C : Cx G X cc nL own fr lo mc ms) {idx ci j k0 : Nat} {fs : List (Option Nat)} {v : Int32} (F : FLk own idx ci j (some false) .int) (d : decode cc pc = .ok (.putfield idx, 3)) (hk : sk k0 = some (.inr (ci, fs))) (hj : fs[j]? = some none) (k : V G X nL ce sl (pc + 3) lv st (wld G (sF σ k0 j v))) : V G X nL ce sl pc lv (.int v :: Rf G k0 :: st) (wld G σ) :=
  V.put C F d (wld_at hk) rfl rfl (by rw [List.length_mapIdx]; exact (List.getElem?_eq_some_iff.mp hj).1) (by rw [wld_sF hk hj]; exact k)
theorem V.putZ (C : Cx G X cc nL own fr lo mc ms) {idx ci j k0 : Nat} {fs : List (Option Nat)} {v : Int32} (F : FLk own idx ci j (some false) .boolean) (d : decode cc pc = .ok (.putfield idx, 3)) (hk : sk k0 = some (.inr (ci, fs))) (hj : fs[j]? = some none) (hv : v = 0 ∨ v = 1) (k : V G X nL ce sl (pc + 3) lv st (wld G (sF σ k0 j v))) : V G X nL ce sl pc lv (.int v :: Rf G k0 :: st) (wld G σ) :=
  V.put C F d (wld_at hk) (by rcases hv with rfl | rfl <;> rfl) (by rcases hv with rfl | rfl <;> rfl) (by rw [List.length_mapIdx]; exact (List.getElem?_eq_some_iff.mp hj).1) (by rw [wld_sF hk hj]; exact k)
theorem V.ialdS (C : Cx G X cc nL own fr lo mc ms) {k0 n : Nat} {i : Int32} (d : decode cc pc = .ok (.iaload, 1)) (hk : sk k0 = some (.inl (0, n))) (hin : vp_in i n) (k : V G X nL ce sl (pc + 1) lv (.int (σ.2.1 k0 i.toNatClampNeg) :: st) (wld G σ)) : V G X nL ce sl pc lv (.int i :: Rf G k0 :: st) (wld G σ) := V.iald C d (wld_at hk) hin k
theorem V.zaldS (C : Cx G X cc nL own fr lo mc ms) {k0 n : Nat} {i : Int32} (d : decode cc pc = .ok (.baload, 1)) (hk : sk k0 = some (.inl (2, n))) (hin : vp_in i n) (k : V G X nL ce sl (pc + 1) lv (.int (σ.2.1 k0 i.toNatClampNeg) :: st) (wld G σ)) : V G X nL ce sl pc lv (.int i :: Rf G k0 :: st) (wld G σ) := V.zald C d (wld_at hk) hin k
theorem V.caldS (C : Cx G X cc nL own fr lo mc ms) {k0 n : Nat} {i : Int32} (d : decode cc pc = .ok (.caload, 1)) (hk : sk k0 = some (.inl (3, n))) (hin : vp_in i n) (k : V G X nL ce sl (pc + 1) lv (.int (σ.2.1 k0 i.toNatClampNeg) :: st) (wld G σ)) : V G X nL ce sl pc lv (.int i :: Rf G k0 :: st) (wld G σ) := V.cald C d (wld_at hk) hin k
theorem V.laldS (C : Cx G X cc nL own fr lo mc ms) {k0 n : Nat} {i : Int32} (d : decode cc pc = .ok (.laload, 1)) (hk : sk k0 = some (.inl (1, n))) (hin : vp_in i n) (k : V G X nL ce sl (pc + 1) lv (.long (σ.2.2.1 k0 i.toNatClampNeg) :: st) (wld G σ)) : V G X nL ce sl pc lv (.int i :: Rf G k0 :: st) (wld G σ) := V.lald C d (wld_at hk) hin k
theorem V.paldS (C : Cx G X cc nL own fr lo mc ms) {k0 n : Nat} {i : Int32} (d : decode cc pc = .ok (.aaload, 1)) (hk : sk k0 = some (.inl (4, n))) (hin : vp_in i n) (k : V G X nL ce sl (pc + 1) lv (Rf G (σ.2.2.2 i.toNatClampNeg) :: st) (wld G σ)) : V G X nL ce sl pc lv (.int i :: Rf G k0 :: st) (wld G σ) := V.pald C d (wld_at hk) hin rfl k
theorem V.iastS (C : Cx G X cc nL own fr lo mc ms) {k0 n : Nat} {i x : Int32} (d : decode cc pc = .ok (.iastore, 1)) (hk : sk k0 = some (.inl (0, n))) (hin : vp_in i n) (k : V G X nL ce sl (pc + 1) lv st (wld G (sA σ k0 (va_up (σ.2.1 k0) i.toNatClampNeg x)))) : V G X nL ce sl pc lv (.int x :: .int i :: Rf G k0 :: st) (wld G σ) := V.iast C d (wld_at hk) hin (by rw [wld_sAI hk]; exact k)
theorem V.zastS (C : Cx G X cc nL own fr lo mc ms) {k0 n : Nat} {i x : Int32} (d : decode cc pc = .ok (.bastore, 1)) (hk : sk k0 = some (.inl (2, n))) (hin : vp_in i n) (hv : x = 0 ∨ x = 1) (k : V G X nL ce sl (pc + 1) lv st (wld G (sA σ k0 (va_up (σ.2.1 k0) i.toNatClampNeg x)))) : V G X nL ce sl pc lv (.int x :: .int i :: Rf G k0 :: st) (wld G σ) := V.zast C d (wld_at hk) hin (by rw [show vp_nar .boolean x = x by rcases hv with rfl | rfl <;> rfl, wld_sAZ hk]; exact k)
theorem V.castS (C : Cx G X cc nL own fr lo mc ms) {k0 n : Nat} {i x : Int32} (d : decode cc pc = .ok (.castore, 1)) (hk : sk k0 = some (.inl (3, n))) (hin : vp_in i n) (hv : vp_nar .char x = x) (k : V G X nL ce sl (pc + 1) lv st (wld G (sA σ k0 (va_up (σ.2.1 k0) i.toNatClampNeg x)))) : V G X nL ce sl pc lv (.int x :: .int i :: Rf G k0 :: st) (wld G σ) := V.cast C d (wld_at hk) hin (by rw [hv, wld_sAC hk]; exact k)
theorem V.lastS (C : Cx G X cc nL own fr lo mc ms) {k0 n : Nat} {i : Int32} {x : Int64} (d : decode cc pc = .ok (.lastore, 1)) (hk : sk k0 = some (.inl (1, n))) (hin : vp_in i n) (k : V G X nL ce sl (pc + 1) lv st (wld G (sL σ k0 (va_up (σ.2.2.1 k0) i.toNatClampNeg x)))) : V G X nL ce sl pc lv (.long x :: .int i :: Rf G k0 :: st) (wld G σ) := V.last C d (wld_at hk) hin (by rw [wld_sL hk]; exact k)
theorem V.pastS (C : Cx G X cc nL own fr lo mc ms) {j : Nat} {i : Int32} {fs : List (Option Nat)} (d : decode cc pc = .ok (.aastore, 1)) (hj : sk j = some (.inr (4, fs))) (hin : vp_in i 6) (k : V G X nL ce sl (pc + 1) lv st (wld G (sP σ (va_up σ.2.2.2 i.toNatClampNeg j)))) : V G X nL ce sl pc lv (Rf G j :: .int i :: Rf G 30 :: st) (wld G σ) := V.past C d (wld_at (s := .inl (4, 6)) rfl) (wld_at hj) hin (by
    have e : va_up (fun j => some (σ.2.2.2 j)) i.toNatClampNeg (some j) = fun z => some (va_up σ.2.2.2 i.toNatClampNeg j z) := by
      funext z; unfold va_up; by_cases hz : z = i.toNatClampNeg <;> simp [hz]
    rw [e, wld_sP]; exact k)
theorem V.copyS (C : Cx G X cc nL own fr lo mc ms) {idx k0 k1 n0 n1 : Nat} {sp dp n : Int32} (h1 : Cond.methodLink own idx arraycopyName ∈ TB) (h2 : Cond.native arraycopyName ∈ TB) (h3 : Cond.static arraycopyName ∈ TB) (h4 : Cond.initialized "java/lang/System" ∈ TB) (d : decode cc pc = .ok (.invokestatic idx, 3)) (hc0 : sk k0 = some (.inl (0, n0))) (hc1 : sk k1 = some (.inl (0, n1))) (g1 : ¬ sp < 0) (g2 : ¬ dp < 0) (g3 : ¬ n < 0) (g4 : sp.toNatClampNeg + n.toNatClampNeg ≤ n0) (g5 : dp.toNatClampNeg + n.toNatClampNeg ≤ n1) (hf : 1 ≤ fr) (hlo : (st.map fun v => v.category).sum + (nativeFrameWords "java/lang/System" "arraycopy" 5 + 11) ≤ lo)
    (k : V G X nL ce sl (pc + 3) lv st (wld G (sA σ k1 (va_cpy (σ.2.1 k0) (σ.2.1 k1) sp.toNatClampNeg dp.toNatClampNeg n.toNatClampNeg)))) : V G X nL ce sl pc lv (.int n :: .int dp :: Rf G k1 :: .int sp :: Rf G k0 :: st) (wld G σ) :=
  V.copyi C h1 h2 h3 h4 d (wld_at hc0) (wld_at hc1) g1 g2 g3 g4 g5 hf hlo (by rw [wld_sAI hc1]; exact k)
theorem V.iretS (C : Cx G X cc nL own fr lo mc ms) {post : Int32 → SS → Prop} (R : Cr G X (some .int) ce sl (PI G post)) {v : Int32} (d : decode cc pc = .ok (.ireturn, 1)) (h : post v σ) : V G X nL ce sl pc lv [.int v] (wld G σ) := V.iret C R d ⟨_, _, rfl, rfl, h⟩
theorem V.lretS (C : Cx G X cc nL own fr lo mc ms) {post : Int64 → SS → Prop} (R : Cr G X (some .long) ce sl (PL G post)) {v : Int64} (d : decode cc pc = .ok (.lreturn, 1)) (h : post v σ) : V G X nL ce sl pc lv [.long v] (wld G σ) := V.lret C R d ⟨_, _, rfl, rfl, h⟩
theorem V.zretS (C : Cx G X cc nL own fr lo mc ms) {post : Int32 → SS → Prop} (R : Cr G X (some .boolean) ce sl (PI G post)) {v : Int32} (d : decode cc pc = .ok (.ireturn, 1)) (hv : v = 0 ∨ v = 1) (h : post v σ) : V G X nL ce sl pc lv [.int v] (wld G σ) := V.zret C R d (by rcases hv with rfl | rfl <;> rfl) ⟨_, _, rfl, rfl, h⟩
theorem V.vretS (C : Cx G X cc nL own fr lo mc ms) {post : SS → Prop} (R : Cr G X none ce sl (PV G post)) (d : decode cc pc = .ok (.return_, 1)) (h : post σ) : V G X nL ce sl pc lv [] (wld G σ) := V.vret C R d ⟨_, rfl, rfl, h⟩
theorem V.aretS (C : Cx G X cc nL own fr lo mc ms) {cn : String} {post : Nat → SS → Prop} (R : Cr G X (some (.object cn)) ce sl (PR G post)) {j : Nat} (d : decode cc pc = .ok (.areturn, 1)) (h : post j σ) : V G X nL ce sl pc lv [Rf G j] (wld G σ) := V.aret C R d ⟨_, _, rfl, rfl, h⟩
theorem V.cVi (C : Cx G X cc nL own fr lo mc ms) {idx n ci k0 : Nat} {μ : Mi} {As : List Value} {fs : List (Option Nat)} {st0 : List Value} {post : Int32 → SS → Prop} (L : LkV own idx μ n ci) (M : MOk μ) (d : decode cc pc = .ok (.invokevirtual idx, 3)) (h : CI G μ (Rf G k0 :: As) σ post) (hk : sk k0 = some (.inr (ci, fs))) (hn : As.length = n) (hst : st0 = As.reverse ++ Rf G k0 :: st) (hw : (st.map fun v => v.category).sum ≤ 8) (hr : μ.2.2.2.2.1 + 1 ≤ fr ∧ 8 + (μ.2.2.1 + 11) + μ.2.2.2.2.2 ≤ lo) (hm : ce ≤ mc ∧ sl ≤ ms) (k : ∀ (r : Int32) (σ1 : SS), post r σ1 → V G X nL ce sl (pc + 3) lv (.int r :: st) (wld G σ1)) : V G X nL ce sl pc lv st0 (wld G σ) :=
  V.callV C L M d h (wld_at hk) hn hst hw hr hm (fun h => by cases h) (by intro v cs2 hp; obtain ⟨r, σ1, h1, h2, hp⟩ := hp; rw [h1, h2]; exact k r σ1 hp)
theorem V.cSi (C : Cx G X cc nL own fr lo mc ms) {idx n : Nat} {μ : Mi} {As : List Value} {st0 : List Value} {post : Int32 → SS → Prop} (L : LkS own idx μ n) (M : MOk μ) (d : decode cc pc = .ok (.invokestatic idx, 3)) (h : CI G μ As σ post) (hn : As.length = n) (hst : st0 = As.reverse ++ st) (hw : (st.map fun v => v.category).sum ≤ 8) (hr : μ.2.2.2.2.1 + 1 ≤ fr ∧ 8 + (μ.2.2.1 + 11) + μ.2.2.2.2.2 ≤ lo) (hm : ce ≤ mc ∧ sl ≤ ms) (k : ∀ (r : Int32) (σ1 : SS), post r σ1 → V G X nL ce sl (pc + 3) lv (.int r :: st) (wld G σ1)) : V G X nL ce sl pc lv st0 (wld G σ) :=
  V.callS C L M d h hn hst hw hr hm (fun h => by cases h) (by intro v cs2 hp; obtain ⟨r, σ1, h1, h2, hp⟩ := hp; rw [h1, h2]; exact k r σ1 hp)
theorem V.cSNi (C : Cx G X cc nL own fr lo mc ms) {idx n : Nat} {μ : Mi} {As : List Value} {st0 : List Value} {post : Int32 → SS → Prop} (L : LkSN own idx μ n) (M : MOk μ) (d : decode cc pc = .ok (.invokestatic idx, 3)) (h : CI G μ As σ post) (hn : As.length = n) (hst : st0 = As.reverse ++ st) (hw : (st.map fun v => v.category).sum ≤ 8) (hr : μ.2.2.2.2.1 + 1 ≤ fr ∧ 8 + (μ.2.2.1 + 11) + μ.2.2.2.2.2 ≤ lo) (hm : ce ≤ mc ∧ sl ≤ ms) (k : ∀ (r : Int32) (σ1 : SS), post r σ1 → V G X nL ce sl (pc + 3) lv (.int r :: st) (wld G σ1)) : V G X nL ce sl pc lv st0 (wld G σ) :=
  V.callSN C L M d h hn hst hw hr hm (fun h => by cases h) (by intro v cs2 hp; obtain ⟨r, σ1, h1, h2, hp⟩ := hp; rw [h1, h2]; exact k r σ1 hp)
theorem V.cVl (C : Cx G X cc nL own fr lo mc ms) {idx n ci k0 : Nat} {μ : Mi} {As : List Value} {fs : List (Option Nat)} {st0 : List Value} {post : Int64 → SS → Prop} (L : LkV own idx μ n ci) (M : MOk μ) (d : decode cc pc = .ok (.invokevirtual idx, 3)) (h : CL G μ (Rf G k0 :: As) σ post) (hk : sk k0 = some (.inr (ci, fs))) (hn : As.length = n) (hst : st0 = As.reverse ++ Rf G k0 :: st) (hw : (st.map fun v => v.category).sum ≤ 8) (hr : μ.2.2.2.2.1 + 1 ≤ fr ∧ 8 + (μ.2.2.1 + 11) + μ.2.2.2.2.2 ≤ lo) (hm : ce ≤ mc ∧ sl ≤ ms) (k : ∀ (r : Int64) (σ1 : SS), post r σ1 → V G X nL ce sl (pc + 3) lv (.long r :: st) (wld G σ1)) : V G X nL ce sl pc lv st0 (wld G σ) :=
  V.callV C L M d h (wld_at hk) hn hst hw hr hm (fun h => by cases h) (by intro v cs2 hp; obtain ⟨r, σ1, h1, h2, hp⟩ := hp; rw [h1, h2]; exact k r σ1 hp)
theorem V.cSl (C : Cx G X cc nL own fr lo mc ms) {idx n : Nat} {μ : Mi} {As : List Value} {st0 : List Value} {post : Int64 → SS → Prop} (L : LkS own idx μ n) (M : MOk μ) (d : decode cc pc = .ok (.invokestatic idx, 3)) (h : CL G μ As σ post) (hn : As.length = n) (hst : st0 = As.reverse ++ st) (hw : (st.map fun v => v.category).sum ≤ 8) (hr : μ.2.2.2.2.1 + 1 ≤ fr ∧ 8 + (μ.2.2.1 + 11) + μ.2.2.2.2.2 ≤ lo) (hm : ce ≤ mc ∧ sl ≤ ms) (k : ∀ (r : Int64) (σ1 : SS), post r σ1 → V G X nL ce sl (pc + 3) lv (.long r :: st) (wld G σ1)) : V G X nL ce sl pc lv st0 (wld G σ) :=
  V.callS C L M d h hn hst hw hr hm (fun h => by cases h) (by intro v cs2 hp; obtain ⟨r, σ1, h1, h2, hp⟩ := hp; rw [h1, h2]; exact k r σ1 hp)
theorem V.cSNl (C : Cx G X cc nL own fr lo mc ms) {idx n : Nat} {μ : Mi} {As : List Value} {st0 : List Value} {post : Int64 → SS → Prop} (L : LkSN own idx μ n) (M : MOk μ) (d : decode cc pc = .ok (.invokestatic idx, 3)) (h : CL G μ As σ post) (hn : As.length = n) (hst : st0 = As.reverse ++ st) (hw : (st.map fun v => v.category).sum ≤ 8) (hr : μ.2.2.2.2.1 + 1 ≤ fr ∧ 8 + (μ.2.2.1 + 11) + μ.2.2.2.2.2 ≤ lo) (hm : ce ≤ mc ∧ sl ≤ ms) (k : ∀ (r : Int64) (σ1 : SS), post r σ1 → V G X nL ce sl (pc + 3) lv (.long r :: st) (wld G σ1)) : V G X nL ce sl pc lv st0 (wld G σ) :=
  V.callSN C L M d h hn hst hw hr hm (fun h => by cases h) (by intro v cs2 hp; obtain ⟨r, σ1, h1, h2, hp⟩ := hp; rw [h1, h2]; exact k r σ1 hp)
theorem V.cVv (C : Cx G X cc nL own fr lo mc ms) {idx n ci k0 : Nat} {μ : Mi} {As : List Value} {fs : List (Option Nat)} {st0 : List Value} {post : SS → Prop} (L : LkV own idx μ n ci) (M : MOk μ) (d : decode cc pc = .ok (.invokevirtual idx, 3)) (h : CV G μ (Rf G k0 :: As) σ post) (hk : sk k0 = some (.inr (ci, fs))) (hn : As.length = n) (hst : st0 = As.reverse ++ Rf G k0 :: st) (hw : (st.map fun v => v.category).sum ≤ 8) (hr : μ.2.2.2.2.1 + 1 ≤ fr ∧ 8 + (μ.2.2.1 + 11) + μ.2.2.2.2.2 ≤ lo) (hm : ce ≤ mc ∧ sl ≤ ms) (k : ∀ (σ1 : SS), post σ1 → V G X nL ce sl (pc + 3) lv st (wld G σ1)) : V G X nL ce sl pc lv st0 (wld G σ) :=
  V.callV C L M d h (wld_at hk) hn hst hw hr hm (fun h => by cases h) (by intro v cs2 hp; obtain ⟨σ1, h1, h2, hp⟩ := hp; rw [h1, h2]; exact k σ1 hp)
theorem V.cSv (C : Cx G X cc nL own fr lo mc ms) {idx n : Nat} {μ : Mi} {As : List Value} {st0 : List Value} {post : SS → Prop} (L : LkS own idx μ n) (M : MOk μ) (d : decode cc pc = .ok (.invokestatic idx, 3)) (h : CV G μ As σ post) (hn : As.length = n) (hst : st0 = As.reverse ++ st) (hw : (st.map fun v => v.category).sum ≤ 8) (hr : μ.2.2.2.2.1 + 1 ≤ fr ∧ 8 + (μ.2.2.1 + 11) + μ.2.2.2.2.2 ≤ lo) (hm : ce ≤ mc ∧ sl ≤ ms) (k : ∀ (σ1 : SS), post σ1 → V G X nL ce sl (pc + 3) lv st (wld G σ1)) : V G X nL ce sl pc lv st0 (wld G σ) :=
  V.callS C L M d h hn hst hw hr hm (fun h => by cases h) (by intro v cs2 hp; obtain ⟨σ1, h1, h2, hp⟩ := hp; rw [h1, h2]; exact k σ1 hp)
theorem V.cSNv (C : Cx G X cc nL own fr lo mc ms) {idx n : Nat} {μ : Mi} {As : List Value} {st0 : List Value} {post : SS → Prop} (L : LkSN own idx μ n) (M : MOk μ) (d : decode cc pc = .ok (.invokestatic idx, 3)) (h : CV G μ As σ post) (hn : As.length = n) (hst : st0 = As.reverse ++ st) (hw : (st.map fun v => v.category).sum ≤ 8) (hr : μ.2.2.2.2.1 + 1 ≤ fr ∧ 8 + (μ.2.2.1 + 11) + μ.2.2.2.2.2 ≤ lo) (hm : ce ≤ mc ∧ sl ≤ ms) (k : ∀ (σ1 : SS), post σ1 → V G X nL ce sl (pc + 3) lv st (wld G σ1)) : V G X nL ce sl pc lv st0 (wld G σ) :=
  V.callSN C L M d h hn hst hw hr hm (fun h => by cases h) (by intro v cs2 hp; obtain ⟨σ1, h1, h2, hp⟩ := hp; rw [h1, h2]; exact k σ1 hp)
theorem V.cVr (C : Cx G X cc nL own fr lo mc ms) {idx n ci k0 : Nat} {μ : Mi} {As : List Value} {fs : List (Option Nat)} {st0 : List Value} {post : Nat → SS → Prop} (L : LkV own idx μ n ci) (M : MOk μ) (d : decode cc pc = .ok (.invokevirtual idx, 3)) (h : CR G μ (Rf G k0 :: As) σ post) (hk : sk k0 = some (.inr (ci, fs))) (hn : As.length = n) (hst : st0 = As.reverse ++ Rf G k0 :: st) (hw : (st.map fun v => v.category).sum ≤ 8) (hr : μ.2.2.2.2.1 + 1 ≤ fr ∧ 8 + (μ.2.2.1 + 11) + μ.2.2.2.2.2 ≤ lo) (hm : ce ≤ mc ∧ sl ≤ ms) (k : ∀ (r : Nat) (σ1 : SS), post r σ1 → V G X nL ce sl (pc + 3) lv (Rf G r :: st) (wld G σ1)) : V G X nL ce sl pc lv st0 (wld G σ) :=
  V.callV C L M d h (wld_at hk) hn hst hw hr hm (fun h => by cases h) (by intro v cs2 hp; obtain ⟨r, σ1, h1, h2, hp⟩ := hp; rw [h1, h2]; exact k r σ1 hp)
theorem V.cSr (C : Cx G X cc nL own fr lo mc ms) {idx n : Nat} {μ : Mi} {As : List Value} {st0 : List Value} {post : Nat → SS → Prop} (L : LkS own idx μ n) (M : MOk μ) (d : decode cc pc = .ok (.invokestatic idx, 3)) (h : CR G μ As σ post) (hn : As.length = n) (hst : st0 = As.reverse ++ st) (hw : (st.map fun v => v.category).sum ≤ 8) (hr : μ.2.2.2.2.1 + 1 ≤ fr ∧ 8 + (μ.2.2.1 + 11) + μ.2.2.2.2.2 ≤ lo) (hm : ce ≤ mc ∧ sl ≤ ms) (k : ∀ (r : Nat) (σ1 : SS), post r σ1 → V G X nL ce sl (pc + 3) lv (Rf G r :: st) (wld G σ1)) : V G X nL ce sl pc lv st0 (wld G σ) :=
  V.callS C L M d h hn hst hw hr hm (fun h => by cases h) (by intro v cs2 hp; obtain ⟨r, σ1, h1, h2, hp⟩ := hp; rw [h1, h2]; exact k r σ1 hp)
theorem V.cSNr (C : Cx G X cc nL own fr lo mc ms) {idx n : Nat} {μ : Mi} {As : List Value} {st0 : List Value} {post : Nat → SS → Prop} (L : LkSN own idx μ n) (M : MOk μ) (d : decode cc pc = .ok (.invokestatic idx, 3)) (h : CR G μ As σ post) (hn : As.length = n) (hst : st0 = As.reverse ++ st) (hw : (st.map fun v => v.category).sum ≤ 8) (hr : μ.2.2.2.2.1 + 1 ≤ fr ∧ 8 + (μ.2.2.1 + 11) + μ.2.2.2.2.2 ≤ lo) (hm : ce ≤ mc ∧ sl ≤ ms) (k : ∀ (r : Nat) (σ1 : SS), post r σ1 → V G X nL ce sl (pc + 3) lv (Rf G r :: st) (wld G σ1)) : V G X nL ce sl pc lv st0 (wld G σ) :=
  V.callSN C L M d h hn hst hw hr hm (fun h => by cases h) (by intro v cs2 hp; obtain ⟨r, σ1, h1, h2, hp⟩ := hp; rw [h1, h2]; exact k r σ1 hp)
end
