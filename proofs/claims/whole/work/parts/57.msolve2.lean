/-! The model's solve, solveAll. -/
/-- the classes of the chosen ones of the first n equations -/
def ufSel (l : List Stm) (S : Nat → Bool) : Nat → UF
  | 0 => uf0
  | n + 1 => if S n = true then (match l[n]? with
      | some s => ufStm (ufSel l S n) s
      | none => ufSel l S n) else ufSel l S n
theorem shr_bt : ∀ e, e < 32 → ∀ x : Int32, (shr32 x (nI e) &&& nI 1 = nI 1) ↔ bt x e = true := by
  intro e he x
  have h5 : (nI e &&& 31) = nI e := by
    revert e; decide
  unfold shr32 bt
  rw [h5]
  have hb : (x >>> nI e).toBitVec.getLsbD 0 = x.toBitVec.getLsbD e := by
    rw [Int32.toBitVec_shiftRight]
    have hs : ((nI e).toBitVec.smod 32) = BitVec.ofNat 32 e := by
      revert e; decide
    rw [hs, BitVec.getLsbD_sshiftRight']
    have : (BitVec.ofNat 32 e).toNat = e := by rw [BitVec.toNat_ofNat]; omega
    rw [this]
    simp
    intro q; omega
  rw [← hb]
  generalize (x >>> nI e) = y
  have e1 : (nI 1 : Int32).toBitVec = 1#32 := by decide
  constructor
  · intro h
    have h1 := congrArg (fun z : Int32 => z.toBitVec.getLsbD 0) h
    simp only [Int32.toBitVec_and, BitVec.getLsbD_and, e1] at h1
    simpa using h1
  · intro h
    apply Int32.toBitVec_inj.mp
    rw [Int32.toBitVec_and, e1]
    apply BitVec.eq_of_getLsbD_eq
    intro i hi
    rw [BitVec.getLsbD_and]
    by_cases q : i = 0
    · rw [q, h]; rfl
    · have : (1#32 : BitVec 32).getLsbD i = false := by
        rw [BitVec.getLsbD_one]; simp [q]
      rw [this, Bool.and_false]
