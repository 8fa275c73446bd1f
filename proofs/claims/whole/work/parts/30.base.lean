/-! reading what was written -/
theorem sI_wI (σ : Sg) (a b o j : Nat) (v : Int32) : sI (wI σ a b v) o j = if o = a ∧ j = b then v else sI σ o j := rfl
theorem sI_wL (σ : Sg) (a b o j : Nat) (v : Int64) : sI (wL σ a b v) o j = sI σ o j := rfl
theorem sL_wL (σ : Sg) (a b o j : Nat) (v : Int64) : sL (wL σ a b v) o j = if o = a ∧ j = b then v else sL σ o j := rfl
theorem sL_wI (σ : Sg) (a b o j : Nat) (v : Int32) : sL (wI σ a b v) o j = sL σ o j := rfl
/-- another place -/
theorem i_o {σ : Sg} {a b o j : Nat} {v : Int32} (h : o ≠ a) : sI (wI σ a b v) o j = sI σ o j := by rw [sI_wI, if_neg (fun q => h q.1)]
/-- another slot -/
theorem i_j {σ : Sg} {a b o j : Nat} {v : Int32} (h : j ≠ b) : sI (wI σ a b v) o j = sI σ o j := by rw [sI_wI, if_neg (fun q => h q.2)]
theorem i_e {σ : Sg} {a b : Nat} {v : Int32} : sI (wI σ a b v) a b = v := by rw [sI_wI, if_pos ⟨rfl, rfl⟩]
theorem l_o {σ : Sg} {a b o j : Nat} {v : Int64} (h : o ≠ a) : sL (wL σ a b v) o j = sL σ o j := by rw [sL_wL, if_neg (fun q => h q.1)]
theorem l_j {σ : Sg} {a b o j : Nat} {v : Int64} (h : j ≠ b) : sL (wL σ a b v) o j = sL σ o j := by rw [sL_wL, if_neg (fun q => h q.2)]
theorem l_e {σ : Sg} {a b : Nat} {v : Int64} : sL (wL σ a b v) a b = v := by rw [sL_wL, if_pos ⟨rfl, rfl⟩]
/-! values as longs: the sort in the upper half, the number below -/
def pk (t n : Int32) : Int64 := (t.toInt64 <<< (((32 : Int32)).toInt64 &&& 63)) ||| (n.toInt64 &&& (4294967295 : Int64))
def srt (v : Int64) : Int32 := (v >>> (((32 : Int32)).toInt64 &&& 63)).toInt32
def nbr (v : Int64) : Int32 := v.toInt32
theorem pk_bv (t n : Int32) : (pk t n).toBitVec = t.toBitVec ++ n.toBitVec := by
  have h1 : (((32 : Int32)).toInt64 &&& 63).toBitVec.smod 64 = 32#64 := by decide
  simp only [pk, Int64.toBitVec_or, Int64.toBitVec_and, Int64.toBitVec_shiftLeft, h1]
  apply BitVec.eq_of_getLsbD_eq
  intro i hi
  have hm : (4294967295 : Int64).toBitVec = (BitVec.allOnes 32).setWidth 64 := by decide
  rw [hm]
  simp only [BitVec.getLsbD_or, BitVec.getLsbD_and, BitVec.getLsbD_append, BitVec.getLsbD_setWidth, BitVec.getLsbD_allOnes]
  simp [Int32.toBitVec_toInt64, BitVec.getLsbD_signExtend, hi]
  by_cases h : i < 32
  · simp [h, BitVec.getElem_signExtend]
  · have h3 : i - 32 < 32 := by omega
    simp [h, BitVec.getElem_signExtend, h3]
theorem srt_pk (t n : Int32) : srt (pk t n) = t := by
  have h1 : (((32 : Int32)).toInt64 &&& 63).toBitVec.smod 64 = 32#64 := by decide
  have h2 : ((t.toBitVec ++ n.toBitVec : BitVec 64).sshiftRight' 32#64) = (t.toBitVec ++ n.toBitVec : BitVec 64).sshiftRight 32 := rfl
  apply Int32.toBitVec_inj.mp
  simp only [srt, Int64.toBitVec_toInt32, Int64.toBitVec_shiftRight, h1, pk_bv]
  rw [h2]
  apply BitVec.eq_of_getLsbD_eq
  intro i hi
  have h4 : 32 + i < 64 := by omega
  have h5 : i < 64 := by omega
  rw [BitVec.getLsbD_eq_getElem hi, BitVec.getElem_signExtend, dif_pos h5, BitVec.getElem_sshiftRight, dif_pos h4]
  rw [← BitVec.getLsbD_eq_getElem (x := (t.toBitVec ++ n.toBitVec : BitVec 64)) (i := 32 + i) h4]
  rw [BitVec.getLsbD_append]
  simp [hi]
theorem nbr_pk (t n : Int32) : nbr (pk t n) = n := by
  apply Int32.toBitVec_inj.mp
  simp only [nbr, Int64.toBitVec_toInt32, pk_bv]
  apply BitVec.eq_of_getLsbD_eq
  intro i hi
  have h4 : i < 64 := by omega
  simp only [BitVec.getLsbD_eq_getElem hi, BitVec.getElem_signExtend]
  simp [h4]
  rw [← BitVec.getLsbD_eq_getElem (x := t.toBitVec ++ n.toBitVec) (i := i) h4, BitVec.getLsbD_append]
  simp [hi]
theorem pk_inj {t n t' n' : Int32} (h : pk t n = pk t' n') : t = t' ∧ n = n' := ⟨by rw [← srt_pk t n, h, srt_pk], by rw [← nbr_pk t n, h, nbr_pk]⟩
theorem pk_zero (n : Int32) : n.toInt64 &&& (4294967295 : Int64) = pk 0 n := by
  apply Int64.toBitVec_inj.mp
  rw [pk_bv, Int64.toBitVec_and]
  apply BitVec.eq_of_getLsbD_eq
  intro i hi
  have hm : (4294967295 : Int64).toBitVec = (BitVec.allOnes 32).setWidth 64 := by decide
  rw [hm]
  simp only [BitVec.getLsbD_and, BitVec.getLsbD_append, BitVec.getLsbD_setWidth, BitVec.getLsbD_allOnes]
  simp [Int32.toBitVec_toInt64, BitVec.getLsbD_signExtend, hi]
  by_cases h : i < 32
  · simp [h, BitVec.getElem_signExtend]
  · simp [h]
theorem pk_none : (4294967296 : Int64) = pk 1 0 := by decide
theorem pk_00 : (0 : Int64) = pk 0 0 := by decide
theorem pk_01 : (1 : Int64) = pk 0 1 := by decide
theorem cmp0 {x y : Int64} : lg_cmp x y = 0 ↔ x = y := by
  unfold lg_cmp
  by_cases h : x > y
  · rw [if_pos h]
    constructor
    · intro q; exact absurd q (by decide)
    · intro q; subst q; exact absurd h (Int64.lt_irrefl)
  · rw [if_neg h]
    by_cases h2 : x = y
    · simp [h2]
    · rw [if_neg h2]
      constructor
      · intro q; exact absurd q (by decide)
      · intro q; exact absurd q h2
