/-! The mean, and the machines at the start. -/
theorem nan_cmp {a : UInt64} (h : isNaN64 a = true) : FP.dcmp a a = none := by
  have h1 := isNaN64_iff.mp h
  have h2 : a.toNat &&& 0x7fffffffffffffff = a.toNat % 9223372036854775808 := Nat.and_two_pow_sub_one_eq_mod a.toNat 63
  rw [h2] at h1
  have hd : FP.Core.decode FP.Core.b64 a.toNat = .nan := by
    unfold FP.Core.decode
    have e1 : FP.Core.fieldE FP.Core.b64 a.toNat = FP.Core.b64.exps - 1 := by
      show a.toNat / 4503599627370496 % 2048 = 2047
      omega
    have e2 : ¬ FP.Core.fieldT FP.Core.b64 a.toNat = 0 := by
      show ¬ a.toNat % 4503599627370496 = 0
      omega
    rw [if_pos e1, if_neg e2]
  show FP.Core.order (FP.Core.decode FP.Core.b64 a.toNat) (FP.Core.decode FP.Core.b64 a.toNat) = none
  rw [hd]
  rfl
/-- a mean is a number, and equal to itself -/
def mOk (a u : Nat) : Bool := decide (FP.dcmp (FP.ddiv (FP.i2d (nI a)) (FP.i2d (nI u))) (FP.ddiv (FP.i2d (nI a)) (FP.i2d (nI u))) = some .eq)
theorem mOk_1 : ∀ a, a < 801 → mOk a 1 = true := by decide +kernel
theorem mOk_2 : ∀ a, a < 801 → mOk a 2 = true := by decide +kernel
theorem mOk_3 : ∀ a, a < 801 → mOk a 3 = true := by decide +kernel
theorem mOk_4 : ∀ a, a < 801 → mOk a 4 = true := by decide +kernel
theorem mOk_5 : ∀ a, a < 801 → mOk a 5 = true := by decide +kernel
theorem mOk_6 : ∀ a, a < 801 → mOk a 6 = true := by decide +kernel
theorem mOk_7 : ∀ a, a < 801 → mOk a 7 = true := by decide +kernel
theorem mOk_8 : ∀ a, a < 801 → mOk a 8 = true := by decide +kernel
theorem mOk_9 : ∀ a, a < 801 → mOk a 9 = true := by decide +kernel
theorem mOk_10 : ∀ a, a < 801 → mOk a 10 = true := by decide +kernel
theorem mOk_11 : ∀ a, a < 801 → mOk a 11 = true := by decide +kernel
theorem mOk_12 : ∀ a, a < 801 → mOk a 12 = true := by decide +kernel
theorem mOk_13 : ∀ a, a < 801 → mOk a 13 = true := by decide +kernel
theorem mOk_14 : ∀ a, a < 801 → mOk a 14 = true := by decide +kernel
theorem mOk_15 : ∀ a, a < 801 → mOk a 15 = true := by decide +kernel
theorem mOk_16 : ∀ a, a < 801 → mOk a 16 = true := by decide +kernel
theorem mOk_17 : ∀ a, a < 801 → mOk a 17 = true := by decide +kernel
theorem mOk_18 : ∀ a, a < 801 → mOk a 18 = true := by decide +kernel
theorem mOk_19 : ∀ a, a < 801 → mOk a 19 = true := by decide +kernel
theorem mOk_20 : ∀ a, a < 801 → mOk a 20 = true := by decide +kernel
theorem mOk_all {a u : Nat} (ha : a ≤ 800) (h0 : 0 < u) (hu : u ≤ 20) : mOk a u = true := by
  have h : u = 1 ∨ u = 2 ∨ u = 3 ∨ u = 4 ∨ u = 5 ∨ u = 6 ∨ u = 7 ∨ u = 8 ∨ u = 9 ∨ u = 10 ∨ u = 11 ∨ u = 12 ∨ u = 13 ∨ u = 14 ∨ u = 15 ∨ u = 16 ∨ u = 17 ∨ u = 18 ∨ u = 19 ∨ u = 20 := by omega
  rcases h with rfl | rfl | rfl | rfl | rfl | rfl | rfl | rfl | rfl | rfl | rfl | rfl | rfl | rfl | rfl | rfl | rfl | rfl | rfl | rfl
  · exact mOk_1 a (by omega)
  · exact mOk_2 a (by omega)
  · exact mOk_3 a (by omega)
  · exact mOk_4 a (by omega)
  · exact mOk_5 a (by omega)
  · exact mOk_6 a (by omega)
  · exact mOk_7 a (by omega)
  · exact mOk_8 a (by omega)
  · exact mOk_9 a (by omega)
  · exact mOk_10 a (by omega)
  · exact mOk_11 a (by omega)
  · exact mOk_12 a (by omega)
  · exact mOk_13 a (by omega)
  · exact mOk_14 a (by omega)
  · exact mOk_15 a (by omega)
  · exact mOk_16 a (by omega)
  · exact mOk_17 a (by omega)
  · exact mOk_18 a (by omega)
  · exact mOk_19 a (by omega)
  · exact mOk_20 a (by omega)
theorem mean_eq {r1 r2 : UInt64} {a u : Nat} (ha : a ≤ 800) (h0 : 0 < u) (hu : u ≤ 20) (h1 : alike64 r1 (FP.ddiv (FP.i2d (nI a)) (FP.i2d (nI u))) = true) (h2 : alike64 r2 (FP.ddiv (FP.i2d (nI a)) (FP.i2d (nI u))) = true) : Op.cmpValue (FP.dcmp r1 r2) CmpOp.l = 0 := by
  have hk := of_decide_eq_true (mOk_all ha h0 hu)
  obtain ⟨x, hx⟩ : ∃ zz, zz = FP.ddiv (FP.i2d (nI a)) (FP.i2d (nI u)) := ⟨_, rfl⟩
  rw [← hx] at hk h1 h2
  have hn : ¬ isNaN64 x = true := fun z => by rw [nan_cmp z] at hk; cases hk
  unfold alike64 at h1 h2
  simp only [Bool.or_eq_true, decide_eq_true_eq, Bool.and_eq_true] at h1 h2
  have e1 : r1 = x := h1.elim id (fun z => absurd z.2 hn)
  have e2 : r2 = x := h2.elim id (fun z => absurd z.2 hn)
  rw [e1, e2, hk]
  rfl
