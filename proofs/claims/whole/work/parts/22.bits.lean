/-! ===== bits of small numbers ===== -/
def bt (b k : Int) : Int := b / (2 : Int) ^ k.toNat % 2
theorem bt_in {b k : Int} : bt b k = 0 ∨ bt b k = 1 := by unfold bt; omega
theorem shr_of {x y : Int} (hx : 0 ≤ x ∧ x < 2147483648) (hy : 0 ≤ y ∧ y ≤ 16) : shrI x y = x / (2 : Int) ^ y.toNat := by
  have h : ∀ (k : Nat) (s : Int32), (s.toBitVec.smod 32).toNat = k → (Int32.ofInt x >>> s).toInt = x / (2 : Int) ^ k := by
    intro k s hs
    rw [pk_shr _ s k hs, i32_toInt ⟨by omega, hx.2⟩, Int.shiftRight_eq_div_pow]
    rfl
  unfold shrI
  rcases (show y = 0 ∨ y = 1 ∨ y = 2 ∨ y = 3 ∨ y = 4 ∨ y = 5 ∨ y = 6 ∨ y = 7 ∨ y = 8 ∨ y = 9 ∨ y = 10 ∨ y = 11 ∨ y = 12 ∨ y = 13 ∨ y = 14 ∨ y = 15 ∨ y = 16 by omega) with rfl | rfl | rfl | rfl | rfl | rfl | rfl | rfl | rfl | rfl | rfl | rfl | rfl | rfl | rfl | rfl | rfl <;> exact h _ _ (by decide)
theorem i32_nat {x : Int} (h0 : 0 ≤ x) (h : x < 2147483648) : (Int32.ofInt x).toBitVec.toNat = x.toNat := by
  have h1 : Int32.ofInt x = nI x.toNat := by
    unfold nI
    rw [← Int32.ofInt_eq_ofNat, show ((x.toNat : Nat) : Int) = x by omega]
  rw [h1, pk_tn (by omega)]
theorem nI_int (n : Nat) (h : n < 2147483648) : (nI n).toInt = n := nI_toInt (by omega)
theorem and_of {x : Int} (k : Nat) (m : Int) (hm : (Int32.ofInt m).toBitVec.toNat = 2 ^ k - 1) (hx : 0 ≤ x ∧ x < 2147483648) (hk : (2 : Nat) ^ k < 2147483648) : andI x m = x % ((2 ^ k : Nat) : Int) := by
  unfold andI
  rw [pk_and _ k hm, i32_nat hx.1 hx.2]
  have h1 : x.toNat % 2 ^ k < 2 ^ k := Nat.mod_lt _ (Nat.two_pow_pos k)
  rw [nI_int _ (by omega), Int.natCast_emod, show ((x.toNat : Nat) : Int) = x by omega]
theorem and1 {x : Int} (hx : 0 ≤ x ∧ x < 2147483648) : andI x 1 = x % 2 := and_of 1 1 (by decide) hx (by decide)
theorem and3 {x : Int} (hx : 0 ≤ x ∧ x < 2147483648) : andI x 3 = x % 4 := and_of 2 3 (by decide) hx (by decide)
theorem pow_pos {k : Nat} : (0 : Int) < 2 ^ k := Int.pow_pos (by decide)
theorem shr_bt {b k : Int} (hb : 0 ≤ b ∧ b < 2147483648) (hk : 0 ≤ k ∧ k ≤ 16) : andI (shrI b k) 1 = bt b k := by
  rw [shr_of hb hk, and1 ⟨Int.ediv_nonneg hb.1 (Int.le_of_lt pow_pos), ?_⟩]
  · rfl
  · exact Int.lt_of_le_of_lt (Int.ediv_le_self _ hb.1) hb.2
theorem bt_0 {k : Int} : bt 0 k = 0 := by unfold bt; simp
/-- with so many quarters one laughs: ticklish, funny, mood, held -/
def qt (t f m h : Int) : Int := if t = 0 ∨ f = 0 then 0 else if h = 1 then (if (t * f + 5 * m) / 20 < 2 then 0 else if 4 < (t * f + 5 * m) / 20 then 2 else (t * f + 5 * m) / 20 - 2) else if 4 < (t * f + 5 * m) / 20 then 4 else (t * f + 5 * m) / 20
theorem mul99 {t f : Int} (ht : 0 ≤ t ∧ t ≤ 9) (hf : 0 ≤ f ∧ f ≤ 9) : 0 ≤ t * f ∧ t * f ≤ 81 := by
  refine ⟨Int.mul_nonneg ht.1 hf.1, ?_⟩
  have := Int.mul_le_mul ht.2 hf.2 hf.1 (by omega)
  omega
theorem qt_in {t f m h : Int} (ht : 0 ≤ t ∧ t ≤ 9) (hf : 0 ≤ f ∧ f ≤ 9) (hm : 0 ≤ m) : 0 ≤ qt t f m h ∧ qt t f m h ≤ 4 := by
  have := mul99 ht hf
  unfold qt
  generalize t * f = x at *
  omega
