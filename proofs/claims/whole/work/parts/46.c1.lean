/-! ===== THE CLASS: its company against the same words ===== -/
def CR (κ μ : Mem) : Prop := KR κ ∧ μ 105 0 = κ 129 0 ∧ μ 106 0 = κ 125 0 ∧ μ 107 0 = κ 126 0 ∧ μ 108 0 = κ 127 0 ∧ μ 109 0 = κ 128 0 ∧ μ 110 0 = κ 130 0 ∧
  (∀ p : Int, 0 ≤ p → p < κ 129 0 → μ 19 p = κ 49 p ∧ μ 20 p = κ 50 p ∧ μ 17 (4 * p) = κ 51 p) ∧ (∀ i : Int, 0 ≤ i → i < κ 125 0 → μ 18 i = κ 52 i) ∧
  (∀ p : Int, 0 ≤ p → p < κ 124 0 → p < κ 129 0 → μ 17 (4 * p + 1) = κ 44 (4 * p + 1) ∧ μ 17 (4 * p + 2) = κ 44 (4 * p + 2) ∧ μ 17 (4 * p + 3) = κ 44 (4 * p + 3))
/-- the room as it was read -/
def RQ (tx : Int → Int) (n : Int) (μ : Mem) : Prop := μ 102 0 = pPe tx n ∧ μ 103 0 = pTa tx n ∧ (∀ k : Int, 0 ≤ k → k < 4 * pPe tx n → μ 14 k = pPr tx n k) ∧ (∀ k : Int, 0 ≤ k → k < pTa tx n → μ 15 k = pFu tx n k) ∧ (∀ k : Int, 0 ≤ k → k < 3 → μ 16 k = lwF tx n k)
theorem c_X8_within {a b : Int} {μ : Mem} (h_a : -2147483648 ≤ a ∧ a < 2147483648) (h_b : -2147483648 ≤ b ∧ b < 2147483648) : Mc kX8_within [.inl a, .inl b] μ (pI (fun z ν => (if 0 ≤ a ∧ a ≤ b then 1 else 0) = z ∧ μ = ν)) := by
  refine Mc_of (by decide +kernel) (fun _ => Nat.le_of_ble_eq_true rfl) ?_
  show AW kX8_within 0 [some (.inl a), some (.inl b)] [] μ _
  refine s_iload_0 (pc := 0) dX8_within_0 ?_
  refine s_if_lt (pc := 1) 13 dX8_within_1 rfl (by omega) (fun h1 => ?_) (fun h1 => ?_)
  · refine s_iconst_0 (pc := 13) dX8_within_13 ?_
    refine s_zreturn (pc := 14) dX8_within_14 rfl (by omega) ?_
    exact ⟨by omega, rfl⟩
  · refine s_iload_0 (pc := 4) dX8_within_4 ?_
    refine s_iload_1 (pc := 5) dX8_within_5 ?_
    refine s_icmp_gt (pc := 6) 13 dX8_within_6 rfl (by omega) (by omega) (fun h6 => ?_) (fun h6 => ?_)
    · refine s_iconst_0 (pc := 13) dX8_within_13 ?_
      refine s_zreturn (pc := 14) dX8_within_14 rfl (by omega) ?_
      exact ⟨by omega, rfl⟩
    · refine s_iconst_1 (pc := 9) dX8_within_9 ?_
      refine s_goto (pc := 10) 14 dX8_within_10 rfl ?_
      refine s_zreturn (pc := 14) dX8_within_14 rfl (by omega) ?_
      exact ⟨by omega, rfl⟩
theorem c_X8_hasBit {b k : Int} {μ : Mem} (hb : 0 ≤ b ∧ b < 2147483648) (hk : 0 ≤ k ∧ k ≤ 16) : Mc kX8_hasBit [.inl b, .inl k] μ (pI (fun z ν => bt b k = z ∧ μ = ν)) := by
  refine Mc_of (by decide +kernel) (fun _ => Nat.le_of_ble_eq_true rfl) ?_
  show AW kX8_hasBit 0 [some (.inl b), some (.inl k)] [] μ _
  refine s_iload_0 (pc := 0) dX8_hasBit_0 ?_
  refine s_iload_1 (pc := 1) dX8_hasBit_1 ?_
  refine s_ishr (pc := 2) dX8_hasBit_2 ?_
  refine s_iconst_1 (pc := 3) dX8_hasBit_3 ?_
  refine s_iand (pc := 4) dX8_hasBit_4 ?_
  rw [shr_bt (by omega) (by omega)]
  have hbt := bt_in (b := b) (k := k)
  refine s_iconst_1 (pc := 5) dX8_hasBit_5 ?_
  refine s_icmp_ne (pc := 6) 13 dX8_hasBit_6 rfl (by omega) (by omega) (fun h6 => ?_) (fun h6 => ?_)
  · refine s_iconst_0 (pc := 13) dX8_hasBit_13 ?_
    refine s_zreturn (pc := 14) dX8_hasBit_14 rfl (by omega) ?_
    exact ⟨by omega, rfl⟩
  · refine s_iconst_1 (pc := 9) dX8_hasBit_9 ?_
    refine s_goto (pc := 10) 14 dX8_hasBit_10 rfl ?_
    refine s_zreturn (pc := 14) dX8_hasBit_14 rfl (by omega) ?_
    exact ⟨by omega, rfl⟩
theorem c_X8_quartersOf {t f m h : Int} {μ : Mem} (ht : 0 ≤ t ∧ t ≤ 9) (hf : 0 ≤ f ∧ f ≤ 9) (hm : 0 ≤ m ∧ m ≤ 4) (hh : h = 0 ∨ h = 1) : Mc kX8_quartersOf [.inl t, .inl f, .inl m, .inl h] μ (pI (fun z ν => qt t f m h = z ∧ μ = ν)) := by
  refine Mc_of (by decide +kernel) (fun _ => Nat.le_of_ble_eq_true rfl) ?_
  show AW kX8_quartersOf 0 [some (.inl t), some (.inl f), some (.inl m), some (.inl h), none, none] [] μ _
  have hqq := mul99 ht hf
  have hqd : qt t f m h = qt t f m h := rfl
  conv at hqd => rhs; unfold qt
  refine s_iload_0 (pc := 0) dX8_quartersOf_0 ?_
  refine s_if_eq (pc := 1) 8 dX8_quartersOf_1 rfl (by omega) (fun h1 => ?_) (fun h1 => ?_)
  · refine s_iconst_0 (pc := 8) dX8_quartersOf_8 ?_
    refine s_ireturn (pc := 9) dX8_quartersOf_9 rfl ?_
    refine ⟨?_, rfl⟩
    generalize qt t f m h = y at *
    generalize t * f = x at *
    omega
  · refine s_iload_1 (pc := 4) dX8_quartersOf_4 ?_
    refine s_if_ne (pc := 5) 10 dX8_quartersOf_5 rfl (by omega) (fun h5 => ?_) (fun h5 => ?_)
    · refine s_iload_0 (pc := 10) dX8_quartersOf_10 ?_
      refine s_iload_1 (pc := 11) dX8_quartersOf_11 ?_
      refine s_imul (pc := 12) dX8_quartersOf_12 ?_
      refine s_iconst_5 (pc := 13) dX8_quartersOf_13 ?_
      refine s_iload_2 (pc := 14) dX8_quartersOf_14 ?_
      refine s_imul (pc := 15) dX8_quartersOf_15 ?_
      refine s_iadd (pc := 16) dX8_quartersOf_16 ?_
      refine s_bipush (pc := 17) (z := 20) dX8_quartersOf_17 rfl ?_
      refine s_idiv (pc := 19) dX8_quartersOf_19 (by omega) (by omega) ?_
      rw [Int.tdiv_eq_ediv_of_nonneg (by omega)]
      refine s_istore_4 (pc := 20) dX8_quartersOf_20 (Nat.le_of_ble_eq_true rfl) rfl ?_
      refine s_iload_4 (pc := 22) dX8_quartersOf_22 ?_
      refine s_iconst_4 (pc := 24) dX8_quartersOf_24 ?_
      refine s_icmp_ge (pc := 25) 33 dX8_quartersOf_25 rfl (by omega) (by omega) (fun h25 => ?_) (fun h25 => ?_)
      · refine s_iconst_4 (pc := 33) dX8_quartersOf_33 ?_
        refine s_istore_5 (pc := 34) dX8_quartersOf_34 (Nat.le_of_ble_eq_true rfl) rfl ?_
        refine s_iload_3 (pc := 36) dX8_quartersOf_36 ?_
        refine s_if_ne (pc := 37) 43 dX8_quartersOf_37 rfl (by omega) (fun h37 => ?_) (fun h37 => ?_)
        · refine s_iload_5 (pc := 43) dX8_quartersOf_43 ?_
          refine s_iconst_2 (pc := 45) dX8_quartersOf_45 ?_
          refine s_icmp_le (pc := 46) 56 dX8_quartersOf_46 rfl (by omega) (by omega) (fun h46 => ?_) (fun h46 => ?_)
          · exact absurd h46 (by decide)
          · refine s_iload_5 (pc := 49) dX8_quartersOf_49 ?_
            refine s_iconst_2 (pc := 51) dX8_quartersOf_51 ?_
            refine s_isub (pc := 52) dX8_quartersOf_52 ?_
            refine s_goto (pc := 53) 57 dX8_quartersOf_53 rfl ?_
            refine s_ireturn (pc := 57) dX8_quartersOf_57 rfl ?_
            refine ⟨?_, rfl⟩
            generalize qt t f m h = y at *
            generalize t * f = x at *
            omega
        · refine s_iload_5 (pc := 40) dX8_quartersOf_40 ?_
          refine s_ireturn (pc := 42) dX8_quartersOf_42 rfl ?_
          refine ⟨?_, rfl⟩
          generalize qt t f m h = y at *
          generalize t * f = x at *
          omega
      · refine s_iload_4 (pc := 28) dX8_quartersOf_28 ?_
        refine s_goto (pc := 30) 34 dX8_quartersOf_30 rfl ?_
        refine s_istore_5 (pc := 34) dX8_quartersOf_34 (Nat.le_of_ble_eq_true rfl) rfl ?_
        refine s_iload_3 (pc := 36) dX8_quartersOf_36 ?_
        refine s_if_ne (pc := 37) 43 dX8_quartersOf_37 rfl (by omega) (fun h37 => ?_) (fun h37 => ?_)
        · refine s_iload_5 (pc := 43) dX8_quartersOf_43 ?_
          refine s_iconst_2 (pc := 45) dX8_quartersOf_45 ?_
          refine s_icmp_le (pc := 46) 56 dX8_quartersOf_46 rfl (by omega) (by omega) (fun h46 => ?_) (fun h46 => ?_)
          · refine s_iconst_0 (pc := 56) dX8_quartersOf_56 ?_
            refine s_ireturn (pc := 57) dX8_quartersOf_57 rfl ?_
            refine ⟨?_, rfl⟩
            generalize qt t f m h = y at *
            generalize t * f = x at *
            omega
          · refine s_iload_5 (pc := 49) dX8_quartersOf_49 ?_
            refine s_iconst_2 (pc := 51) dX8_quartersOf_51 ?_
            refine s_isub (pc := 52) dX8_quartersOf_52 ?_
            refine s_goto (pc := 53) 57 dX8_quartersOf_53 rfl ?_
            refine s_ireturn (pc := 57) dX8_quartersOf_57 rfl ?_
            refine ⟨?_, rfl⟩
            generalize qt t f m h = y at *
            generalize t * f = x at *
            omega
        · refine s_iload_5 (pc := 40) dX8_quartersOf_40 ?_
          refine s_ireturn (pc := 42) dX8_quartersOf_42 rfl ?_
          refine ⟨?_, rfl⟩
          generalize qt t f m h = y at *
          generalize t * f = x at *
          omega
    · refine s_iconst_0 (pc := 8) dX8_quartersOf_8 ?_
      refine s_ireturn (pc := 9) dX8_quartersOf_9 rfl ?_
      refine ⟨?_, rfl⟩
      generalize qt t f m h = y at *
      generalize t * f = x at *
      omega
theorem c_J6_bitCount_0f7a4 {b : Int} {μ : Mem} (hb : 0 ≤ b ∧ b < 16) : Mc kJ6_bitCount_0f7a4 [.inl b] μ (pI (fun z ν => on b = z ∧ μ = ν)) := by
  refine Mc_of (by decide +kernel) (fun _ => Nat.le_of_ble_eq_true rfl) ?_
  show AW kJ6_bitCount_0f7a4 0 [some (.inl b)] [] μ _
  refine s_iload_0 (pc := 0) dJ6_bitCount_0f7a4_0 ?_
  refine s_iload_0 (pc := 1) dJ6_bitCount_0f7a4_1 ?_
  refine s_iconst_1 (pc := 2) dJ6_bitCount_0f7a4_2 ?_
  refine s_iushr (pc := 3) dJ6_bitCount_0f7a4_3 ?_
  refine s_ldc_w (pc := 4) dJ6_bitCount_0f7a4_4 rfl cnJ6_265 ?_
  refine s_iand (pc := 7) dJ6_bitCount_0f7a4_7 ?_
  refine s_isub (pc := 8) dJ6_bitCount_0f7a4_8 ?_
  refine s_istore_0 (pc := 9) dJ6_bitCount_0f7a4_9 (Nat.le_of_ble_eq_true rfl) ?_
  refine s_iload_0 (pc := 10) dJ6_bitCount_0f7a4_10 ?_
  refine s_ldc_w (pc := 11) dJ6_bitCount_0f7a4_11 rfl cnJ6_266 ?_
  refine s_iand (pc := 14) dJ6_bitCount_0f7a4_14 ?_
  refine s_iload_0 (pc := 15) dJ6_bitCount_0f7a4_15 ?_
  refine s_iconst_2 (pc := 16) dJ6_bitCount_0f7a4_16 ?_
  refine s_iushr (pc := 17) dJ6_bitCount_0f7a4_17 ?_
  refine s_ldc_w (pc := 18) dJ6_bitCount_0f7a4_18 rfl cnJ6_266 ?_
  refine s_iand (pc := 21) dJ6_bitCount_0f7a4_21 ?_
  refine s_iadd (pc := 22) dJ6_bitCount_0f7a4_22 ?_
  refine s_istore_0 (pc := 23) dJ6_bitCount_0f7a4_23 (Nat.le_of_ble_eq_true rfl) ?_
  refine s_iload_0 (pc := 24) dJ6_bitCount_0f7a4_24 ?_
  refine s_iload_0 (pc := 25) dJ6_bitCount_0f7a4_25 ?_
  refine s_iconst_4 (pc := 26) dJ6_bitCount_0f7a4_26 ?_
  refine s_iushr (pc := 27) dJ6_bitCount_0f7a4_27 ?_
  refine s_iadd (pc := 28) dJ6_bitCount_0f7a4_28 ?_
  refine s_ldc_w (pc := 29) dJ6_bitCount_0f7a4_29 rfl cnJ6_267 ?_
  refine s_iand (pc := 32) dJ6_bitCount_0f7a4_32 ?_
  refine s_istore_0 (pc := 33) dJ6_bitCount_0f7a4_33 (Nat.le_of_ble_eq_true rfl) ?_
  refine s_iload_0 (pc := 34) dJ6_bitCount_0f7a4_34 ?_
  refine s_iload_0 (pc := 35) dJ6_bitCount_0f7a4_35 ?_
  refine s_bipush (pc := 36) (z := 8) dJ6_bitCount_0f7a4_36 rfl ?_
  refine s_iushr (pc := 38) dJ6_bitCount_0f7a4_38 ?_
  refine s_iadd (pc := 39) dJ6_bitCount_0f7a4_39 ?_
  refine s_istore_0 (pc := 40) dJ6_bitCount_0f7a4_40 (Nat.le_of_ble_eq_true rfl) ?_
  refine s_iload_0 (pc := 41) dJ6_bitCount_0f7a4_41 ?_
  refine s_iload_0 (pc := 42) dJ6_bitCount_0f7a4_42 ?_
  refine s_bipush (pc := 43) (z := 16) dJ6_bitCount_0f7a4_43 rfl ?_
  refine s_iushr (pc := 45) dJ6_bitCount_0f7a4_45 ?_
  refine s_iadd (pc := 46) dJ6_bitCount_0f7a4_46 ?_
  refine s_istore_0 (pc := 47) dJ6_bitCount_0f7a4_47 (Nat.le_of_ble_eq_true rfl) ?_
  refine s_iload_0 (pc := 48) dJ6_bitCount_0f7a4_48 ?_
  refine s_bipush (pc := 49) (z := 63) dJ6_bitCount_0f7a4_49 rfl ?_
  refine s_iand (pc := 51) dJ6_bitCount_0f7a4_51 ?_
  refine s_ireturn (pc := 52) dJ6_bitCount_0f7a4_52 rfl ?_
  refine ⟨?_, rfl⟩
  rcases (show b = 0 ∨ b = 1 ∨ b = 2 ∨ b = 3 ∨ b = 4 ∨ b = 5 ∨ b = 6 ∨ b = 7 ∨ b = 8 ∨ b = 9 ∨ b = 10 ∨ b = 11 ∨ b = 12 ∨ b = 13 ∨ b = 14 ∨ b = 15 by omega) with rfl | rfl | rfl | rfl | rfl | rfl | rfl | rfl | rfl | rfl | rfl | rfl | rfl | rfl | rfl | rfl <;> decide +kernel
theorem c_X8_isPart {a : Int} {μ : Mem} (h_a : -2147483648 ≤ a ∧ a < 2147483648) : Mc kX8_isPart [.inl a] μ (pI (fun z ν => (if 0 ≤ a ∧ a ≤ 1 then 1 else 0) = z ∧ μ = ν)) := by
  refine Mc_of (by decide +kernel) (fun _ => Nat.le_of_ble_eq_true rfl) ?_
  show AW kX8_isPart 0 [some (.inl a)] [] μ _
  refine s_iload_0 (pc := 0) dX8_isPart_0 ?_
  refine s_iconst_1 (pc := 1) dX8_isPart_1 ?_
  refine cS2i (pc := 2) (Ky := kX8_within) dX8_isPart_2 rfl lnX8_81 okX8_within ⟨Nat.le_of_ble_eq_true rfl, Nat.le_of_ble_eq_true rfl⟩ (Nat.le_of_ble_eq_true rfl) (c_X8_within (by omega) (by omega)) ?_
  rintro _ _ ⟨rfl, rfl⟩
  refine s_zreturn (pc := 5) dX8_isPart_5 rfl (by omega) ?_
  exact ⟨rfl, rfl⟩
theorem c_X8_isSheet {a : Int} {μ : Mem} (h_a : -2147483648 ≤ a ∧ a < 2147483648) : Mc kX8_isSheet [.inl a] μ (pI (fun z ν => (if 0 ≤ a ∧ a ≤ 3 then 1 else 0) = z ∧ μ = ν)) := by
  refine Mc_of (by decide +kernel) (fun _ => Nat.le_of_ble_eq_true rfl) ?_
  show AW kX8_isSheet 0 [some (.inl a)] [] μ _
  refine s_iload_0 (pc := 0) dX8_isSheet_0 ?_
  refine s_iconst_3 (pc := 1) dX8_isSheet_1 ?_
  refine cS2i (pc := 2) (Ky := kX8_within) dX8_isSheet_2 rfl lnX8_81 okX8_within ⟨Nat.le_of_ble_eq_true rfl, Nat.le_of_ble_eq_true rfl⟩ (Nat.le_of_ble_eq_true rfl) (c_X8_within (by omega) (by omega)) ?_
  rintro _ _ ⟨rfl, rfl⟩
  refine s_zreturn (pc := 5) dX8_isSheet_5 rfl (by omega) ?_
  exact ⟨rfl, rfl⟩
theorem c_X8_isForm {a : Int} {μ : Mem} (h_a : -2147483648 ≤ a ∧ a < 2147483648) : Mc kX8_isForm [.inl a] μ (pI (fun z ν => (if 0 ≤ a ∧ a ≤ 2 then 1 else 0) = z ∧ μ = ν)) := by
  refine Mc_of (by decide +kernel) (fun _ => Nat.le_of_ble_eq_true rfl) ?_
  show AW kX8_isForm 0 [some (.inl a)] [] μ _
  refine s_iload_0 (pc := 0) dX8_isForm_0 ?_
  refine s_iconst_2 (pc := 1) dX8_isForm_1 ?_
  refine cS2i (pc := 2) (Ky := kX8_within) dX8_isForm_2 rfl lnX8_81 okX8_within ⟨Nat.le_of_ble_eq_true rfl, Nat.le_of_ble_eq_true rfl⟩ (Nat.le_of_ble_eq_true rfl) (c_X8_within (by omega) (by omega)) ?_
  rintro _ _ ⟨rfl, rfl⟩
  refine s_zreturn (pc := 5) dX8_isForm_5 rfl (by omega) ?_
  exact ⟨rfl, rfl⟩
theorem c_X8_mayBeSeen {a b c : Int} {μ : Mem} (h_a : -2147483648 ≤ a ∧ a < 2147483648) (h_b : -2147483648 ≤ b ∧ b < 2147483648) (h_c : -2147483648 ≤ c ∧ c < 2147483648) : Mc kX8_mayBeSeen [.inl a, .inl b, .inl c] μ (pI (fun z ν => (if (0 ≤ a ∧ a ≤ 9) ∧ (0 ≤ b ∧ b ≤ 4) ∧ (0 ≤ c ∧ c ≤ 1) then 1 else 0) = z ∧ μ = ν)) := by
  refine Mc_of (by decide +kernel) (fun _ => Nat.le_of_ble_eq_true rfl) ?_
  show AW kX8_mayBeSeen 0 [some (.inl a), some (.inl b), some (.inl c)] [] μ _
  refine s_iload_0 (pc := 0) dX8_mayBeSeen_0 ?_
  refine s_bipush (pc := 1) (z := 9) dX8_mayBeSeen_1 rfl ?_
  refine cS2i (pc := 3) (Ky := kX8_within) dX8_mayBeSeen_3 rfl lnX8_81 okX8_within ⟨Nat.le_of_ble_eq_true rfl, Nat.le_of_ble_eq_true rfl⟩ (Nat.le_of_ble_eq_true rfl) (c_X8_within (by omega) (by omega)) ?_
  rintro _ _ ⟨rfl, rfl⟩
  refine s_if_eq (pc := 6) 29 dX8_mayBeSeen_6 rfl (by omega) (fun h6 => ?_) (fun h6 => ?_)
  · refine s_iconst_0 (pc := 29) dX8_mayBeSeen_29 ?_
    refine s_zreturn (pc := 30) dX8_mayBeSeen_30 rfl (by omega) ?_
    exact ⟨by omega, rfl⟩
  · refine s_iload_1 (pc := 9) dX8_mayBeSeen_9 ?_
    refine s_iconst_4 (pc := 10) dX8_mayBeSeen_10 ?_
    refine cS2i (pc := 11) (Ky := kX8_within) dX8_mayBeSeen_11 rfl lnX8_81 okX8_within ⟨Nat.le_of_ble_eq_true rfl, Nat.le_of_ble_eq_true rfl⟩ (Nat.le_of_ble_eq_true rfl) (c_X8_within (by omega) (by omega)) ?_
    rintro _ _ ⟨rfl, rfl⟩
    refine s_if_eq (pc := 14) 29 dX8_mayBeSeen_14 rfl (by omega) (fun h14 => ?_) (fun h14 => ?_)
    · refine s_iconst_0 (pc := 29) dX8_mayBeSeen_29 ?_
      refine s_zreturn (pc := 30) dX8_mayBeSeen_30 rfl (by omega) ?_
      exact ⟨by omega, rfl⟩
    · refine s_iload_2 (pc := 17) dX8_mayBeSeen_17 ?_
      refine s_iconst_1 (pc := 18) dX8_mayBeSeen_18 ?_
      refine cS2i (pc := 19) (Ky := kX8_within) dX8_mayBeSeen_19 rfl lnX8_81 okX8_within ⟨Nat.le_of_ble_eq_true rfl, Nat.le_of_ble_eq_true rfl⟩ (Nat.le_of_ble_eq_true rfl) (c_X8_within (by omega) (by omega)) ?_
      rintro _ _ ⟨rfl, rfl⟩
      refine s_if_eq (pc := 22) 29 dX8_mayBeSeen_22 rfl (by omega) (fun h22 => ?_) (fun h22 => ?_)
      · refine s_iconst_0 (pc := 29) dX8_mayBeSeen_29 ?_
        refine s_zreturn (pc := 30) dX8_mayBeSeen_30 rfl (by omega) ?_
        exact ⟨by omega, rfl⟩
      · refine s_iconst_1 (pc := 25) dX8_mayBeSeen_25 ?_
        refine s_goto (pc := 26) 30 dX8_mayBeSeen_26 rfl ?_
        refine s_zreturn (pc := 30) dX8_mayBeSeen_30 rfl (by omega) ?_
        exact ⟨by omega, rfl⟩
theorem c_X8_asLong {a : Int} {μ : Mem} (h_a : -2147483648 ≤ a ∧ a < 2147483648) : Mc kX8_asLong [.inl a] μ (pL (fun z ν => -9223372036854775808 - a = z ∧ μ = ν)) := by
  refine Mc_of (by decide +kernel) (fun _ => Nat.le_of_ble_eq_true rfl) ?_
  show AW kX8_asLong 0 [some (.inl a)] [] μ _
  refine s_ldc2_w (pc := 0) dX8_asLong_0 rfl cnX8_344 ?_
  refine s_iload_0 (pc := 3) dX8_asLong_3 ?_
  refine s_i2l (pc := 4) dX8_asLong_4 (by omega) ?_
  refine s_lsub (pc := 5) dX8_asLong_5 ?_
  refine s_lreturn (pc := 6) dX8_asLong_6 rfl ?_
  exact ⟨rfl, rfl⟩
theorem c_X8_isPerson {a P : Int} {μ : Mem} (h_a : -2147483648 ≤ a ∧ a < 2147483648) (e : μ 102 0 = P) (hP : 0 ≤ P ∧ P ≤ 4) : Mc kX8_isPerson [.inr (.inr 0), .inl a] μ (pI (fun z ν => (if 0 ≤ a ∧ a < P then 1 else 0) = z ∧ μ = ν)) := by
  refine Mc_of (by decide +kernel) (fun _ => Nat.le_of_ble_eq_true rfl) ?_
  show AW kX8_isPerson 0 [some (.inr (.inr 0)), some (.inl a)] [] μ _
  refine s_iload_1 (pc := 0) dX8_isPerson_0 ?_
  refine s_aload_0 (pc := 1) dX8_isPerson_1 ?_
  refine gfX8_12 (pc := 2) dX8_isPerson_2 rfl ?_
  refine gfX8_182 (pc := 5) dX8_isPerson_5 rfl ?_
  refine s_iconst_1 (pc := 8) dX8_isPerson_8 ?_
  refine s_isub (pc := 9) dX8_isPerson_9 ?_
  refine cS2i (pc := 10) (Ky := kX8_within) dX8_isPerson_10 rfl lnX8_81 okX8_within ⟨Nat.le_of_ble_eq_true rfl, Nat.le_of_ble_eq_true rfl⟩ (Nat.le_of_ble_eq_true rfl) (c_X8_within (by omega) (by omega)) ?_
  rintro _ _ ⟨rfl, rfl⟩
  refine s_zreturn (pc := 13) dX8_isPerson_13 rfl (by omega) ?_
  exact ⟨by omega, rfl⟩
theorem c_X8_isTale {a T : Int} {μ : Mem} (h_a : -2147483648 ≤ a ∧ a < 2147483648) (e : μ 103 0 = T) (hT : 0 ≤ T ∧ T ≤ 4) : Mc kX8_isTale [.inr (.inr 0), .inl a] μ (pI (fun z ν => (if 0 ≤ a ∧ a < T then 1 else 0) = z ∧ μ = ν)) := by
  refine Mc_of (by decide +kernel) (fun _ => Nat.le_of_ble_eq_true rfl) ?_
  show AW kX8_isTale 0 [some (.inr (.inr 0)), some (.inl a)] [] μ _
  refine s_iload_1 (pc := 0) dX8_isTale_0 ?_
  refine s_aload_0 (pc := 1) dX8_isTale_1 ?_
  refine gfX8_12 (pc := 2) dX8_isTale_2 rfl ?_
  refine gfX8_121 (pc := 5) dX8_isTale_5 rfl ?_
  refine s_iconst_1 (pc := 8) dX8_isTale_8 ?_
  refine s_isub (pc := 9) dX8_isTale_9 ?_
  refine cS2i (pc := 10) (Ky := kX8_within) dX8_isTale_10 rfl lnX8_81 okX8_within ⟨Nat.le_of_ble_eq_true rfl, Nat.le_of_ble_eq_true rfl⟩ (Nat.le_of_ble_eq_true rfl) (c_X8_within (by omega) (by omega)) ?_
  rintro _ _ ⟨rfl, rfl⟩
  refine s_zreturn (pc := 13) dX8_isTale_13 rfl (by omega) ?_
  exact ⟨by omega, rfl⟩
theorem c_X1_isThere {κ : Mem} {p i : Int} {μ : Mem} (hC : CR κ μ) (hp : 0 ≤ p ∧ p < κ 129 0) (hi : 0 ≤ i ∧ i < 4) : Mc kX1_isThere [.inr (.inr 2), .inl p, .inl i] μ (pI (fun z ν => (if i < κ 50 p ∧ bt (κ 130 0) p = 0 then 1 else 0) = z ∧ μ = ν)) := by
  refine Mc_of (by decide +kernel) (fun _ => Nat.le_of_ble_eq_true rfl) ?_
  show AW kX1_isThere 0 [some (.inr (.inr 2)), some (.inl p), some (.inl i)] [] μ _
  obtain ⟨hkr, c105, c106, c107, c108, c109, c110, cP, cT, cF⟩ := id hC
  obtain ⟨r129, r125, r126, r127, r128, r130, rP, r124, r44⟩ := id hkr
  obtain ⟨c19, c20, c17⟩ := cP p hp.1 hp.2
  obtain ⟨r49, r50, r51, r52⟩ := rP p hp.1 (by omega)
  refine s_iload_2 (pc := 0) dX1_isThere_0 ?_
  refine s_aload_0 (pc := 1) dX1_isThere_1 ?_
  refine gfX1_21 (pc := 2) dX1_isThere_2 rfl ?_
  refine s_iload_1 (pc := 5) dX1_isThere_5 ?_
  refine z_iaload (pc := 6) dX1_isThere_6 ly_20 (by omega) (by omega) ?_
  try rw [c20]
  try rw [c110]
  refine s_icmp_ge (pc := 7) 25 dX1_isThere_7 rfl (by omega) (by omega) (fun h7 => ?_) (fun h7 => ?_)
  · refine s_iconst_0 (pc := 25) dX1_isThere_25 ?_
    refine s_zreturn (pc := 26) dX1_isThere_26 rfl (by omega) ?_
    refine ⟨?_, rfl⟩
    first | (rw [if_neg (fun q => by have := q.1; have := q.2; omega)]; done) | rw [if_pos ⟨by omega, by omega⟩]
  · refine s_aload_0 (pc := 10) dX1_isThere_10 ?_
    refine gfX1_57 (pc := 11) dX1_isThere_11 rfl ?_
    try rw [c20]
    try rw [c110]
    refine s_iload_1 (pc := 14) dX1_isThere_14 ?_
    refine s_ishr (pc := 15) dX1_isThere_15 ?_
    refine s_iconst_1 (pc := 16) dX1_isThere_16 ?_
    refine s_iand (pc := 17) dX1_isThere_17 ?_
    rw [shr_bt (by omega) (by omega)]
    have hbt := bt_in (b := κ 130 0) (k := p)
    refine s_if_ne (pc := 18) 25 dX1_isThere_18 rfl (by omega) (fun h18 => ?_) (fun h18 => ?_)
    · refine s_iconst_0 (pc := 25) dX1_isThere_25 ?_
      refine s_zreturn (pc := 26) dX1_isThere_26 rfl (by omega) ?_
      refine ⟨?_, rfl⟩
      first | (rw [if_neg (fun q => by have := q.1; have := q.2; omega)]; done) | rw [if_pos ⟨by omega, by omega⟩]
    · refine s_iconst_1 (pc := 21) dX1_isThere_21 ?_
      refine s_goto (pc := 22) 26 dX1_isThere_22 rfl ?_
      refine s_zreturn (pc := 26) dX1_isThere_26 rfl (by omega) ?_
      refine ⟨?_, rfl⟩
      first | (rw [if_neg (fun q => by have := q.1; have := q.2; omega)]; done) | rw [if_pos ⟨by omega, by omega⟩]
theorem c_X1_quartersAt {κ : Mem} {p i : Int} {μ : Mem} (hC : CR κ μ) (hp : 0 ≤ p ∧ p < κ 129 0) (hi : 0 ≤ i ∧ i < κ 125 0) : Mc kX1_quartersAt [.inr (.inr 2), .inl p, .inl i] μ (pI (fun z ν => kq κ p i = z ∧ μ = ν)) := by
  refine Mc_of (by decide +kernel) (fun _ => Nat.le_of_ble_eq_true rfl) ?_
  show AW kX1_quartersAt 0 [some (.inr (.inr 2)), some (.inl p), some (.inl i), none] [] μ _
  obtain ⟨hkr, c105, c106, c107, c108, c109, c110, cP, cT, cF⟩ := id hC
  obtain ⟨r129, r125, r126, r127, r128, r130, rP, r124, r44⟩ := id hkr
  obtain ⟨c19, c20, c17⟩ := cP p hp.1 hp.2
  obtain ⟨r49, r50, r51, r52⟩ := rP p hp.1 (by omega)
  refine s_aload_0 (pc := 0) dX1_quartersAt_0 ?_
  refine s_iload_1 (pc := 1) dX1_quartersAt_1 ?_
  refine s_iload_2 (pc := 2) dX1_quartersAt_2 ?_
  refine cV2i (pc := 3) (Ky := kX1_isThere) dX1_quartersAt_3 rfl lnX1_68 okX1_isThere ⟨1, TX1, 13, rfl, rfl⟩ ⟨Nat.le_of_ble_eq_true rfl, Nat.le_of_ble_eq_true rfl⟩ (Nat.le_of_ble_eq_true rfl) (c_X1_isThere hC hp (by omega)) ?_
  rintro _ _ ⟨rfl, rfl⟩
  refine s_if_ne (pc := 6) 11 dX1_quartersAt_6 rfl (by omega) (fun h6 => ?_) (fun h6 => ?_)
  · have hth : i < κ 50 p ∧ bt (κ 130 0) p = 0 := Decidable.byContradiction fun q => by rw [if_neg q] at h6; exact h6 rfl
    have cTi := cT i hi.1 hi.2
    have rTi := (rP i hi.1 (by omega)).2.2.2
    refine s_iload_2 (pc := 11) dX1_quartersAt_11 ?_
    refine s_if_ne (pc := 12) 19 dX1_quartersAt_12 rfl (by omega) (fun h12 => ?_) (fun h12 => ?_)
    · have cTj := cT (i - 1) (by omega) (by omega)
      have rTj := (rP (i - 1) (by omega) (by omega)).2.2.2
      refine s_aload_0 (pc := 19) dX1_quartersAt_19 ?_
      refine gfX1_15 (pc := 20) dX1_quartersAt_20 rfl ?_
      refine s_iload_2 (pc := 23) dX1_quartersAt_23 ?_
      refine s_iconst_1 (pc := 24) dX1_quartersAt_24 ?_
      refine s_isub (pc := 25) dX1_quartersAt_25 ?_
      refine z_iaload (pc := 26) dX1_quartersAt_26 ly_18 (by omega) (by omega) ?_
      try rw [c17]
      try rw [c19]
      try rw [cTi]
      try rw [cTj]
      refine s_iconst_2 (pc := 27) dX1_quartersAt_27 ?_
      refine s_idiv (pc := 28) dX1_quartersAt_28 (by omega) (by omega) ?_
      rw [Int.tdiv_eq_ediv_of_nonneg (by omega)]
      refine s_istore_3 (pc := 29) dX1_quartersAt_29 (Nat.le_of_ble_eq_true rfl) rfl ?_
      refine s_aload_0 (pc := 30) dX1_quartersAt_30 ?_
      refine gfX1_9 (pc := 31) dX1_quartersAt_31 rfl ?_
      refine s_iconst_4 (pc := 34) dX1_quartersAt_34 ?_
      refine s_iload_1 (pc := 35) dX1_quartersAt_35 ?_
      refine s_imul (pc := 36) dX1_quartersAt_36 ?_
      refine s_iconst_0 (pc := 37) dX1_quartersAt_37 ?_
      refine s_iadd (pc := 38) dX1_quartersAt_38 ?_
      rw [show 4 * p + 0 = 4 * p by omega]
      refine z_iaload (pc := 39) dX1_quartersAt_39 ly_17 (by omega) (by omega) ?_
      try rw [c17]
      try rw [c19]
      try rw [cTi]
      try rw [cTj]
      refine s_aload_0 (pc := 40) dX1_quartersAt_40 ?_
      refine gfX1_15 (pc := 41) dX1_quartersAt_41 rfl ?_
      refine s_iload_2 (pc := 44) dX1_quartersAt_44 ?_
      refine z_iaload (pc := 45) dX1_quartersAt_45 ly_18 (by omega) (by omega) ?_
      try rw [c17]
      try rw [c19]
      try rw [cTi]
      try rw [cTj]
      refine s_iload_3 (pc := 46) dX1_quartersAt_46 ?_
      refine s_aload_0 (pc := 47) dX1_quartersAt_47 ?_
      refine gfX1_18 (pc := 48) dX1_quartersAt_48 rfl ?_
      refine s_iload_1 (pc := 51) dX1_quartersAt_51 ?_
      refine z_iaload (pc := 52) dX1_quartersAt_52 ly_19 (by omega) (by omega) ?_
      try rw [c17]
      try rw [c19]
      try rw [cTi]
      try rw [cTj]
      refine s_iload_2 (pc := 53) dX1_quartersAt_53 ?_
      refine cN2i (pc := 54) (Ky := kX8_hasBit) dX1_quartersAt_54 rfl nsX1_72 okX8_hasBit ⟨Nat.le_of_ble_eq_true rfl, Nat.le_of_ble_eq_true rfl⟩ (Nat.le_of_ble_eq_true rfl) (c_X8_hasBit (by omega) (by omega)) ?_
      rintro _ _ ⟨rfl, rfl⟩
      have hbt := bt_in (b := κ 49 p) (k := i)
      refine cN4i (pc := 57) (Ky := kX8_quartersOf) dX1_quartersAt_57 rfl nsX1_75 okX8_quartersOf ⟨Nat.le_of_ble_eq_true rfl, Nat.le_of_ble_eq_true rfl⟩ (Nat.le_of_ble_eq_true rfl) (c_X8_quartersOf (by omega) (by omega) (by omega) (by omega)) ?_
      rintro _ _ ⟨rfl, rfl⟩
      refine s_ireturn (pc := 60) dX1_quartersAt_60 rfl ?_
      refine ⟨?_, rfl⟩
      first
        | (rw [kq, if_neg hth]; done)
        | (rw [kq, if_pos hth, if_pos (by omega)]; done)
        | (rw [kq, if_pos hth, if_neg (by omega)]; done)
    · refine s_iconst_0 (pc := 15) dX1_quartersAt_15 ?_
      refine s_goto (pc := 16) 29 dX1_quartersAt_16 rfl ?_
      refine s_istore_3 (pc := 29) dX1_quartersAt_29 (Nat.le_of_ble_eq_true rfl) rfl ?_
      refine s_aload_0 (pc := 30) dX1_quartersAt_30 ?_
      refine gfX1_9 (pc := 31) dX1_quartersAt_31 rfl ?_
      refine s_iconst_4 (pc := 34) dX1_quartersAt_34 ?_
      refine s_iload_1 (pc := 35) dX1_quartersAt_35 ?_
      refine s_imul (pc := 36) dX1_quartersAt_36 ?_
      refine s_iconst_0 (pc := 37) dX1_quartersAt_37 ?_
      refine s_iadd (pc := 38) dX1_quartersAt_38 ?_
      rw [show 4 * p + 0 = 4 * p by omega]
      refine z_iaload (pc := 39) dX1_quartersAt_39 ly_17 (by omega) (by omega) ?_
      try rw [c17]
      try rw [c19]
      try rw [cTi]
      try rw [cTj]
      refine s_aload_0 (pc := 40) dX1_quartersAt_40 ?_
      refine gfX1_15 (pc := 41) dX1_quartersAt_41 rfl ?_
      refine s_iload_2 (pc := 44) dX1_quartersAt_44 ?_
      refine z_iaload (pc := 45) dX1_quartersAt_45 ly_18 (by omega) (by omega) ?_
      try rw [c17]
      try rw [c19]
      try rw [cTi]
      try rw [cTj]
      refine s_iload_3 (pc := 46) dX1_quartersAt_46 ?_
      refine s_aload_0 (pc := 47) dX1_quartersAt_47 ?_
      refine gfX1_18 (pc := 48) dX1_quartersAt_48 rfl ?_
      refine s_iload_1 (pc := 51) dX1_quartersAt_51 ?_
      refine z_iaload (pc := 52) dX1_quartersAt_52 ly_19 (by omega) (by omega) ?_
      try rw [c17]
      try rw [c19]
      try rw [cTi]
      try rw [cTj]
      refine s_iload_2 (pc := 53) dX1_quartersAt_53 ?_
      refine cN2i (pc := 54) (Ky := kX8_hasBit) dX1_quartersAt_54 rfl nsX1_72 okX8_hasBit ⟨Nat.le_of_ble_eq_true rfl, Nat.le_of_ble_eq_true rfl⟩ (Nat.le_of_ble_eq_true rfl) (c_X8_hasBit (by omega) (by omega)) ?_
      rintro _ _ ⟨rfl, rfl⟩
      have hbt := bt_in (b := κ 49 p) (k := i)
      refine cN4i (pc := 57) (Ky := kX8_quartersOf) dX1_quartersAt_57 rfl nsX1_75 okX8_quartersOf ⟨Nat.le_of_ble_eq_true rfl, Nat.le_of_ble_eq_true rfl⟩ (Nat.le_of_ble_eq_true rfl) (c_X8_quartersOf (by omega) (by omega) (by omega) (by omega)) ?_
      rintro _ _ ⟨rfl, rfl⟩
      refine s_ireturn (pc := 60) dX1_quartersAt_60 rfl ?_
      refine ⟨?_, rfl⟩
      first
        | (rw [kq, if_neg hth]; done)
        | (rw [kq, if_pos hth, if_pos (by omega)]; done)
        | (rw [kq, if_pos hth, if_neg (by omega)]; done)
  · have hth : ¬ (i < κ 50 p ∧ bt (κ 130 0) p = 0) := fun q => by rw [if_pos q] at h6; exact absurd h6 (by decide)
    refine s_iconst_0 (pc := 9) dX1_quartersAt_9 ?_
    refine s_ireturn (pc := 10) dX1_quartersAt_10 rfl ?_
    refine ⟨?_, rfl⟩
    first
      | (rw [kq, if_neg hth]; done)
      | (rw [kq, if_pos hth, if_pos (by omega)]; done)
      | (rw [kq, if_pos hth, if_neg (by omega)]; done)
