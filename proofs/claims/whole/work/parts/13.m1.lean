theorem c_X9_in {v lo hi : Int} {μ : Mem} (h_v : -9223372036854775808 ≤ v ∧ v < 9223372036854775808) (h_lo : -9223372036854775808 ≤ lo ∧ lo < 9223372036854775808) (h_hi : -9223372036854775808 ≤ hi ∧ hi < 9223372036854775808) : Mc kX9_in [.inr (.inl v), .inr (.inl lo), .inr (.inl hi)] μ (pI (fun z ν => (if lo ≤ v ∧ v ≤ hi then 1 else 0) = z ∧ μ = ν)) := by
  refine Mc_of (by decide +kernel) (fun _ => Nat.le_of_ble_eq_true rfl) ?_
  show AW kX9_in 0 [some (.inr (.inl v)), none, some (.inr (.inl lo)), none, some (.inr (.inl hi)), none] [] μ _
  refine s_lload_0 (pc := 0) dX9_in_0 ?_
  refine s_lload_2 (pc := 1) dX9_in_1 ?_
  refine s_lif_lt (pc := 2) 17 dX9_in_2 dX9_in_3 rfl (by omega) (by omega) (fun h3 => ?_) (fun h3 => ?_)
  · refine s_iconst_0 (pc := 17) dX9_in_17 ?_
    refine s_zreturn (pc := 18) dX9_in_18 rfl (by omega) ?_
    refine ⟨?_, rfl⟩
    omega
  · refine s_lload_0 (pc := 6) dX9_in_6 ?_
    refine s_lload_4 (pc := 7) dX9_in_7 ?_
    refine s_lif_gt (pc := 9) 17 dX9_in_9 dX9_in_10 rfl (by omega) (by omega) (fun h10 => ?_) (fun h10 => ?_)
    · refine s_iconst_0 (pc := 17) dX9_in_17 ?_
      refine s_zreturn (pc := 18) dX9_in_18 rfl (by omega) ?_
      refine ⟨?_, rfl⟩
      omega
    · refine s_iconst_1 (pc := 13) dX9_in_13 ?_
      refine s_goto (pc := 14) 18 dX9_in_14 rfl ?_
      refine s_zreturn (pc := 18) dX9_in_18 rfl (by omega) ?_
      refine ⟨?_, rfl⟩
      omega
theorem c_X9_no {r : Int} {μ : Mem} (h_r : -2147483648 ≤ r ∧ r < 2147483648) : Mc kX9_no [.inl r] μ (pL (fun z ν => -9223372036854775808 - r = z ∧ μ = ν)) := by
  refine Mc_of (by decide +kernel) (fun _ => Nat.le_of_ble_eq_true rfl) ?_
  show AW kX9_no 0 [some (.inl r)] [] μ _
  refine s_ldc2_w (pc := 0) dX9_no_0 rfl cnX9_87 ?_
  refine s_iload_0 (pc := 3) dX9_no_3 ?_
  refine s_i2l (pc := 4) dX9_no_4 (by omega) ?_
  refine s_lsub (pc := 5) dX9_no_5 ?_
  refine s_lreturn (pc := 6) dX9_no_6 rfl ?_
  exact ⟨rfl, rfl⟩
theorem c_X9_isTwo {v : Int} {μ : Mem} (h_v : -2147483648 ≤ v ∧ v < 2147483648) : Mc kX9_isTwo [.inl v] μ (pI (fun z ν => (if 0 ≤ v ∧ v ≤ 1 then 1 else 0) = z ∧ μ = ν)) := by
  refine Mc_of (by decide +kernel) (fun _ => Nat.le_of_ble_eq_true rfl) ?_
  show AW kX9_isTwo 0 [some (.inl v)] [] μ _
  refine s_iload_0 (pc := 0) dX9_isTwo_0 ?_
  refine s_i2l (pc := 1) dX9_isTwo_1 (by omega) ?_
  refine s_lconst_0 (pc := 2) dX9_isTwo_2 ?_
  refine s_lconst_1 (pc := 3) dX9_isTwo_3 ?_
  refine cS3i (pc := 4) (Ky := kX9_in) dX9_isTwo_4 rfl lnX9_89 okX9_in ⟨Nat.le_of_ble_eq_true rfl, Nat.le_of_ble_eq_true rfl⟩ (Nat.le_of_ble_eq_true rfl) (c_X9_in (by omega) (by omega) (by omega)) ?_
  rintro _ _ ⟨rfl, rfl⟩
  refine s_zreturn (pc := 7) dX9_isTwo_7 rfl (by omega) ?_
  exact ⟨rfl, rfl⟩
theorem c_X9_met {f : Int} {μ : Mem} (h_f : -2147483648 ≤ f ∧ f < 2147483648) : Mc kX9_met [.inr (.inr 9), .inl f] μ (pI (fun z ν => -10 - f = z ∧ wr μ 121 0 f = ν)) := by
  refine Mc_of (by decide +kernel) (fun _ => Nat.le_of_ble_eq_true rfl) ?_
  show AW kX9_met 0 [some (.inr (.inr 9)), some (.inl f)] [] μ _
  refine s_aload_0 (pc := 0) dX9_met_0 ?_
  refine s_iload_1 (pc := 1) dX9_met_1 ?_
  refine pfX9_93 (pc := 2) dX9_met_2 rfl ?_
  refine s_bipush (pc := 5) (z := -10) dX9_met_5 rfl ?_
  refine s_iload_1 (pc := 7) dX9_met_7 ?_
  refine s_isub (pc := 8) dX9_met_8 ?_
  refine s_ireturn (pc := 9) dX9_met_9 rfl ?_
  exact ⟨rfl, rfl⟩
theorem c_X9_isSheet {v : Int} {μ : Mem} (h_v : -2147483648 ≤ v ∧ v < 2147483648) : Mc kX9_isSheet [.inl v] μ (pI (fun z ν => (if 0 ≤ v ∧ v ≤ 3 then 1 else 0) = z ∧ μ = ν)) := by
  refine Mc_of (by decide +kernel) (fun _ => Nat.le_of_ble_eq_true rfl) ?_
  show AW kX9_isSheet 0 [some (.inl v)] [] μ _
  refine s_iload_0 (pc := 0) dX9_isSheet_0 ?_
  refine s_i2l (pc := 1) dX9_isSheet_1 (by omega) ?_
  refine s_lconst_0 (pc := 2) dX9_isSheet_2 ?_
  refine s_ldc2_w (pc := 3) dX9_isSheet_3 rfl cnX9_97 ?_
  refine cS3i (pc := 6) (Ky := kX9_in) dX9_isSheet_6 rfl lnX9_89 okX9_in ⟨Nat.le_of_ble_eq_true rfl, Nat.le_of_ble_eq_true rfl⟩ (Nat.le_of_ble_eq_true rfl) (c_X9_in (by omega) (by omega) (by omega)) ?_
  rintro _ _ ⟨rfl, rfl⟩
  refine s_zreturn (pc := 9) dX9_isSheet_9 rfl (by omega) ?_
  exact ⟨rfl, rfl⟩
