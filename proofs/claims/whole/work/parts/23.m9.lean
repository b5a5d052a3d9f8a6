def lwF (tx : Int → Int) (n k : Int) : Int := if k = 2 ∧ pPe tx n ≤ pLa tx n 2 then 0 else pLa tx n k
theorem lwF_in {tx : Int → Int} {n : Int} (h : 0 ≤ n) : (0 ≤ lwF tx n 0 ∧ lwF tx n 0 ≤ 2) ∧ (0 ≤ lwF tx n 1 ∧ lwF tx n 1 ≤ 2) ∧ (0 ≤ lwF tx n 2 ∧ lwF tx n 2 ≤ 3) := by
  have := pLa_in (tx := tx) h
  unfold lwF
  omega
theorem c_X9_isAnyone {v : Int} {μ : Mem} (h_v : -2147483648 ≤ v ∧ v < 2147483648) : Mc kX9_isAnyone [.inl v] μ (pI (fun z ν => (if 0 ≤ v ∧ v ≤ 3 then 1 else 0) = z ∧ μ = ν)) := by
  refine Mc_of (by decide +kernel) (fun _ => Nat.le_of_ble_eq_true rfl) ?_
  show AW kX9_isAnyone 0 [some (.inl v)] [] μ _
  refine s_iload_0 (pc := 0) dX9_isAnyone_0 ?_
  refine s_i2l (pc := 1) dX9_isAnyone_1 (by omega) ?_
  refine s_lconst_0 (pc := 2) dX9_isAnyone_2 ?_
  refine s_ldc2_w (pc := 3) dX9_isAnyone_3 rfl cnX9_97 ?_
  refine cS3i (pc := 6) (Ky := kX9_in) dX9_isAnyone_6 rfl lnX9_89 okX9_in ⟨Nat.le_of_ble_eq_true rfl, Nat.le_of_ble_eq_true rfl⟩ (Nat.le_of_ble_eq_true rfl) (c_X9_in (by omega) (by omega) (by omega)) ?_
  rintro _ _ ⟨rfl, rfl⟩
  refine s_zreturn (pc := 9) dX9_isAnyone_9 rfl (by omega) ?_
  exact ⟨rfl, rfl⟩
theorem c_X9_isTicklish {v : Int} {μ : Mem} (h_v : -2147483648 ≤ v ∧ v < 2147483648) : Mc kX9_isTicklish [.inl v] μ (pI (fun z ν => (if 0 ≤ v ∧ v ≤ 9 then 1 else 0) = z ∧ μ = ν)) := by
  refine Mc_of (by decide +kernel) (fun _ => Nat.le_of_ble_eq_true rfl) ?_
  show AW kX9_isTicklish 0 [some (.inl v)] [] μ _
  refine s_iload_0 (pc := 0) dX9_isTicklish_0 ?_
  refine s_i2l (pc := 1) dX9_isTicklish_1 (by omega) ?_
  refine s_lconst_0 (pc := 2) dX9_isTicklish_2 ?_
  refine s_ldc2_w (pc := 3) dX9_isTicklish_3 rfl cnX9_300 ?_
  refine cS3i (pc := 6) (Ky := kX9_in) dX9_isTicklish_6 rfl lnX9_89 okX9_in ⟨Nat.le_of_ble_eq_true rfl, Nat.le_of_ble_eq_true rfl⟩ (Nat.le_of_ble_eq_true rfl) (c_X9_in (by omega) (by omega) (by omega)) ?_
  rintro _ _ ⟨rfl, rfl⟩
  refine s_zreturn (pc := 9) dX9_isTicklish_9 rfl (by omega) ?_
  exact ⟨rfl, rfl⟩
theorem c_X9_fault {tx : Int → Int} {n : Int} {μ : Mem} (e43 : μ 43 = tx) (e122 : μ 122 0 = n) (hn : 0 ≤ n ∧ n ≤ 60) (ht : ∀ k : Int, 0 ≤ k → k < n → 0 ≤ tx k ∧ tx k ≤ 255) : Mc kX9_fault [.inr (.inr 9)] μ (pI (fun z ν => pFa tx n = z ∧ Fr [44, 45, 46, 123, 124, 125] μ ν)) := by
  refine Mc_of (by decide +kernel) (fun _ => Nat.le_of_ble_eq_true rfl) ?_
  show AW kX9_fault 0 [some (.inr (.inr 9))] [] μ _
  refine s_aload_0 (pc := 0) dX9_fault_0 ?_
  refine cV0i (pc := 1) (Ky := kX9_reads) dX9_fault_1 rfl lnX9_155 okX9_reads ⟨9, TX9, 40, rfl, rfl⟩ ⟨Nat.le_of_ble_eq_true rfl, Nat.le_of_ble_eq_true rfl⟩ (Nat.le_of_ble_eq_true rfl) (c_X9_reads e43 e122 hn ht) ?_
  rintro _ ν1 ⟨rfl, hF1, hM1⟩
  refine s_ireturn (pc := 4) dX9_fault_4 rfl ?_
  exact ⟨rfl, hF1⟩
theorem c_X9_isPerson {tx : Int → Int} {n p : Int} {μ : Mem} (h_p : -2147483648 ≤ p ∧ p < 2147483648) (e43 : μ 43 = tx) (e122 : μ 122 0 = n) (hn : 0 ≤ n ∧ n ≤ 60) (ht : ∀ k : Int, 0 ≤ k → k < n → 0 ≤ tx k ∧ tx k ≤ 255) : Mc kX9_isPerson [.inr (.inr 9), .inl p] μ (pI (fun z ν => (if 0 ≤ p ∧ p < pPe tx n then 1 else 0) = z ∧ Fr [44, 45, 46, 123, 124, 125] μ ν ∧ RM tx n ν)) := by
  refine Mc_of (by decide +kernel) (fun _ => Nat.le_of_ble_eq_true rfl) ?_
  show AW kX9_isPerson 0 [some (.inr (.inr 9)), some (.inl p)] [] μ _
  have hpe := pPe_in (tx := tx) hn.1
  have hta := pTa_in (tx := tx) hn.1
  have hla := pLa_in (tx := tx) hn.1
  refine s_aload_0 (pc := 0) dX9_isPerson_0 ?_
  refine cV0i (pc := 1) (Ky := kX9_reads) dX9_isPerson_1 rfl lnX9_155 okX9_reads ⟨9, TX9, 40, rfl, rfl⟩ ⟨Nat.le_of_ble_eq_true rfl, Nat.le_of_ble_eq_true rfl⟩ (Nat.le_of_ble_eq_true rfl) (c_X9_reads e43 e122 hn ht) ?_
  rintro _ ν1 ⟨rfl, hF1, hM1⟩
  obtain ⟨k1, k2, k3, k4, k5⟩ := id hM1
  refine s_pop (pc := 4) dX9_isPerson_4 rfl ?_
  refine s_iload_1 (pc := 5) dX9_isPerson_5 ?_
  refine s_i2l (pc := 6) dX9_isPerson_6 (by omega) ?_
  refine s_lconst_0 (pc := 7) dX9_isPerson_7 ?_
  refine s_aload_0 (pc := 8) dX9_isPerson_8 ?_
  refine gfX9_126 (pc := 9) dX9_isPerson_9 rfl ?_
  refine s_iconst_1 (pc := 12) dX9_isPerson_12 ?_
  refine s_isub (pc := 13) dX9_isPerson_13 ?_
  refine s_i2l (pc := 14) dX9_isPerson_14 (by omega) ?_
  refine cS3i (pc := 15) (Ky := kX9_in) dX9_isPerson_15 rfl lnX9_89 okX9_in ⟨Nat.le_of_ble_eq_true rfl, Nat.le_of_ble_eq_true rfl⟩ (Nat.le_of_ble_eq_true rfl) (c_X9_in (by omega) (by omega) (by omega)) ?_
  rintro _ _ ⟨rfl, rfl⟩
  refine s_zreturn (pc := 18) dX9_isPerson_18 rfl (by omega) ?_
  exact ⟨by omega, hF1, hM1⟩
theorem c_X9_person {tx : Int → Int} {n p w : Int} {μ : Mem} (h_p : -2147483648 ≤ p ∧ p < 2147483648) (h_w : -2147483648 ≤ w ∧ w < 2147483648) (e43 : μ 43 = tx) (e122 : μ 122 0 = n) (hn : 0 ≤ n ∧ n ≤ 60) (ht : ∀ k : Int, 0 ≤ k → k < n → 0 ≤ tx k ∧ tx k ≤ 255) : Mc kX9_person [.inr (.inr 9), .inl p, .inl w] μ (pI (fun z ν => (if (0 ≤ p ∧ p < pPe tx n) ∧ (0 ≤ w ∧ w ≤ 3) then pPr tx n (4 * p + w) else -2) = z ∧ Fr [44, 45, 46, 123, 124, 125] μ ν)) := by
  refine Mc_of (by decide +kernel) (fun _ => Nat.le_of_ble_eq_true rfl) ?_
  show AW kX9_person 0 [some (.inr (.inr 9)), some (.inl p), some (.inl w)] [] μ _
  have hpe := pPe_in (tx := tx) hn.1
  have hta := pTa_in (tx := tx) hn.1
  have hla := pLa_in (tx := tx) hn.1
  refine s_aload_0 (pc := 0) dX9_person_0 ?_
  refine s_iload_1 (pc := 1) dX9_person_1 ?_
  refine cV1i (pc := 2) (Ky := kX9_isPerson) dX9_person_2 rfl lnX9_158 okX9_isPerson ⟨9, TX9, 40, rfl, rfl⟩ ⟨Nat.le_of_ble_eq_true rfl, Nat.le_of_ble_eq_true rfl⟩ (Nat.le_of_ble_eq_true rfl) (c_X9_isPerson (by omega) e43 e122 hn ht) ?_
  rintro _ ν2 ⟨rfl, hF2, hM2⟩
  obtain ⟨k1, k2, k3, k4, k5⟩ := id hM2
  refine s_if_eq (pc := 5) 33 dX9_person_5 rfl (by omega) (fun h5 => ?_) (fun h5 => ?_)
  · refine s_bipush (pc := 33) (z := -2) dX9_person_33 rfl ?_
    refine s_ireturn (pc := 35) dX9_person_35 rfl ?_
    first | exact ⟨by rw [if_neg (by omega)], hF2⟩ | exact ⟨by rw [if_pos (by omega), k4 _ (by omega) (by omega)], hF2⟩
  · refine s_iload_2 (pc := 8) dX9_person_8 ?_
    refine s_i2l (pc := 9) dX9_person_9 (by omega) ?_
    refine s_lconst_0 (pc := 10) dX9_person_10 ?_
    refine s_ldc2_w (pc := 11) dX9_person_11 rfl cnX9_97 ?_
    refine cS3i (pc := 14) (Ky := kX9_in) dX9_person_14 rfl lnX9_89 okX9_in ⟨Nat.le_of_ble_eq_true rfl, Nat.le_of_ble_eq_true rfl⟩ (Nat.le_of_ble_eq_true rfl) (c_X9_in (by omega) (by omega) (by omega)) ?_
    rintro _ _ ⟨rfl, rfl⟩
    refine s_if_eq (pc := 17) 33 dX9_person_17 rfl (by omega) (fun h17 => ?_) (fun h17 => ?_)
    · refine s_bipush (pc := 33) (z := -2) dX9_person_33 rfl ?_
      refine s_ireturn (pc := 35) dX9_person_35 rfl ?_
      first | exact ⟨by rw [if_neg (by omega)], hF2⟩ | exact ⟨by rw [if_pos (by omega), k4 _ (by omega) (by omega)], hF2⟩
    · refine s_aload_0 (pc := 20) dX9_person_20 ?_
      refine gfX9_25 (pc := 21) dX9_person_21 rfl ?_
      refine s_iconst_4 (pc := 24) dX9_person_24 ?_
      refine s_iload_1 (pc := 25) dX9_person_25 ?_
      refine s_imul (pc := 26) dX9_person_26 ?_
      refine s_iload_2 (pc := 27) dX9_person_27 ?_
      refine s_iadd (pc := 28) dX9_person_28 ?_
      refine z_iaload (pc := 29) dX9_person_29 ly_44 (by omega) (by omega) ?_
      refine s_goto (pc := 30) 35 dX9_person_30 rfl ?_
      refine s_ireturn (pc := 35) dX9_person_35 rfl ?_
      first | exact ⟨by rw [if_neg (by omega)], hF2⟩ | exact ⟨by rw [if_pos (by omega), k4 _ (by omega) (by omega)], hF2⟩
theorem c_X9_tale {tx : Int → Int} {n i : Int} {μ : Mem} (h_i : -2147483648 ≤ i ∧ i < 2147483648) (e43 : μ 43 = tx) (e122 : μ 122 0 = n) (hn : 0 ≤ n ∧ n ≤ 60) (ht : ∀ k : Int, 0 ≤ k → k < n → 0 ≤ tx k ∧ tx k ≤ 255) : Mc kX9_tale [.inr (.inr 9), .inl i] μ (pI (fun z ν => (if 0 ≤ i ∧ i < pTa tx n then pFu tx n i else -2) = z ∧ Fr [44, 45, 46, 123, 124, 125] μ ν)) := by
  refine Mc_of (by decide +kernel) (fun _ => Nat.le_of_ble_eq_true rfl) ?_
  show AW kX9_tale 0 [some (.inr (.inr 9)), some (.inl i)] [] μ _
  have hpe := pPe_in (tx := tx) hn.1
  have hta := pTa_in (tx := tx) hn.1
  have hla := pLa_in (tx := tx) hn.1
  refine s_aload_0 (pc := 0) dX9_tale_0 ?_
  refine cV0i (pc := 1) (Ky := kX9_reads) dX9_tale_1 rfl lnX9_155 okX9_reads ⟨9, TX9, 40, rfl, rfl⟩ ⟨Nat.le_of_ble_eq_true rfl, Nat.le_of_ble_eq_true rfl⟩ (Nat.le_of_ble_eq_true rfl) (c_X9_reads e43 e122 hn ht) ?_
  rintro _ ν1 ⟨rfl, hF1, hM1⟩
  obtain ⟨k1, k2, k3, k4, k5⟩ := id hM1
  refine s_pop (pc := 4) dX9_tale_4 rfl ?_
  refine s_iload_1 (pc := 5) dX9_tale_5 ?_
  refine s_i2l (pc := 6) dX9_tale_6 (by omega) ?_
  refine s_lconst_0 (pc := 7) dX9_tale_7 ?_
  refine s_aload_0 (pc := 8) dX9_tale_8 ?_
  refine gfX9_129 (pc := 9) dX9_tale_9 rfl ?_
  refine s_iconst_1 (pc := 12) dX9_tale_12 ?_
  refine s_isub (pc := 13) dX9_tale_13 ?_
  refine s_i2l (pc := 14) dX9_tale_14 (by omega) ?_
  refine cS3i (pc := 15) (Ky := kX9_in) dX9_tale_15 rfl lnX9_89 okX9_in ⟨Nat.le_of_ble_eq_true rfl, Nat.le_of_ble_eq_true rfl⟩ (Nat.le_of_ble_eq_true rfl) (c_X9_in (by omega) (by omega) (by omega)) ?_
  rintro _ _ ⟨rfl, rfl⟩
  refine s_if_eq (pc := 18) 30 dX9_tale_18 rfl (by omega) (fun h18 => ?_) (fun h18 => ?_)
  · refine s_bipush (pc := 30) (z := -2) dX9_tale_30 rfl ?_
    refine s_ireturn (pc := 32) dX9_tale_32 rfl ?_
    first | exact ⟨by rw [if_neg (by omega)], hF1⟩ | exact ⟨by rw [if_pos (by omega), k5 _ (by omega) (by omega)], hF1⟩
  · refine s_aload_0 (pc := 21) dX9_tale_21 ?_
    refine gfX9_28 (pc := 22) dX9_tale_22 rfl ?_
    refine s_iload_1 (pc := 25) dX9_tale_25 ?_
    refine z_iaload (pc := 26) dX9_tale_26 ly_45 (by omega) (by omega) ?_
    refine s_goto (pc := 27) 32 dX9_tale_27 rfl ?_
    refine s_ireturn (pc := 32) dX9_tale_32 rfl ?_
    first | exact ⟨by rw [if_neg (by omega)], hF1⟩ | exact ⟨by rw [if_pos (by omega), k5 _ (by omega) (by omega)], hF1⟩
theorem c_X9_lawNow {tx : Int → Int} {n w : Int} {μ : Mem} (hw : 0 ≤ w ∧ w ≤ 2) (e43 : μ 43 = tx) (e122 : μ 122 0 = n) (hn : 0 ≤ n ∧ n ≤ 60) (ht : ∀ k : Int, 0 ≤ k → k < n → 0 ≤ tx k ∧ tx k ≤ 255) : Mc kX9_lawNow [.inr (.inr 9), .inl w] μ (pI (fun z ν => lwF tx n w = z ∧ Fr [44, 45, 46, 123, 124, 125] μ ν ∧ RM tx n ν)) := by
  refine Mc_of (by decide +kernel) (fun _ => Nat.le_of_ble_eq_true rfl) ?_
  show AW kX9_lawNow 0 [some (.inr (.inr 9)), some (.inl w)] [] μ _
  have hpe := pPe_in (tx := tx) hn.1
  have hta := pTa_in (tx := tx) hn.1
  have hla := pLa_in (tx := tx) hn.1
  refine s_aload_0 (pc := 0) dX9_lawNow_0 ?_
  refine cV0i (pc := 1) (Ky := kX9_reads) dX9_lawNow_1 rfl lnX9_155 okX9_reads ⟨9, TX9, 40, rfl, rfl⟩ ⟨Nat.le_of_ble_eq_true rfl, Nat.le_of_ble_eq_true rfl⟩ (Nat.le_of_ble_eq_true rfl) (c_X9_reads e43 e122 hn ht) ?_
  rintro _ ν1 ⟨rfl, hF1, hM1⟩
  obtain ⟨k1, k2, k3, k4, k5⟩ := id hM1
  have k32 := k3 2 (by omega) (by omega)
  refine s_pop (pc := 4) dX9_lawNow_4 rfl ?_
  refine s_iload_1 (pc := 5) dX9_lawNow_5 ?_
  refine s_iconst_2 (pc := 6) dX9_lawNow_6 ?_
  refine s_icmp_ne (pc := 7) 27 dX9_lawNow_7 rfl (by omega) (by omega) (fun h7 => ?_) (fun h7 => ?_)
  · refine s_aload_0 (pc := 27) dX9_lawNow_27 ?_
    refine gfX9_31 (pc := 28) dX9_lawNow_28 rfl ?_
    refine s_iload_1 (pc := 31) dX9_lawNow_31 ?_
    refine z_iaload (pc := 32) dX9_lawNow_32 ly_46 (by omega) (by omega) ?_
    refine s_ireturn (pc := 33) dX9_lawNow_33 rfl ?_
    first | exact ⟨by rw [lwF, if_pos (by omega)], hF1, hM1⟩ | exact ⟨by rw [lwF, if_neg (by omega), k3 _ (by omega) (by omega)], hF1, hM1⟩
  · refine s_aload_0 (pc := 10) dX9_lawNow_10 ?_
    refine gfX9_31 (pc := 11) dX9_lawNow_11 rfl ?_
    refine s_iconst_2 (pc := 14) dX9_lawNow_14 ?_
    refine z_iaload (pc := 15) dX9_lawNow_15 ly_46 (by omega) (by omega) ?_
    refine s_aload_0 (pc := 16) dX9_lawNow_16 ?_
    refine gfX9_126 (pc := 17) dX9_lawNow_17 rfl ?_
    refine s_icmp_lt (pc := 20) 27 dX9_lawNow_20 rfl (by omega) (by omega) (fun h20 => ?_) (fun h20 => ?_)
    · refine s_aload_0 (pc := 27) dX9_lawNow_27 ?_
      refine gfX9_31 (pc := 28) dX9_lawNow_28 rfl ?_
      refine s_iload_1 (pc := 31) dX9_lawNow_31 ?_
      refine z_iaload (pc := 32) dX9_lawNow_32 ly_46 (by omega) (by omega) ?_
      refine s_ireturn (pc := 33) dX9_lawNow_33 rfl ?_
      first | exact ⟨by rw [lwF, if_pos (by omega)], hF1, hM1⟩ | exact ⟨by rw [lwF, if_neg (by omega), k3 _ (by omega) (by omega)], hF1, hM1⟩
    · refine s_iconst_0 (pc := 23) dX9_lawNow_23 ?_
      refine s_goto (pc := 24) 33 dX9_lawNow_24 rfl ?_
      refine s_ireturn (pc := 33) dX9_lawNow_33 rfl ?_
      first | exact ⟨by rw [lwF, if_pos (by omega)], hF1, hM1⟩ | exact ⟨by rw [lwF, if_neg (by omega), k3 _ (by omega) (by omega)], hF1, hM1⟩
theorem c_X9_law {tx : Int → Int} {n w : Int} {μ : Mem} (h_w : -2147483648 ≤ w ∧ w < 2147483648) (e43 : μ 43 = tx) (e122 : μ 122 0 = n) (hn : 0 ≤ n ∧ n ≤ 60) (ht : ∀ k : Int, 0 ≤ k → k < n → 0 ≤ tx k ∧ tx k ≤ 255) : Mc kX9_law [.inr (.inr 9), .inl w] μ (pI (fun z ν => (if 0 ≤ w ∧ w ≤ 2 then lwF tx n w else -2) = z ∧ Fr [44, 45, 46, 123, 124, 125] μ ν)) := by
  refine Mc_of (by decide +kernel) (fun _ => Nat.le_of_ble_eq_true rfl) ?_
  show AW kX9_law 0 [some (.inr (.inr 9)), some (.inl w)] [] μ _
  refine s_iload_1 (pc := 0) dX9_law_0 ?_
  refine s_i2l (pc := 1) dX9_law_1 (by omega) ?_
  refine s_lconst_0 (pc := 2) dX9_law_2 ?_
  refine s_ldc2_w (pc := 3) dX9_law_3 rfl cnX9_103 ?_
  refine cS3i (pc := 6) (Ky := kX9_in) dX9_law_6 rfl lnX9_89 okX9_in ⟨Nat.le_of_ble_eq_true rfl, Nat.le_of_ble_eq_true rfl⟩ (Nat.le_of_ble_eq_true rfl) (c_X9_in (by omega) (by omega) (by omega)) ?_
  rintro _ _ ⟨rfl, rfl⟩
  refine s_if_eq (pc := 9) 20 dX9_law_9 rfl (by omega) (fun h9 => ?_) (fun h9 => ?_)
  · refine s_bipush (pc := 20) (z := -2) dX9_law_20 rfl ?_
    refine s_ireturn (pc := 22) dX9_law_22 rfl ?_
    first | exact ⟨by rw [if_neg (by omega)], Fr.rf⟩ | exact ⟨by rw [if_pos (by omega)], hF14⟩
  · refine s_aload_0 (pc := 12) dX9_law_12 ?_
    refine s_iload_1 (pc := 13) dX9_law_13 ?_
    refine cV1i (pc := 14) (Ky := kX9_lawNow) dX9_law_14 rfl lnX9_161 okX9_lawNow ⟨9, TX9, 40, rfl, rfl⟩ ⟨Nat.le_of_ble_eq_true rfl, Nat.le_of_ble_eq_true rfl⟩ (Nat.le_of_ble_eq_true rfl) (c_X9_lawNow (by omega) e43 e122 hn ht) ?_
    rintro _ ν14 ⟨rfl, hF14, hM14⟩
    refine s_goto (pc := 17) 22 dX9_law_17 rfl ?_
    refine s_ireturn (pc := 22) dX9_law_22 rfl ?_
    first | exact ⟨by rw [if_neg (by omega)], Fr.rf⟩ | exact ⟨by rw [if_pos (by omega)], hF14⟩
theorem c_X9_type {b n : Int} {μ : Mem} (h_b : -2147483648 ≤ b ∧ b < 2147483648) (e122 : μ 122 0 = n) (hn : 0 ≤ n ∧ n ≤ 60) : Mc kX9_type [.inr (.inr 9), .inl b] μ (pI (fun z ν => ((b < 0 ∨ 255 < b) ∧ -2 = z ∧ μ = ν) ∨ ((0 ≤ b ∧ b ≤ 255 ∧ n = 60) ∧ -4 = z ∧ μ = ν) ∨ ((0 ≤ b ∧ b ≤ 255 ∧ n < 60) ∧ n + 1 = z ∧ wr (wr μ 43 n b) 122 0 (n + 1) = ν))) := by
  refine Mc_of (by decide +kernel) (fun _ => Nat.le_of_ble_eq_true rfl) ?_
  show AW kX9_type 0 [some (.inr (.inr 9)), some (.inl b)] [] μ _
  refine s_iload_1 (pc := 0) dX9_type_0 ?_
  refine s_i2l (pc := 1) dX9_type_1 (by omega) ?_
  refine s_lconst_0 (pc := 2) dX9_type_2 ?_
  refine s_ldc2_w (pc := 3) dX9_type_3 rfl cnX9_118 ?_
  refine cS3i (pc := 6) (Ky := kX9_in) dX9_type_6 rfl lnX9_89 okX9_in ⟨Nat.le_of_ble_eq_true rfl, Nat.le_of_ble_eq_true rfl⟩ (Nat.le_of_ble_eq_true rfl) (c_X9_in (by omega) (by omega) (by omega)) ?_
  rintro _ _ ⟨rfl, rfl⟩
  refine s_if_ne (pc := 9) 15 dX9_type_9 rfl (by omega) (fun h9 => ?_) (fun h9 => ?_)
  · refine s_aload_0 (pc := 15) dX9_type_15 ?_
    refine gfX9_120 (pc := 16) dX9_type_16 rfl ?_
    refine s_bipush (pc := 19) (z := 60) dX9_type_19 rfl ?_
    refine s_icmp_ne (pc := 21) 27 dX9_type_21 rfl (by omega) (by omega) (fun h21 => ?_) (fun h21 => ?_)
    · refine s_aload_0 (pc := 27) dX9_type_27 ?_
      refine gfX9_22 (pc := 28) dX9_type_28 rfl ?_
      refine s_aload_0 (pc := 31) dX9_type_31 ?_
      refine gfX9_120 (pc := 32) dX9_type_32 rfl ?_
      rw [e122]
      refine s_iload_1 (pc := 35) dX9_type_35 ?_
      refine z_iastore (pc := 36) dX9_type_36 ly_43 ip_43 (by omega) (by omega) ?_
      refine s_aload_0 (pc := 37) dX9_type_37 ?_
      refine s_dup (pc := 38) dX9_type_38 rfl ?_
      refine gfX9_120 (pc := 39) dX9_type_39 rfl ?_
      refine s_valI (y := n) (by rw [wr_n (by decide)]; exact e122) ?_
      refine s_iconst_1 (pc := 42) dX9_type_42 ?_
      refine s_iadd (pc := 43) dX9_type_43 ?_
      refine pfX9_120 (pc := 44) dX9_type_44 rfl ?_
      refine s_aload_0 (pc := 47) dX9_type_47 ?_
      refine gfX9_120 (pc := 48) dX9_type_48 rfl ?_
      refine s_valI (y := n + 1) (by rw [wr_s, if_pos rfl]) ?_
      refine s_ireturn (pc := 51) dX9_type_51 rfl ?_
      first | exact Or.inl (⟨by omega, by omega, rfl⟩) | exact Or.inr (Or.inl (⟨by omega, by omega, rfl⟩)) | exact Or.inr (Or.inr (⟨by omega, by omega, rfl⟩)) | (exfalso; omega)
    · refine s_bipush (pc := 24) (z := -4) dX9_type_24 rfl ?_
      refine s_ireturn (pc := 26) dX9_type_26 rfl ?_
      first | exact Or.inl (⟨by omega, by omega, rfl⟩) | exact Or.inr (Or.inl (⟨by omega, by omega, rfl⟩)) | exact Or.inr (Or.inr (⟨by omega, by omega, rfl⟩)) | (exfalso; omega)
  · refine s_bipush (pc := 12) (z := -2) dX9_type_12 rfl ?_
    refine s_ireturn (pc := 14) dX9_type_14 rfl ?_
    first | exact Or.inl (⟨by omega, by omega, rfl⟩) | exact Or.inr (Or.inl (⟨by omega, by omega, rfl⟩)) | exact Or.inr (Or.inr (⟨by omega, by omega, rfl⟩)) | (exfalso; omega)
theorem c_X9_wipe {n : Int} {μ : Mem} (e122 : μ 122 0 = n) : Mc kX9_wipe [.inr (.inr 9)] μ (pI (fun z ν => n = z ∧ wr μ 122 0 0 = ν)) := by
  refine Mc_of (by decide +kernel) (fun _ => Nat.le_of_ble_eq_true rfl) ?_
  show AW kX9_wipe 0 [some (.inr (.inr 9)), none] [] μ _
  refine s_aload_0 (pc := 0) dX9_wipe_0 ?_
  refine gfX9_120 (pc := 1) dX9_wipe_1 rfl ?_
  refine s_istore_1 (pc := 4) dX9_wipe_4 (Nat.le_of_ble_eq_true rfl) rfl ?_
  refine s_aload_0 (pc := 5) dX9_wipe_5 ?_
  refine s_iconst_0 (pc := 6) dX9_wipe_6 ?_
  refine pfX9_120 (pc := 7) dX9_wipe_7 rfl ?_
  refine s_iload_1 (pc := 10) dX9_wipe_10 ?_
  refine s_ireturn (pc := 11) dX9_wipe_11 rfl ?_
  exact ⟨e122.symm, rfl⟩
theorem c_X9_holds {p v : Int} {μ : Mem} (h_p : -2147483648 ≤ p ∧ p < 2147483648) (h_v : -2147483648 ≤ v ∧ v < 2147483648) : Mc kX9_holds [.inr (.inr 9), .inl p, .inl v] μ (pI (fun z ν => ((p < 0 ∨ 3 < p ∨ v < 0 ∨ 15 < v) ∧ -2 = z ∧ μ = ν) ∨ ((0 ≤ p ∧ p ≤ 3 ∧ 0 ≤ v ∧ v ≤ 15) ∧ μ 47 p = z ∧ wr μ 47 p v = ν))) := by
  refine Mc_of (by decide +kernel) (fun _ => Nat.le_of_ble_eq_true rfl) ?_
  show AW kX9_holds 0 [some (.inr (.inr 9)), some (.inl p), some (.inl v), none] [] μ _
  refine s_iload_1 (pc := 0) dX9_holds_0 ?_
  refine cS1i (pc := 1) (Ky := kX9_isAnyone) dX9_holds_1 rfl lnX9_164 okX9_isAnyone ⟨Nat.le_of_ble_eq_true rfl, Nat.le_of_ble_eq_true rfl⟩ (Nat.le_of_ble_eq_true rfl) (c_X9_isAnyone (by omega)) ?_
  rintro _ _ ⟨rfl, rfl⟩
  refine s_if_eq (pc := 4) 19 dX9_holds_4 rfl (by omega) (fun h4 => ?_) (fun h4 => ?_)
  · refine s_bipush (pc := 19) (z := -2) dX9_holds_19 rfl ?_
    refine s_ireturn (pc := 21) dX9_holds_21 rfl ?_
    first | exact Or.inl (⟨by omega, by omega, rfl⟩) | exact Or.inr (⟨by omega, by omega, rfl⟩) | (exfalso; omega)
  · refine s_iload_2 (pc := 7) dX9_holds_7 ?_
    refine s_i2l (pc := 8) dX9_holds_8 (by omega) ?_
    refine s_lconst_0 (pc := 9) dX9_holds_9 ?_
    refine s_ldc2_w (pc := 10) dX9_holds_10 rfl cnX9_167 ?_
    refine cS3i (pc := 13) (Ky := kX9_in) dX9_holds_13 rfl lnX9_89 okX9_in ⟨Nat.le_of_ble_eq_true rfl, Nat.le_of_ble_eq_true rfl⟩ (Nat.le_of_ble_eq_true rfl) (c_X9_in (by omega) (by omega) (by omega)) ?_
    rintro _ _ ⟨rfl, rfl⟩
    refine s_if_ne (pc := 16) 22 dX9_holds_16 rfl (by omega) (fun h16 => ?_) (fun h16 => ?_)
    · refine s_aload_0 (pc := 22) dX9_holds_22 ?_
      refine gfX9_34 (pc := 23) dX9_holds_23 rfl ?_
      refine s_iload_1 (pc := 26) dX9_holds_26 ?_
      refine z_iaload (pc := 27) dX9_holds_27 ly_47 (by omega) (by omega) ?_
      refine s_istore_3 (pc := 28) dX9_holds_28 (Nat.le_of_ble_eq_true rfl) rfl ?_
      refine s_aload_0 (pc := 29) dX9_holds_29 ?_
      refine gfX9_34 (pc := 30) dX9_holds_30 rfl ?_
      refine s_iload_1 (pc := 33) dX9_holds_33 ?_
      refine s_iload_2 (pc := 34) dX9_holds_34 ?_
      refine z_iastore (pc := 35) dX9_holds_35 ly_47 ip_47 (by omega) (by omega) ?_
      refine s_iload_3 (pc := 36) dX9_holds_36 ?_
      refine s_ireturn (pc := 37) dX9_holds_37 rfl ?_
      first | exact Or.inl (⟨by omega, by omega, rfl⟩) | exact Or.inr (⟨by omega, by omega, rfl⟩) | (exfalso; omega)
    · refine s_bipush (pc := 19) (z := -2) dX9_holds_19 rfl ?_
      refine s_ireturn (pc := 21) dX9_holds_21 rfl ?_
      first | exact Or.inl (⟨by omega, by omega, rfl⟩) | exact Or.inr (⟨by omega, by omega, rfl⟩) | (exfalso; omega)
theorem c_X9_leaves {p v : Int} {μ : Mem} (h_p : -2147483648 ≤ p ∧ p < 2147483648) (h_v : -2147483648 ≤ v ∧ v < 2147483648) : Mc kX9_leaves [.inr (.inr 9), .inl p, .inl v] μ (pI (fun z ν => ((p < 0 ∨ 3 < p ∨ v < 0 ∨ 4 < v) ∧ -2 = z ∧ μ = ν) ∨ ((0 ≤ p ∧ p ≤ 3 ∧ 0 ≤ v ∧ v ≤ 4) ∧ μ 48 p = z ∧ wr μ 48 p v = ν))) := by
  refine Mc_of (by decide +kernel) (fun _ => Nat.le_of_ble_eq_true rfl) ?_
  show AW kX9_leaves 0 [some (.inr (.inr 9)), some (.inl p), some (.inl v), none] [] μ _
  refine s_iload_1 (pc := 0) dX9_leaves_0 ?_
  refine cS1i (pc := 1) (Ky := kX9_isAnyone) dX9_leaves_1 rfl lnX9_164 okX9_isAnyone ⟨Nat.le_of_ble_eq_true rfl, Nat.le_of_ble_eq_true rfl⟩ (Nat.le_of_ble_eq_true rfl) (c_X9_isAnyone (by omega)) ?_
  rintro _ _ ⟨rfl, rfl⟩
  refine s_if_eq (pc := 4) 19 dX9_leaves_4 rfl (by omega) (fun h4 => ?_) (fun h4 => ?_)
  · refine s_bipush (pc := 19) (z := -2) dX9_leaves_19 rfl ?_
    refine s_ireturn (pc := 21) dX9_leaves_21 rfl ?_
    first | exact Or.inl (⟨by omega, by omega, rfl⟩) | exact Or.inr (⟨by omega, by omega, rfl⟩) | (exfalso; omega)
  · refine s_iload_2 (pc := 7) dX9_leaves_7 ?_
    refine s_i2l (pc := 8) dX9_leaves_8 (by omega) ?_
    refine s_lconst_0 (pc := 9) dX9_leaves_9 ?_
    refine s_ldc2_w (pc := 10) dX9_leaves_10 rfl cnX9_169 ?_
    refine cS3i (pc := 13) (Ky := kX9_in) dX9_leaves_13 rfl lnX9_89 okX9_in ⟨Nat.le_of_ble_eq_true rfl, Nat.le_of_ble_eq_true rfl⟩ (Nat.le_of_ble_eq_true rfl) (c_X9_in (by omega) (by omega) (by omega)) ?_
    rintro _ _ ⟨rfl, rfl⟩
    refine s_if_ne (pc := 16) 22 dX9_leaves_16 rfl (by omega) (fun h16 => ?_) (fun h16 => ?_)
    · refine s_aload_0 (pc := 22) dX9_leaves_22 ?_
      refine gfX9_37 (pc := 23) dX9_leaves_23 rfl ?_
      refine s_iload_1 (pc := 26) dX9_leaves_26 ?_
      refine z_iaload (pc := 27) dX9_leaves_27 ly_48 (by omega) (by omega) ?_
      refine s_istore_3 (pc := 28) dX9_leaves_28 (Nat.le_of_ble_eq_true rfl) rfl ?_
      refine s_aload_0 (pc := 29) dX9_leaves_29 ?_
      refine gfX9_37 (pc := 30) dX9_leaves_30 rfl ?_
      refine s_iload_1 (pc := 33) dX9_leaves_33 ?_
      refine s_iload_2 (pc := 34) dX9_leaves_34 ?_
      refine z_iastore (pc := 35) dX9_leaves_35 ly_48 ip_48 (by omega) (by omega) ?_
      refine s_iload_3 (pc := 36) dX9_leaves_36 ?_
      refine s_ireturn (pc := 37) dX9_leaves_37 rfl ?_
      first | exact Or.inl (⟨by omega, by omega, rfl⟩) | exact Or.inr (⟨by omega, by omega, rfl⟩) | (exfalso; omega)
    · refine s_bipush (pc := 19) (z := -2) dX9_leaves_19 rfl ?_
      refine s_ireturn (pc := 21) dX9_leaves_21 rfl ?_
      first | exact Or.inl (⟨by omega, by omega, rfl⟩) | exact Or.inr (⟨by omega, by omega, rfl⟩) | (exfalso; omega)
theorem c_X9_weight {p v : Int} {μ : Mem} (h_p : -2147483648 ≤ p ∧ p < 2147483648) (h_v : -2147483648 ≤ v ∧ v < 2147483648) : Mc kX9_weight [.inr (.inr 9), .inl p, .inl v] μ (pI (fun z ν => ((p < 0 ∨ 4 < p ∨ v < 0 ∨ 9 < v) ∧ -2 = z ∧ μ = ν) ∨ ((0 ≤ p ∧ p ≤ 4 ∧ 0 ≤ v ∧ v ≤ 9) ∧ μ 57 p = z ∧ wr μ 57 p v = ν))) := by
  refine Mc_of (by decide +kernel) (fun _ => Nat.le_of_ble_eq_true rfl) ?_
  show AW kX9_weight 0 [some (.inr (.inr 9)), some (.inl p), some (.inl v), none] [] μ _
  refine s_iload_1 (pc := 0) dX9_weight_0 ?_
  refine s_i2l (pc := 1) dX9_weight_1 (by omega) ?_
  refine s_lconst_0 (pc := 2) dX9_weight_2 ?_
  refine s_ldc2_w (pc := 3) dX9_weight_3 rfl cnX9_169 ?_
  refine cS3i (pc := 6) (Ky := kX9_in) dX9_weight_6 rfl lnX9_89 okX9_in ⟨Nat.le_of_ble_eq_true rfl, Nat.le_of_ble_eq_true rfl⟩ (Nat.le_of_ble_eq_true rfl) (c_X9_in (by omega) (by omega) (by omega)) ?_
  rintro _ _ ⟨rfl, rfl⟩
  refine s_if_eq (pc := 9) 24 dX9_weight_9 rfl (by omega) (fun h9 => ?_) (fun h9 => ?_)
  · refine s_bipush (pc := 24) (z := -2) dX9_weight_24 rfl ?_
    refine s_ireturn (pc := 26) dX9_weight_26 rfl ?_
    first | exact Or.inl (⟨by omega, by omega, rfl⟩) | exact Or.inr (⟨by omega, by omega, rfl⟩) | (exfalso; omega)
  · refine s_iload_2 (pc := 12) dX9_weight_12 ?_
    refine s_i2l (pc := 13) dX9_weight_13 (by omega) ?_
    refine s_lconst_0 (pc := 14) dX9_weight_14 ?_
    refine s_ldc2_w (pc := 15) dX9_weight_15 rfl cnX9_300 ?_
    refine cS3i (pc := 18) (Ky := kX9_in) dX9_weight_18 rfl lnX9_89 okX9_in ⟨Nat.le_of_ble_eq_true rfl, Nat.le_of_ble_eq_true rfl⟩ (Nat.le_of_ble_eq_true rfl) (c_X9_in (by omega) (by omega) (by omega)) ?_
    rintro _ _ ⟨rfl, rfl⟩
    refine s_if_ne (pc := 21) 27 dX9_weight_21 rfl (by omega) (fun h21 => ?_) (fun h21 => ?_)
    · refine s_aload_0 (pc := 27) dX9_weight_27 ?_
      refine gfX9_65 (pc := 28) dX9_weight_28 rfl ?_
      refine s_iload_1 (pc := 31) dX9_weight_31 ?_
      refine z_iaload (pc := 32) dX9_weight_32 ly_57 (by omega) (by omega) ?_
      refine s_istore_3 (pc := 33) dX9_weight_33 (Nat.le_of_ble_eq_true rfl) rfl ?_
      refine s_aload_0 (pc := 34) dX9_weight_34 ?_
      refine gfX9_65 (pc := 35) dX9_weight_35 rfl ?_
      refine s_iload_1 (pc := 38) dX9_weight_38 ?_
      refine s_iload_2 (pc := 39) dX9_weight_39 ?_
      refine z_iastore (pc := 40) dX9_weight_40 ly_57 ip_57 (by omega) (by omega) ?_
      refine s_iload_3 (pc := 41) dX9_weight_41 ?_
      refine s_ireturn (pc := 42) dX9_weight_42 rfl ?_
      first | exact Or.inl (⟨by omega, by omega, rfl⟩) | exact Or.inr (⟨by omega, by omega, rfl⟩) | (exfalso; omega)
    · refine s_bipush (pc := 24) (z := -2) dX9_weight_24 rfl ?_
      refine s_ireturn (pc := 26) dX9_weight_26 rfl ?_
      first | exact Or.inl (⟨by omega, by omega, rfl⟩) | exact Or.inr (⟨by omega, by omega, rfl⟩) | (exfalso; omega)
