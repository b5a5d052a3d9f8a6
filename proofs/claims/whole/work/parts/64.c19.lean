/-! ===== the class itself ===== -/
theorem c_X8_type {tx : Int → Int} {n b : Int} {μ : Mem} (h_b : -2147483648 ≤ b ∧ b < 2147483648) (e13 : μ 13 = tx) (e100 : μ 100 0 = n) (hn : 0 ≤ n ∧ n ≤ 60) (ht : ∀ k : Int, 0 ≤ k → k < n → 0 ≤ tx k ∧ tx k ≤ 255) : Mc kX8_type [.inr (.inr 0), .inl b] μ (pI (fun z ν => ((b < 0 ∨ 255 < b) ∧ -2 = z ∧ μ = ν) ∨ ((0 ≤ b ∧ b ≤ 255 ∧ n = 60) ∧ -4 = z ∧ μ = ν) ∨ ((0 ≤ b ∧ b ≤ 255 ∧ n < 60) ∧ n + 1 = z ∧ ν 13 = upF tx n b ∧ ν 100 0 = n + 1 ∧ RQ (upF tx n b) (n + 1) ν ∧ ν 101 0 = pFa (upF tx n b) (n + 1) ∧ Fr [13, 14, 15, 16, 100, 101, 102, 103, 104] μ ν))) := by
  refine Mc_of (by decide +kernel) (fun _ => Nat.le_of_ble_eq_true rfl) ?_
  show AW kX8_type 0 [some (.inr (.inr 0)), some (.inl b)] [] μ _
  refine s_iload_1 (pc := 0) dX8_type_0 ?_
  refine s_sipush (pc := 1) (z := 255) dX8_type_1 rfl ?_
  refine cS2i (pc := 4) (Ky := kX8_within) dX8_type_4 rfl lnX8_81 okX8_within ⟨Nat.le_of_ble_eq_true rfl, Nat.le_of_ble_eq_true rfl⟩ (Nat.le_of_ble_eq_true rfl) (c_X8_within (by omega) (by omega)) ?_
  rintro _ _ ⟨rfl, rfl⟩
  refine s_if_ne (pc := 7) 13 dX8_type_7 rfl (by omega) (fun h7 => ?_) (fun h7 => ?_)
  · refine s_aload_0 (pc := 13) dX8_type_13 ?_
    refine gfX8_12 (pc := 14) dX8_type_14 rfl ?_
    refine s_iload_1 (pc := 17) dX8_type_17 ?_
    refine cV1i (pc := 18) (Ky := kX3_append) dX8_type_18 rfl lnX8_85 okX3_append ⟨3, TX3, 9, rfl, rfl⟩ ⟨Nat.le_of_ble_eq_true rfl, Nat.le_of_ble_eq_true rfl⟩ (Nat.le_of_ble_eq_true rfl) (c_X3_append e13 e100 hn ht (by omega)) ?_
    rintro _ ν18 (⟨hc18, rfl, rfl⟩ | ⟨hc18, rfl, ha18, hb18, hQ18, hf18, hF18⟩)
    · refine s_if_eq (pc := 21) 34 dX8_type_21 rfl (by omega) (fun h21 => ?_) (fun h21 => ?_)
      · refine s_bipush (pc := 34) (z := -4) dX8_type_34 rfl ?_
        refine s_ireturn (pc := 36) dX8_type_36 rfl ?_
        first
          | exact Or.inl ⟨by omega, rfl, rfl⟩
          | exact Or.inr (Or.inl ⟨by omega, rfl, rfl⟩)
          | exact Or.inr (Or.inr ⟨by omega, rfl, ha18, hb18, hQ18, hf18, hF18⟩)
      · exact absurd h21 (by decide)
    · refine s_if_eq (pc := 21) 34 dX8_type_21 rfl (by omega) (fun h21 => ?_) (fun h21 => ?_)
      · exact absurd h21 (by decide)
      · refine s_aload_0 (pc := 24) dX8_type_24 ?_
        refine gfX8_12 (pc := 25) dX8_type_25 rfl ?_
        refine gfX8_89 (pc := 28) dX8_type_28 rfl ?_
        try rw [hb18]
        refine s_goto (pc := 31) 36 dX8_type_31 rfl ?_
        refine s_ireturn (pc := 36) dX8_type_36 rfl ?_
        first
          | exact Or.inl ⟨by omega, rfl, rfl⟩
          | exact Or.inr (Or.inl ⟨by omega, rfl, rfl⟩)
          | exact Or.inr (Or.inr ⟨by omega, rfl, ha18, hb18, hQ18, hf18, hF18⟩)
  · refine s_bipush (pc := 10) (z := -2) dX8_type_10 rfl ?_
    refine s_ireturn (pc := 12) dX8_type_12 rfl ?_
    first
      | exact Or.inl ⟨by omega, rfl, rfl⟩
      | exact Or.inr (Or.inl ⟨by omega, rfl, rfl⟩)
      | exact Or.inr (Or.inr ⟨by omega, rfl, ha18, hb18, hQ18, hf18, hF18⟩)
theorem c_X8_wipe {tx : Int → Int} {n  : Int} {μ : Mem} (e13 : μ 13 = tx) (e100 : μ 100 0 = n) : Mc kX8_wipe [.inr (.inr 0)] μ (pI (fun z ν => n = z ∧ ν 100 0 = 0 ∧ RQ tx 0 ν ∧ ν 101 0 = pFa tx 0 ∧ Fr [14, 15, 16, 100, 101, 102, 103, 104] μ ν)) := by
  refine Mc_of (by decide +kernel) (fun _ => Nat.le_of_ble_eq_true rfl) ?_
  show AW kX8_wipe 0 [some (.inr (.inr 0)), none] [] μ _
  refine s_aload_0 (pc := 0) dX8_wipe_0 ?_
  refine gfX8_12 (pc := 1) dX8_wipe_1 rfl ?_
  refine gfX8_89 (pc := 4) dX8_wipe_4 rfl ?_
  try rw [e100]
  refine s_istore_1 (pc := 7) dX8_wipe_7 (Nat.le_of_ble_eq_true rfl) rfl ?_
  refine s_aload_0 (pc := 8) dX8_wipe_8 ?_
  refine gfX8_12 (pc := 9) dX8_wipe_9 rfl ?_
  refine cV0v (pc := 12) (Ky := kX3_empty) dX8_wipe_12 rfl lnX8_93 okX3_empty ⟨3, TX3, 9, rfl, rfl⟩ ⟨Nat.le_of_ble_eq_true rfl, Nat.le_of_ble_eq_true rfl⟩ (Nat.le_of_ble_eq_true rfl) (c_X3_empty e13) ?_
  rintro ν12 ⟨ha12, hQ12, hf12, hF12⟩
  refine s_iload_1 (pc := 15) dX8_wipe_15 ?_
  refine s_ireturn (pc := 16) dX8_wipe_16 rfl ?_
  exact ⟨rfl, ha12, hQ12, hf12, hF12.mono (by decide)⟩
theorem c_X8_fault {tx : Int → Int} {n  : Int} {μ : Mem} (e101 : μ 101 0 = pFa tx n) : Mc kX8_fault [.inr (.inr 0)] μ (pI (fun z ν => pFa tx n = z ∧ μ = ν)) := by
  refine Mc_of (by decide +kernel) (fun _ => Nat.le_of_ble_eq_true rfl) ?_
  show AW kX8_fault 0 [some (.inr (.inr 0))] [] μ _
  refine s_aload_0 (pc := 0) dX8_fault_0 ?_
  refine gfX8_12 (pc := 1) dX8_fault_1 rfl ?_
  refine gfX8_96 (pc := 4) dX8_fault_4 rfl ?_
  try rw [e101]
  refine s_ireturn (pc := 7) dX8_fault_7 rfl ?_
  exact ⟨rfl, rfl⟩
theorem c_X8_person {tx : Int → Int} {n p w : Int} {μ : Mem} (h_p : -2147483648 ≤ p ∧ p < 2147483648) (h_w : -2147483648 ≤ w ∧ w < 2147483648) (hQ : RQ tx n μ) (hn : 0 ≤ n ∧ n ≤ 60) : Mc kX8_person [.inr (.inr 0), .inl p, .inl w] μ (pI (fun z ν => (if (0 ≤ p ∧ p < pPe tx n) ∧ (0 ≤ w ∧ w ≤ 3) then pPr tx n (4 * p + w) else -2) = z ∧ μ = ν)) := by
  refine Mc_of (by decide +kernel) (fun _ => Nat.le_of_ble_eq_true rfl) ?_
  show AW kX8_person 0 [some (.inr (.inr 0)), some (.inl p), some (.inl w)] [] μ _
  obtain ⟨q1, q2, q3, q4, q5⟩ := id hQ
  have hpe := pPe_in (tx := tx) hn.1
  have hta := pTa_in (tx := tx) hn.1
  refine s_aload_0 (pc := 0) dX8_person_0 ?_
  refine s_iload_1 (pc := 1) dX8_person_1 ?_
  refine cV1i (pc := 2) (Ky := kX8_isPerson) dX8_person_2 rfl lnX8_99 okX8_isPerson ⟨8, TX8, 11, rfl, rfl⟩ ⟨Nat.le_of_ble_eq_true rfl, Nat.le_of_ble_eq_true rfl⟩ (Nat.le_of_ble_eq_true rfl) (c_X8_isPerson (by omega) q1 hpe) ?_
  rintro _ _ ⟨rfl, rfl⟩
  refine s_if_eq (pc := 5) 16 dX8_person_5 rfl (by omega) (fun h5 => ?_) (fun h5 => ?_)
  · refine s_bipush (pc := 16) (z := -2) dX8_person_16 rfl ?_
    refine s_ireturn (pc := 18) dX8_person_18 rfl ?_
    first | exact ⟨by rw [if_neg (by omega)], rfl⟩ | exact ⟨by rw [if_pos (by omega), q3 _ (by omega) (by omega)], rfl⟩
  · refine s_iload_2 (pc := 8) dX8_person_8 ?_
    refine s_iconst_3 (pc := 9) dX8_person_9 ?_
    refine cS2i (pc := 10) (Ky := kX8_within) dX8_person_10 rfl lnX8_81 okX8_within ⟨Nat.le_of_ble_eq_true rfl, Nat.le_of_ble_eq_true rfl⟩ (Nat.le_of_ble_eq_true rfl) (c_X8_within (by omega) (by omega)) ?_
    rintro _ _ ⟨rfl, rfl⟩
    refine s_if_ne (pc := 13) 19 dX8_person_13 rfl (by omega) (fun h13 => ?_) (fun h13 => ?_)
    · refine s_aload_0 (pc := 19) dX8_person_19 ?_
      refine gfX8_12 (pc := 20) dX8_person_20 rfl ?_
      refine gfX8_102 (pc := 23) dX8_person_23 rfl ?_
      refine s_iconst_4 (pc := 26) dX8_person_26 ?_
      refine s_iload_1 (pc := 27) dX8_person_27 ?_
      refine s_imul (pc := 28) dX8_person_28 ?_
      refine s_iload_2 (pc := 29) dX8_person_29 ?_
      refine s_iadd (pc := 30) dX8_person_30 ?_
      refine z_iaload (pc := 31) dX8_person_31 ly_14 (by omega) (by omega) ?_
      refine s_ireturn (pc := 32) dX8_person_32 rfl ?_
      first | exact ⟨by rw [if_neg (by omega)], rfl⟩ | exact ⟨by rw [if_pos (by omega), q3 _ (by omega) (by omega)], rfl⟩
    · refine s_bipush (pc := 16) (z := -2) dX8_person_16 rfl ?_
      refine s_ireturn (pc := 18) dX8_person_18 rfl ?_
      first | exact ⟨by rw [if_neg (by omega)], rfl⟩ | exact ⟨by rw [if_pos (by omega), q3 _ (by omega) (by omega)], rfl⟩
theorem c_X8_tale {tx : Int → Int} {n i : Int} {μ : Mem} (h_i : -2147483648 ≤ i ∧ i < 2147483648) (hQ : RQ tx n μ) (hn : 0 ≤ n ∧ n ≤ 60) : Mc kX8_tale [.inr (.inr 0), .inl i] μ (pI (fun z ν => (if 0 ≤ i ∧ i < pTa tx n then pFu tx n i else -2) = z ∧ μ = ν)) := by
  refine Mc_of (by decide +kernel) (fun _ => Nat.le_of_ble_eq_true rfl) ?_
  show AW kX8_tale 0 [some (.inr (.inr 0)), some (.inl i)] [] μ _
  obtain ⟨q1, q2, q3, q4, q5⟩ := id hQ
  have hpe := pPe_in (tx := tx) hn.1
  have hta := pTa_in (tx := tx) hn.1
  refine s_aload_0 (pc := 0) dX8_tale_0 ?_
  refine s_iload_1 (pc := 1) dX8_tale_1 ?_
  refine cV1i (pc := 2) (Ky := kX8_isTale) dX8_tale_2 rfl lnX8_105 okX8_isTale ⟨8, TX8, 11, rfl, rfl⟩ ⟨Nat.le_of_ble_eq_true rfl, Nat.le_of_ble_eq_true rfl⟩ (Nat.le_of_ble_eq_true rfl) (c_X8_isTale (by omega) q2 hta) ?_
  rintro _ _ ⟨rfl, rfl⟩
  refine s_if_eq (pc := 5) 20 dX8_tale_5 rfl (by omega) (fun h5 => ?_) (fun h5 => ?_)
  · refine s_bipush (pc := 20) (z := -2) dX8_tale_20 rfl ?_
    refine s_ireturn (pc := 22) dX8_tale_22 rfl ?_
    first | exact ⟨by rw [if_neg (by omega)], rfl⟩ | exact ⟨by rw [if_pos (by omega), q4 _ (by omega) (by omega)], rfl⟩
  · refine s_aload_0 (pc := 8) dX8_tale_8 ?_
    refine gfX8_12 (pc := 9) dX8_tale_9 rfl ?_
    refine gfX8_108 (pc := 12) dX8_tale_12 rfl ?_
    refine s_iload_1 (pc := 15) dX8_tale_15 ?_
    refine z_iaload (pc := 16) dX8_tale_16 ly_15 (by omega) (by omega) ?_
    refine s_goto (pc := 17) 22 dX8_tale_17 rfl ?_
    refine s_ireturn (pc := 22) dX8_tale_22 rfl ?_
    first | exact ⟨by rw [if_neg (by omega)], rfl⟩ | exact ⟨by rw [if_pos (by omega), q4 _ (by omega) (by omega)], rfl⟩
theorem c_X8_law {tx : Int → Int} {n w : Int} {μ : Mem} (h_w : -2147483648 ≤ w ∧ w < 2147483648) (hQ : RQ tx n μ) (hn : 0 ≤ n ∧ n ≤ 60) : Mc kX8_law [.inr (.inr 0), .inl w] μ (pI (fun z ν => (if 0 ≤ w ∧ w ≤ 2 then lwF tx n w else -2) = z ∧ μ = ν)) := by
  refine Mc_of (by decide +kernel) (fun _ => Nat.le_of_ble_eq_true rfl) ?_
  show AW kX8_law 0 [some (.inr (.inr 0)), some (.inl w)] [] μ _
  obtain ⟨q1, q2, q3, q4, q5⟩ := id hQ
  have hpe := pPe_in (tx := tx) hn.1
  have hta := pTa_in (tx := tx) hn.1
  refine s_iload_1 (pc := 0) dX8_law_0 ?_
  refine s_iconst_2 (pc := 1) dX8_law_1 ?_
  refine cS2i (pc := 2) (Ky := kX8_within) dX8_law_2 rfl lnX8_81 okX8_within ⟨Nat.le_of_ble_eq_true rfl, Nat.le_of_ble_eq_true rfl⟩ (Nat.le_of_ble_eq_true rfl) (c_X8_within (by omega) (by omega)) ?_
  rintro _ _ ⟨rfl, rfl⟩
  refine s_if_eq (pc := 5) 20 dX8_law_5 rfl (by omega) (fun h5 => ?_) (fun h5 => ?_)
  · refine s_bipush (pc := 20) (z := -2) dX8_law_20 rfl ?_
    refine s_ireturn (pc := 22) dX8_law_22 rfl ?_
    first | exact ⟨by rw [if_neg (by omega)], rfl⟩ | exact ⟨by rw [if_pos (by omega), q5 _ (by omega) (by omega)], rfl⟩
  · refine s_aload_0 (pc := 8) dX8_law_8 ?_
    refine gfX8_12 (pc := 9) dX8_law_9 rfl ?_
    refine gfX8_111 (pc := 12) dX8_law_12 rfl ?_
    refine s_iload_1 (pc := 15) dX8_law_15 ?_
    refine z_iaload (pc := 16) dX8_law_16 ly_16 (by omega) (by omega) ?_
    refine s_goto (pc := 17) 22 dX8_law_17 rfl ?_
    refine s_ireturn (pc := 22) dX8_law_22 rfl ?_
    first | exact ⟨by rw [if_neg (by omega)], rfl⟩ | exact ⟨by rw [if_pos (by omega), q5 _ (by omega) (by omega)], rfl⟩
theorem c_X8_holds {p v : Int} {μ : Mem} (h_p : -2147483648 ≤ p ∧ p < 2147483648) (h_v : -2147483648 ≤ v ∧ v < 2147483648) : Mc kX8_holds [.inr (.inr 0), .inl p, .inl v] μ (pI (fun z ν => ((p < 0 ∨ 3 < p ∨ v < 0 ∨ 15 < v) ∧ -2 = z ∧ μ = ν) ∨ ((0 ≤ p ∧ p ≤ 3 ∧ 0 ≤ v ∧ v ≤ 15) ∧ μ 10 p = z ∧ wr μ 10 p v = ν))) := by
  refine Mc_of (by decide +kernel) (fun _ => Nat.le_of_ble_eq_true rfl) ?_
  show AW kX8_holds 0 [some (.inr (.inr 0)), some (.inl p), some (.inl v), none] [] μ _
  refine s_iload_1 (pc := 0) dX8_holds_0 ?_
  refine s_iconst_3 (pc := 1) dX8_holds_1 ?_
  refine cS2i (pc := 2) (Ky := kX8_within) dX8_holds_2 rfl lnX8_81 okX8_within ⟨Nat.le_of_ble_eq_true rfl, Nat.le_of_ble_eq_true rfl⟩ (Nat.le_of_ble_eq_true rfl) (c_X8_within (by omega) (by omega)) ?_
  rintro _ _ ⟨rfl, rfl⟩
  refine s_if_eq (pc := 5) 17 dX8_holds_5 rfl (by omega) (fun h5 => ?_) (fun h5 => ?_)
  · refine s_bipush (pc := 17) (z := -2) dX8_holds_17 rfl ?_
    refine s_ireturn (pc := 19) dX8_holds_19 rfl ?_
    first | exact Or.inl (⟨by omega, by omega, rfl⟩) | exact Or.inr (⟨by omega, by omega, rfl⟩) | (exfalso; omega)
  · refine s_iload_2 (pc := 8) dX8_holds_8 ?_
    refine s_bipush (pc := 9) (z := 15) dX8_holds_9 rfl ?_
    refine cS2i (pc := 11) (Ky := kX8_within) dX8_holds_11 rfl lnX8_81 okX8_within ⟨Nat.le_of_ble_eq_true rfl, Nat.le_of_ble_eq_true rfl⟩ (Nat.le_of_ble_eq_true rfl) (c_X8_within (by omega) (by omega)) ?_
    rintro _ _ ⟨rfl, rfl⟩
    refine s_if_ne (pc := 14) 20 dX8_holds_14 rfl (by omega) (fun h14 => ?_) (fun h14 => ?_)
    · refine s_aload_0 (pc := 20) dX8_holds_20 ?_
      refine gfX8_16 (pc := 21) dX8_holds_21 rfl ?_
      refine s_iload_1 (pc := 24) dX8_holds_24 ?_
      refine z_iaload (pc := 25) dX8_holds_25 ly_10 (by omega) (by omega) ?_
      refine s_istore_3 (pc := 26) dX8_holds_26 (Nat.le_of_ble_eq_true rfl) rfl ?_
      refine s_aload_0 (pc := 27) dX8_holds_27 ?_
      refine gfX8_16 (pc := 28) dX8_holds_28 rfl ?_
      refine s_iload_1 (pc := 31) dX8_holds_31 ?_
      refine s_iload_2 (pc := 32) dX8_holds_32 ?_
      refine z_iastore (pc := 33) dX8_holds_33 ly_10 ip_10 (by omega) (by omega) ?_
      refine s_iload_3 (pc := 34) dX8_holds_34 ?_
      refine s_ireturn (pc := 35) dX8_holds_35 rfl ?_
      first | exact Or.inl (⟨by omega, by omega, rfl⟩) | exact Or.inr (⟨by omega, by omega, rfl⟩) | (exfalso; omega)
    · refine s_bipush (pc := 17) (z := -2) dX8_holds_17 rfl ?_
      refine s_ireturn (pc := 19) dX8_holds_19 rfl ?_
      first | exact Or.inl (⟨by omega, by omega, rfl⟩) | exact Or.inr (⟨by omega, by omega, rfl⟩) | (exfalso; omega)
theorem c_X8_leaves {p v : Int} {μ : Mem} (h_p : -2147483648 ≤ p ∧ p < 2147483648) (h_v : -2147483648 ≤ v ∧ v < 2147483648) : Mc kX8_leaves [.inr (.inr 0), .inl p, .inl v] μ (pI (fun z ν => ((p < 0 ∨ 3 < p ∨ v < 0 ∨ 4 < v) ∧ -2 = z ∧ μ = ν) ∨ ((0 ≤ p ∧ p ≤ 3 ∧ 0 ≤ v ∧ v ≤ 4) ∧ μ 11 p = z ∧ wr μ 11 p v = ν))) := by
  refine Mc_of (by decide +kernel) (fun _ => Nat.le_of_ble_eq_true rfl) ?_
  show AW kX8_leaves 0 [some (.inr (.inr 0)), some (.inl p), some (.inl v), none] [] μ _
  refine s_iload_1 (pc := 0) dX8_leaves_0 ?_
  refine s_iconst_3 (pc := 1) dX8_leaves_1 ?_
  refine cS2i (pc := 2) (Ky := kX8_within) dX8_leaves_2 rfl lnX8_81 okX8_within ⟨Nat.le_of_ble_eq_true rfl, Nat.le_of_ble_eq_true rfl⟩ (Nat.le_of_ble_eq_true rfl) (c_X8_within (by omega) (by omega)) ?_
  rintro _ _ ⟨rfl, rfl⟩
  refine s_if_eq (pc := 5) 16 dX8_leaves_5 rfl (by omega) (fun h5 => ?_) (fun h5 => ?_)
  · refine s_bipush (pc := 16) (z := -2) dX8_leaves_16 rfl ?_
    refine s_ireturn (pc := 18) dX8_leaves_18 rfl ?_
    first | exact Or.inl (⟨by omega, by omega, rfl⟩) | exact Or.inr (⟨by omega, by omega, rfl⟩) | (exfalso; omega)
  · refine s_iload_2 (pc := 8) dX8_leaves_8 ?_
    refine s_iconst_4 (pc := 9) dX8_leaves_9 ?_
    refine cS2i (pc := 10) (Ky := kX8_within) dX8_leaves_10 rfl lnX8_81 okX8_within ⟨Nat.le_of_ble_eq_true rfl, Nat.le_of_ble_eq_true rfl⟩ (Nat.le_of_ble_eq_true rfl) (c_X8_within (by omega) (by omega)) ?_
    rintro _ _ ⟨rfl, rfl⟩
    refine s_if_ne (pc := 13) 19 dX8_leaves_13 rfl (by omega) (fun h13 => ?_) (fun h13 => ?_)
    · refine s_aload_0 (pc := 19) dX8_leaves_19 ?_
      refine gfX8_20 (pc := 20) dX8_leaves_20 rfl ?_
      refine s_iload_1 (pc := 23) dX8_leaves_23 ?_
      refine z_iaload (pc := 24) dX8_leaves_24 ly_11 (by omega) (by omega) ?_
      refine s_istore_3 (pc := 25) dX8_leaves_25 (Nat.le_of_ble_eq_true rfl) rfl ?_
      refine s_aload_0 (pc := 26) dX8_leaves_26 ?_
      refine gfX8_20 (pc := 27) dX8_leaves_27 rfl ?_
      refine s_iload_1 (pc := 30) dX8_leaves_30 ?_
      refine s_iload_2 (pc := 31) dX8_leaves_31 ?_
      refine z_iastore (pc := 32) dX8_leaves_32 ly_11 ip_11 (by omega) (by omega) ?_
      refine s_iload_3 (pc := 33) dX8_leaves_33 ?_
      refine s_ireturn (pc := 34) dX8_leaves_34 rfl ?_
      first | exact Or.inl (⟨by omega, by omega, rfl⟩) | exact Or.inr (⟨by omega, by omega, rfl⟩) | (exfalso; omega)
    · refine s_bipush (pc := 16) (z := -2) dX8_leaves_16 rfl ?_
      refine s_ireturn (pc := 18) dX8_leaves_18 rfl ?_
      first | exact Or.inl (⟨by omega, by omega, rfl⟩) | exact Or.inr (⟨by omega, by omega, rfl⟩) | (exfalso; omega)
theorem c_X8_weight {p v : Int} {μ : Mem} (h_p : -2147483648 ≤ p ∧ p < 2147483648) (h_v : -2147483648 ≤ v ∧ v < 2147483648) : Mc kX8_weight [.inr (.inr 0), .inl p, .inl v] μ (pI (fun z ν => ((p < 0 ∨ 4 < p ∨ v < 0 ∨ 9 < v) ∧ -2 = z ∧ μ = ν) ∨ ((0 ≤ p ∧ p ≤ 4 ∧ 0 ≤ v ∧ v ≤ 9) ∧ μ 12 p = z ∧ wr μ 12 p v = ν))) := by
  refine Mc_of (by decide +kernel) (fun _ => Nat.le_of_ble_eq_true rfl) ?_
  show AW kX8_weight 0 [some (.inr (.inr 0)), some (.inl p), some (.inl v), none] [] μ _
  refine s_iload_1 (pc := 0) dX8_weight_0 ?_
  refine s_iconst_4 (pc := 1) dX8_weight_1 ?_
  refine cS2i (pc := 2) (Ky := kX8_within) dX8_weight_2 rfl lnX8_81 okX8_within ⟨Nat.le_of_ble_eq_true rfl, Nat.le_of_ble_eq_true rfl⟩ (Nat.le_of_ble_eq_true rfl) (c_X8_within (by omega) (by omega)) ?_
  rintro _ _ ⟨rfl, rfl⟩
  refine s_if_eq (pc := 5) 17 dX8_weight_5 rfl (by omega) (fun h5 => ?_) (fun h5 => ?_)
  · refine s_bipush (pc := 17) (z := -2) dX8_weight_17 rfl ?_
    refine s_ireturn (pc := 19) dX8_weight_19 rfl ?_
    first | exact Or.inl (⟨by omega, by omega, rfl⟩) | exact Or.inr (⟨by omega, by omega, rfl⟩) | (exfalso; omega)
  · refine s_iload_2 (pc := 8) dX8_weight_8 ?_
    refine s_bipush (pc := 9) (z := 9) dX8_weight_9 rfl ?_
    refine cS2i (pc := 11) (Ky := kX8_within) dX8_weight_11 rfl lnX8_81 okX8_within ⟨Nat.le_of_ble_eq_true rfl, Nat.le_of_ble_eq_true rfl⟩ (Nat.le_of_ble_eq_true rfl) (c_X8_within (by omega) (by omega)) ?_
    rintro _ _ ⟨rfl, rfl⟩
    refine s_if_ne (pc := 14) 20 dX8_weight_14 rfl (by omega) (fun h14 => ?_) (fun h14 => ?_)
    · refine s_aload_0 (pc := 20) dX8_weight_20 ?_
      refine gfX8_23 (pc := 21) dX8_weight_21 rfl ?_
      refine s_iload_1 (pc := 24) dX8_weight_24 ?_
      refine z_iaload (pc := 25) dX8_weight_25 ly_12 (by omega) (by omega) ?_
      refine s_istore_3 (pc := 26) dX8_weight_26 (Nat.le_of_ble_eq_true rfl) rfl ?_
      refine s_aload_0 (pc := 27) dX8_weight_27 ?_
      refine gfX8_23 (pc := 28) dX8_weight_28 rfl ?_
      refine s_iload_1 (pc := 31) dX8_weight_31 ?_
      refine s_iload_2 (pc := 32) dX8_weight_32 ?_
      refine z_iastore (pc := 33) dX8_weight_33 ly_12 ip_12 (by omega) (by omega) ?_
      refine s_iload_3 (pc := 34) dX8_weight_34 ?_
      refine s_ireturn (pc := 35) dX8_weight_35 rfl ?_
      first | exact Or.inl (⟨by omega, by omega, rfl⟩) | exact Or.inr (⟨by omega, by omega, rfl⟩) | (exfalso; omega)
    · refine s_bipush (pc := 17) (z := -2) dX8_weight_17 rfl ?_
      refine s_ireturn (pc := 19) dX8_weight_19 rfl ?_
      first | exact Or.inl (⟨by omega, by omega, rfl⟩) | exact Or.inr (⟨by omega, by omega, rfl⟩) | (exfalso; omega)
theorem c_X8_quarters {tx : Int → Int} {n p i : Int} {hd lv : Int → Int} {μ : Mem} (h_p : -2147483648 ≤ p ∧ p < 2147483648) (h_i : -2147483648 ≤ i ∧ i < 2147483648) (hQ : RQ tx n μ) (hn : 0 ≤ n ∧ n ≤ 60) (e10 : μ 10 = hd) (e11 : μ 11 = lv) (hhd : ∀ p : Int, 0 ≤ p → p < 4 → 0 ≤ hd p ∧ hd p ≤ 15) (hlv : ∀ p : Int, 0 ≤ p → p < 4 → 0 ≤ lv p ∧ lv p ≤ 4) : Mc kX8_quarters [.inr (.inr 0), .inl p, .inl i] μ (pI (fun z ν => (if (0 ≤ p ∧ p < pPe tx n) ∧ (0 ≤ i ∧ i < pTa tx n) then kq (cfg tx n hd lv) p i else -2) = z ∧ Fr [17, 18, 19, 20, 21, 22, 23, 24, 25, 28, 29, 30, 105, 106, 107, 108, 109, 110, 111, 112, 113, 114, 116, 117, 118] μ ν)) := by
  refine Mc_of (by decide +kernel) (fun _ => Nat.le_of_ble_eq_true rfl) ?_
  show AW kX8_quarters 0 [some (.inr (.inr 0)), some (.inl p), some (.inl i)] [] μ _
  obtain ⟨q1, q2, q3, q4, q5⟩ := id hQ
  have hpe := pPe_in (tx := tx) hn.1
  have hta := pTa_in (tx := tx) hn.1
  refine s_aload_0 (pc := 0) dX8_quarters_0 ?_
  refine s_iload_1 (pc := 1) dX8_quarters_1 ?_
  refine cV1i (pc := 2) (Ky := kX8_isPerson) dX8_quarters_2 rfl lnX8_99 okX8_isPerson ⟨8, TX8, 11, rfl, rfl⟩ ⟨Nat.le_of_ble_eq_true rfl, Nat.le_of_ble_eq_true rfl⟩ (Nat.le_of_ble_eq_true rfl) (c_X8_isPerson (by omega) q1 hpe) ?_
  rintro _ _ ⟨rfl, rfl⟩
  refine s_if_eq (pc := 5) 16 dX8_quarters_5 rfl (by omega) (fun h5 => ?_) (fun h5 => ?_)
  · refine s_bipush (pc := 16) (z := -2) dX8_quarters_16 rfl ?_
    refine s_ireturn (pc := 18) dX8_quarters_18 rfl ?_
    first | exact ⟨by rw [if_neg (by omega)], Fr.rf⟩ | exact ⟨by rw [if_pos (by omega)], hF23.mono (by decide)⟩
  · refine s_aload_0 (pc := 8) dX8_quarters_8 ?_
    refine s_iload_2 (pc := 9) dX8_quarters_9 ?_
    refine cV1i (pc := 10) (Ky := kX8_isTale) dX8_quarters_10 rfl lnX8_105 okX8_isTale ⟨8, TX8, 11, rfl, rfl⟩ ⟨Nat.le_of_ble_eq_true rfl, Nat.le_of_ble_eq_true rfl⟩ (Nat.le_of_ble_eq_true rfl) (c_X8_isTale (by omega) q2 hta) ?_
    rintro _ _ ⟨rfl, rfl⟩
    refine s_if_ne (pc := 13) 19 dX8_quarters_13 rfl (by omega) (fun h13 => ?_) (fun h13 => ?_)
    · refine s_aload_0 (pc := 19) dX8_quarters_19 ?_
      refine gfX8_31 (pc := 20) dX8_quarters_20 rfl ?_
      refine cV0v (pc := 23) (Ky := kX1_gather) dX8_quarters_23 rfl lnX8_114 okX1_gather ⟨1, TX1, 13, rfl, rfl⟩ ⟨Nat.le_of_ble_eq_true rfl, Nat.le_of_ble_eq_true rfl⟩ (Nat.le_of_ble_eq_true rfl) (c_X1_gather hQ hn e10 e11 hhd hlv) ?_
      rintro ν23 ⟨hC23, hF23⟩
      refine s_aload_0 (pc := 26) dX8_quarters_26 ?_
      refine gfX8_31 (pc := 27) dX8_quarters_27 rfl ?_
      refine s_iload_1 (pc := 30) dX8_quarters_30 ?_
      refine s_iload_2 (pc := 31) dX8_quarters_31 ?_
      refine cV2i (pc := 32) (Ky := kX1_quartersAt) dX8_quarters_32 rfl lnX8_117 okX1_quartersAt ⟨1, TX1, 13, rfl, rfl⟩ ⟨Nat.le_of_ble_eq_true rfl, Nat.le_of_ble_eq_true rfl⟩ (Nat.le_of_ble_eq_true rfl) (c_X1_quartersAt hC23 (show 0 ≤ p ∧ p < pPe tx n by omega) (show 0 ≤ i ∧ i < pTa tx n by omega)) ?_
      rintro _ _ ⟨rfl, rfl⟩
      refine s_ireturn (pc := 35) dX8_quarters_35 rfl ?_
      first | exact ⟨by rw [if_neg (by omega)], Fr.rf⟩ | exact ⟨by rw [if_pos (by omega)], hF23.mono (by decide)⟩
    · refine s_bipush (pc := 16) (z := -2) dX8_quarters_16 rfl ?_
      refine s_ireturn (pc := 18) dX8_quarters_18 rfl ?_
      first | exact ⟨by rw [if_neg (by omega)], Fr.rf⟩ | exact ⟨by rw [if_pos (by omega)], hF23.mono (by decide)⟩
theorem c_X8_shareOwed {κ : Mem} {p i : Int} {μ : Mem} (hC : CR κ μ) (hko : KO κ) (hp : 0 ≤ p ∧ p < κ 129 0) (hi : 0 ≤ i ∧ i ≤ κ 125 0) (hP : PL κ μ) : Mc kX8_shareOwed [.inr (.inr 0), .inl p, .inl i] μ (pR (fun z ν => z = 6 ∧ wr (wr μ 117 0 (frc (ow κ i.toNat p) (3072 ^ i.toNat) 0)) 118 0 (frc (ow κ i.toNat p) (3072 ^ i.toNat) 1) = ν)) := by
  refine Mc_of (by decide +kernel) (fun _ => Nat.le_of_ble_eq_true rfl) ?_
  show AW kX8_shareOwed 0 [some (.inr (.inr 0)), some (.inl p), some (.inl i)] [] μ _
  have r125 := hC.1.2.1
  have how := ow_in hko (i := i.toNat) (p := p) (by omega) hp.1 hp.2
  have h3 := p3072 (κ 125 0 - i).toNat (by omega)
  have h4 := p3072 (κ 125 0).toNat (by omega)
  have e3 : (3072 : Int) ^ (κ 125 0).toNat = 3072 ^ i.toNat * 3072 ^ (κ 125 0 - i).toNat := by rw [← Int.pow_add]; congr 1; omega
  have hm0 := Int.mul_nonneg how.1 (show 0 ≤ (3072 : Int) ^ (κ 125 0 - i).toNat by omega)
  have hm1 := Int.mul_le_mul_of_nonneg_right how.2 (show 0 ≤ (3072 : Int) ^ (κ 125 0 - i).toNat by omega)
  rw [← e3] at hm1
  have hfr : ∀ w, frc (ow κ i.toNat p * 3072 ^ (κ 125 0 - i).toNat) (3072 ^ (κ 125 0).toNat) w = frc (ow κ i.toNat p) (3072 ^ i.toNat) w := fun w => by rw [e3]; exact frc_mul (by omega)
  refine s_aload_0 (pc := 0) dX8_shareOwed_0 ?_
  refine gfX8_63 (pc := 1) dX8_shareOwed_1 rfl ?_
  refine s_aload_0 (pc := 4) dX8_shareOwed_4 ?_
  refine gfX8_40 (pc := 5) dX8_shareOwed_5 rfl ?_
  refine s_iload_1 (pc := 8) dX8_shareOwed_8 ?_
  refine s_iload_2 (pc := 9) dX8_shareOwed_9 ?_
  refine cV2l (pc := 10) (Ky := kX0_owedInParts) dX8_shareOwed_10 rfl lnX8_209 okX0_owedInParts ⟨0, TX0, 7, rfl, rfl⟩ ⟨Nat.le_of_ble_eq_true rfl, Nat.le_of_ble_eq_true rfl⟩ (Nat.le_of_ble_eq_true rfl) (c_X0_owedInParts hC hp hi hP.1) ?_
  rintro _ _ ⟨rfl, rfl⟩
  refine s_aload_0 (pc := 13) dX8_shareOwed_13 ?_
  refine gfX8_40 (pc := 14) dX8_shareOwed_14 rfl ?_
  refine cV0l (pc := 17) (Ky := kX0_owedWhole) dX8_shareOwed_17 rfl lnX8_213 okX0_owedWhole ⟨0, TX0, 7, rfl, rfl⟩ ⟨Nat.le_of_ble_eq_true rfl, Nat.le_of_ble_eq_true rfl⟩ (Nat.le_of_ble_eq_true rfl) (c_X0_owedWhole hC) ?_
  rintro _ _ ⟨rfl, rfl⟩
  refine cV2r (pc := 20) (Ky := kX6_put) dX8_shareOwed_20 rfl lnX8_217 okX6_put ⟨6, TX6, 2, rfl, rfl⟩ ⟨Nat.le_of_ble_eq_true rfl, Nat.le_of_ble_eq_true rfl⟩ (Nat.le_of_ble_eq_true rfl) (c_X6_put (by omega) (by omega)) ?_
  rintro _ _ ⟨rfl, rfl⟩
  refine s_areturn (pc := 23) dX8_shareOwed_23 rfl ?_
  exact ⟨rfl, by rw [hfr, hfr]⟩
theorem c_X8_shareOfDebt {κ : Mem} {p : Int} {μ : Mem} (hC : CR κ μ) (hko : KO κ) (hp : 0 ≤ p ∧ p < κ 129 0) (hP : PL κ μ) : Mc kX8_shareOfDebt [.inr (.inr 0), .inl p] μ (pR (fun z ν => z = 6 ∧ wr (wr μ 117 0 (frc (am κ p) (6144 ^ (κ 125 0).toNat) 0)) 118 0 (frc (am κ p) (6144 ^ (κ 125 0).toNat) 1) = ν)) := by
  refine Mc_of (by decide +kernel) (fun _ => Nat.le_of_ble_eq_true rfl) ?_
  show AW kX8_shareOfDebt 0 [some (.inr (.inr 0)), some (.inl p)] [] μ _
  have ham := am_in hko hp.1 hp.2
  have h6 := p6144 hko.1
  have r129 := hC.1.1
  refine s_aload_0 (pc := 0) dX8_shareOfDebt_0 ?_
  refine gfX8_63 (pc := 1) dX8_shareOfDebt_1 rfl ?_
  refine s_aload_0 (pc := 4) dX8_shareOfDebt_4 ?_
  refine gfX8_40 (pc := 5) dX8_shareOfDebt_5 rfl ?_
  refine gfX8_346 (pc := 8) dX8_shareOfDebt_8 rfl ?_
  refine s_iload_1 (pc := 11) dX8_shareOfDebt_11 ?_
  refine z_laload (pc := 12) dX8_shareOfDebt_12 ly_25 (by omega) (by omega) ?_
  rw [hP.2 p hp.1 hp.2]
  refine s_aload_0 (pc := 13) dX8_shareOfDebt_13 ?_
  refine gfX8_40 (pc := 14) dX8_shareOfDebt_14 rfl ?_
  refine cV0l (pc := 17) (Ky := kX0_costWhole) dX8_shareOfDebt_17 rfl lnX8_350 okX0_costWhole ⟨0, TX0, 7, rfl, rfl⟩ ⟨Nat.le_of_ble_eq_true rfl, Nat.le_of_ble_eq_true rfl⟩ (Nat.le_of_ble_eq_true rfl) (c_X0_costWhole hC) ?_
  rintro _ _ ⟨rfl, rfl⟩
  refine cV2r (pc := 20) (Ky := kX6_put) dX8_shareOfDebt_20 rfl lnX8_217 okX6_put ⟨6, TX6, 2, rfl, rfl⟩ ⟨Nat.le_of_ble_eq_true rfl, Nat.le_of_ble_eq_true rfl⟩ (Nat.le_of_ble_eq_true rfl) (c_X6_put (by omega) (by omega)) ?_
  rintro _ _ ⟨rfl, rfl⟩
  refine s_areturn (pc := 23) dX8_shareOfDebt_23 rfl ?_
  exact ⟨rfl, rfl⟩
theorem c_X8_shareOfCost {κ : Mem} {c : Int} {μ : Mem} (hC : CR κ μ) (hc : -100000000000000000 ≤ c ∧ c ≤ 100000000000000000) : Mc kX8_shareOfCost [.inr (.inr 0), .inr (.inl c)] μ (pR (fun z ν => z = 6 ∧ wr (wr μ 117 0 (frc (c) (6144 ^ (κ 125 0).toNat) 0)) 118 0 (frc (c) (6144 ^ (κ 125 0).toNat) 1) = ν)) := by
  refine Mc_of (by decide +kernel) (fun _ => Nat.le_of_ble_eq_true rfl) ?_
  show AW kX8_shareOfCost 0 [some (.inr (.inr 0)), some (.inr (.inl c)), none] [] μ _
  have h6 := p6144 hC.1
  refine s_aload_0 (pc := 0) dX8_shareOfCost_0 ?_
  refine gfX8_63 (pc := 1) dX8_shareOfCost_1 rfl ?_
  refine s_lload_1 (pc := 4) dX8_shareOfCost_4 ?_
  refine s_aload_0 (pc := 5) dX8_shareOfCost_5 ?_
  refine gfX8_40 (pc := 6) dX8_shareOfCost_6 rfl ?_
  refine cV0l (pc := 9) (Ky := kX0_costWhole) dX8_shareOfCost_9 rfl lnX8_350 okX0_costWhole ⟨0, TX0, 7, rfl, rfl⟩ ⟨Nat.le_of_ble_eq_true rfl, Nat.le_of_ble_eq_true rfl⟩ (Nat.le_of_ble_eq_true rfl) (c_X0_costWhole hC) ?_
  rintro _ _ ⟨rfl, rfl⟩
  refine cV2r (pc := 12) (Ky := kX6_put) dX8_shareOfCost_12 rfl lnX8_217 okX6_put ⟨6, TX6, 2, rfl, rfl⟩ ⟨Nat.le_of_ble_eq_true rfl, Nat.le_of_ble_eq_true rfl⟩ (Nat.le_of_ble_eq_true rfl) (c_X6_put (by omega) (by omega)) ?_
  rintro _ _ ⟨rfl, rfl⟩
  refine s_areturn (pc := 15) dX8_shareOfCost_15 rfl ?_
  exact ⟨rfl, rfl⟩
theorem c_X8_owes {tx : Int → Int} {n p m w : Int} {hd lv : Int → Int} {μ : Mem} (h_p : -2147483648 ≤ p ∧ p < 2147483648) (h_m : -2147483648 ≤ m ∧ m < 2147483648) (h_w : -2147483648 ≤ w ∧ w < 2147483648) (hQ : RQ tx n μ) (hn : 0 ≤ n ∧ n ≤ 60) (e10 : μ 10 = hd) (e11 : μ 11 = lv) (hhd : ∀ p : Int, 0 ≤ p → p < 4 → 0 ≤ hd p ∧ hd p ≤ 15) (hlv : ∀ p : Int, 0 ≤ p → p < 4 → 0 ≤ lv p ∧ lv p ≤ 4) : Mc kX8_owes [.inr (.inr 0), .inl p, .inl m, .inl w] μ (pL (fun z ν => (if (0 ≤ p ∧ p < pPe tx n) ∧ (0 ≤ m ∧ m ≤ pTa tx n) ∧ (0 ≤ w ∧ w ≤ 1) then frc (ow (cfg tx n hd lv) m.toNat p) (3072 ^ m.toNat) w else -9223372036854775806) = z ∧ Fr [17, 18, 19, 20, 21, 22, 23, 24, 25, 28, 29, 30, 105, 106, 107, 108, 109, 110, 111, 112, 113, 114, 116, 117, 118] μ ν)) := by
  refine Mc_of (by decide +kernel) (fun _ => Nat.le_of_ble_eq_true rfl) ?_
  show AW kX8_owes 0 [some (.inr (.inr 0)), some (.inl p), some (.inl m), some (.inl w)] [] μ _
  obtain ⟨q1, q2, q3, q4, q5⟩ := id hQ
  have hpe := pPe_in (tx := tx) hn.1
  have hta := pTa_in (tx := tx) hn.1
  refine s_aload_0 (pc := 0) dX8_owes_0 ?_
  refine s_iload_1 (pc := 1) dX8_owes_1 ?_
  refine cV1i (pc := 2) (Ky := kX8_isPerson) dX8_owes_2 rfl lnX8_99 okX8_isPerson ⟨8, TX8, 11, rfl, rfl⟩ ⟨Nat.le_of_ble_eq_true rfl, Nat.le_of_ble_eq_true rfl⟩ (Nat.le_of_ble_eq_true rfl) (c_X8_isPerson (by omega) q1 hpe) ?_
  rintro _ _ ⟨rfl, rfl⟩
  refine s_if_eq (pc := 5) 29 dX8_owes_5 rfl (by omega) (fun h5 => ?_) (fun h5 => ?_)
  · refine s_bipush (pc := 29) (z := -2) dX8_owes_29 rfl ?_
    refine cS1l (pc := 31) (Ky := kX8_asLong) dX8_owes_31 rfl lnX8_127 okX8_asLong ⟨Nat.le_of_ble_eq_true rfl, Nat.le_of_ble_eq_true rfl⟩ (Nat.le_of_ble_eq_true rfl) (c_X8_asLong (by omega)) ?_
    rintro _ _ ⟨rfl, rfl⟩
    refine s_lreturn (pc := 34) dX8_owes_34 rfl ?_
    first
      | exact ⟨by rw [if_neg (by omega)]; rfl, Fr.rf⟩
      | exact ⟨by rw [if_pos (by omega)] <;> rfl, (((hF39.mono (by decide)).tr (hF46.mono (by decide))).wr (by decide)).wr (by decide)⟩
  · refine s_iload_2 (pc := 8) dX8_owes_8 ?_
    refine s_aload_0 (pc := 9) dX8_owes_9 ?_
    refine gfX8_12 (pc := 10) dX8_owes_10 rfl ?_
    refine gfX8_121 (pc := 13) dX8_owes_13 rfl ?_
    try rw [q2]
    refine cS2i (pc := 16) (Ky := kX8_within) dX8_owes_16 rfl lnX8_81 okX8_within ⟨Nat.le_of_ble_eq_true rfl, Nat.le_of_ble_eq_true rfl⟩ (Nat.le_of_ble_eq_true rfl) (c_X8_within (by omega) (by omega)) ?_
    rintro _ _ ⟨rfl, rfl⟩
    refine s_if_eq (pc := 19) 29 dX8_owes_19 rfl (by omega) (fun h19 => ?_) (fun h19 => ?_)
    · refine s_bipush (pc := 29) (z := -2) dX8_owes_29 rfl ?_
      refine cS1l (pc := 31) (Ky := kX8_asLong) dX8_owes_31 rfl lnX8_127 okX8_asLong ⟨Nat.le_of_ble_eq_true rfl, Nat.le_of_ble_eq_true rfl⟩ (Nat.le_of_ble_eq_true rfl) (c_X8_asLong (by omega)) ?_
      rintro _ _ ⟨rfl, rfl⟩
      refine s_lreturn (pc := 34) dX8_owes_34 rfl ?_
      first
        | exact ⟨by rw [if_neg (by omega)]; rfl, Fr.rf⟩
        | exact ⟨by rw [if_pos (by omega)] <;> rfl, (((hF39.mono (by decide)).tr (hF46.mono (by decide))).wr (by decide)).wr (by decide)⟩
    · refine s_iload_3 (pc := 22) dX8_owes_22 ?_
      refine cS1i (pc := 23) (Ky := kX8_isPart) dX8_owes_23 rfl lnX8_124 okX8_isPart ⟨Nat.le_of_ble_eq_true rfl, Nat.le_of_ble_eq_true rfl⟩ (Nat.le_of_ble_eq_true rfl) (c_X8_isPart (by omega)) ?_
      rintro _ _ ⟨rfl, rfl⟩
      refine s_if_ne (pc := 26) 35 dX8_owes_26 rfl (by omega) (fun h26 => ?_) (fun h26 => ?_)
      · refine s_aload_0 (pc := 35) dX8_owes_35 ?_
        refine gfX8_31 (pc := 36) dX8_owes_36 rfl ?_
        refine cV0v (pc := 39) (Ky := kX1_gather) dX8_owes_39 rfl lnX8_114 okX1_gather ⟨1, TX1, 13, rfl, rfl⟩ ⟨Nat.le_of_ble_eq_true rfl, Nat.le_of_ble_eq_true rfl⟩ (Nat.le_of_ble_eq_true rfl) (c_X1_gather hQ hn e10 e11 hhd hlv) ?_
        rintro ν39 ⟨hC39, hF39⟩
        have hko := cfg_KO hC39.1 (by omega)
        have hpl := p6144 hko.1
        refine s_aload_0 (pc := 42) dX8_owes_42 ?_
        refine gfX8_40 (pc := 43) dX8_owes_43 rfl ?_
        refine cV0v (pc := 46) (Ky := kX0_play) dX8_owes_46 rfl lnX8_131 okX0_play ⟨0, TX0, 7, rfl, rfl⟩ ⟨Nat.le_of_ble_eq_true rfl, Nat.le_of_ble_eq_true rfl⟩ (Nat.le_of_ble_eq_true rfl) (c_X0_play hC39 hko) ?_
        rintro ν46 ⟨hP46, hF46⟩
        have hC46 := hC39.fr hF46 (by decide)
        refine s_aload_0 (pc := 49) dX8_owes_49 ?_
        refine s_iload_1 (pc := 50) dX8_owes_50 ?_
        refine s_iload_2 (pc := 51) dX8_owes_51 ?_
        refine cV2r (pc := 52) (Ky := kX8_shareOwed) dX8_owes_52 rfl lnX8_134 okX8_shareOwed ⟨8, TX8, 11, rfl, rfl⟩ ⟨Nat.le_of_ble_eq_true rfl, Nat.le_of_ble_eq_true rfl⟩ (Nat.le_of_ble_eq_true rfl) (c_X8_shareOwed hC46 hko (show 0 ≤ p ∧ p < pPe tx n by omega) (show 0 ≤ m ∧ m ≤ pTa tx n by omega) hP46) ?_
        rintro _ _ ⟨rfl, rfl⟩
        refine s_iload_3 (pc := 55) dX8_owes_55 ?_
        refine cV1l (pc := 56) (Ky := kX6_part) dX8_owes_56 rfl lnX8_138 okX6_part ⟨6, TX6, 2, rfl, rfl⟩ ⟨Nat.le_of_ble_eq_true rfl, Nat.le_of_ble_eq_true rfl⟩ (Nat.le_of_ble_eq_true rfl) (c_X6_part (a := ow (cfg tx n hd lv) m.toNat p) (b := 3072 ^ m.toNat) (by omega) (by simp (decide := true) only [wr_s, wr_n, wa_s, wa_n, mg_i, mg_o, if_true, eq_self, reduceIte]) (by simp (decide := true) only [wr_s, wr_n, wa_s, wa_n, mg_i, mg_o, if_true, eq_self, reduceIte])) ?_
        rintro _ _ ⟨rfl, rfl⟩
        refine s_lreturn (pc := 59) dX8_owes_59 rfl ?_
        first
          | exact ⟨by rw [if_neg (by omega)]; rfl, Fr.rf⟩
          | exact ⟨by rw [if_pos (by omega)] <;> rfl, (((hF39.mono (by decide)).tr (hF46.mono (by decide))).wr (by decide)).wr (by decide)⟩
      · refine s_bipush (pc := 29) (z := -2) dX8_owes_29 rfl ?_
        refine cS1l (pc := 31) (Ky := kX8_asLong) dX8_owes_31 rfl lnX8_127 okX8_asLong ⟨Nat.le_of_ble_eq_true rfl, Nat.le_of_ble_eq_true rfl⟩ (Nat.le_of_ble_eq_true rfl) (c_X8_asLong (by omega)) ?_
        rintro _ _ ⟨rfl, rfl⟩
        refine s_lreturn (pc := 34) dX8_owes_34 rfl ?_
        first
          | exact ⟨by rw [if_neg (by omega)]; rfl, Fr.rf⟩
          | exact ⟨by rw [if_pos (by omega)] <;> rfl, (((hF39.mono (by decide)).tr (hF46.mono (by decide))).wr (by decide)).wr (by decide)⟩
theorem c_X8_amount {tx : Int → Int} {n p w : Int} {hd lv : Int → Int} {μ : Mem} (h_p : -2147483648 ≤ p ∧ p < 2147483648) (h_w : -2147483648 ≤ w ∧ w < 2147483648) (hQ : RQ tx n μ) (hn : 0 ≤ n ∧ n ≤ 60) (e10 : μ 10 = hd) (e11 : μ 11 = lv) (hhd : ∀ p : Int, 0 ≤ p → p < 4 → 0 ≤ hd p ∧ hd p ≤ 15) (hlv : ∀ p : Int, 0 ≤ p → p < 4 → 0 ≤ lv p ∧ lv p ≤ 4) : Mc kX8_amount [.inr (.inr 0), .inl p, .inl w] μ (pL (fun z ν => (if (0 ≤ p ∧ p < pPe tx n) ∧ (0 ≤ w ∧ w ≤ 1) then frc (am (cfg tx n hd lv) p) (6144 ^ (pTa tx n).toNat) w else -9223372036854775806) = z ∧ Fr [17, 18, 19, 20, 21, 22, 23, 24, 25, 28, 29, 30, 105, 106, 107, 108, 109, 110, 111, 112, 113, 114, 116, 117, 118] μ ν)) := by
  refine Mc_of (by decide +kernel) (fun _ => Nat.le_of_ble_eq_true rfl) ?_
  show AW kX8_amount 0 [some (.inr (.inr 0)), some (.inl p), some (.inl w)] [] μ _
  obtain ⟨q1, q2, q3, q4, q5⟩ := id hQ
  have hpe := pPe_in (tx := tx) hn.1
  have hta := pTa_in (tx := tx) hn.1
  refine s_aload_0 (pc := 0) dX8_amount_0 ?_
  refine s_iload_1 (pc := 1) dX8_amount_1 ?_
  refine cV1i (pc := 2) (Ky := kX8_isPerson) dX8_amount_2 rfl lnX8_99 okX8_isPerson ⟨8, TX8, 11, rfl, rfl⟩ ⟨Nat.le_of_ble_eq_true rfl, Nat.le_of_ble_eq_true rfl⟩ (Nat.le_of_ble_eq_true rfl) (c_X8_isPerson (by omega) q1 hpe) ?_
  rintro _ _ ⟨rfl, rfl⟩
  refine s_if_eq (pc := 5) 15 dX8_amount_5 rfl (by omega) (fun h5 => ?_) (fun h5 => ?_)
  · refine s_bipush (pc := 15) (z := -2) dX8_amount_15 rfl ?_
    refine cS1l (pc := 17) (Ky := kX8_asLong) dX8_amount_17 rfl lnX8_127 okX8_asLong ⟨Nat.le_of_ble_eq_true rfl, Nat.le_of_ble_eq_true rfl⟩ (Nat.le_of_ble_eq_true rfl) (c_X8_asLong (by omega)) ?_
    rintro _ _ ⟨rfl, rfl⟩
    refine s_lreturn (pc := 20) dX8_amount_20 rfl ?_
    first
      | exact ⟨by rw [if_neg (by omega)]; rfl, Fr.rf⟩
      | exact ⟨by rw [if_pos (by omega)] <;> rfl, (((hF25.mono (by decide)).tr (hF32.mono (by decide))).wr (by decide)).wr (by decide)⟩
  · refine s_iload_2 (pc := 8) dX8_amount_8 ?_
    refine cS1i (pc := 9) (Ky := kX8_isPart) dX8_amount_9 rfl lnX8_124 okX8_isPart ⟨Nat.le_of_ble_eq_true rfl, Nat.le_of_ble_eq_true rfl⟩ (Nat.le_of_ble_eq_true rfl) (c_X8_isPart (by omega)) ?_
    rintro _ _ ⟨rfl, rfl⟩
    refine s_if_ne (pc := 12) 21 dX8_amount_12 rfl (by omega) (fun h12 => ?_) (fun h12 => ?_)
    · refine s_aload_0 (pc := 21) dX8_amount_21 ?_
      refine gfX8_31 (pc := 22) dX8_amount_22 rfl ?_
      refine cV0v (pc := 25) (Ky := kX1_gather) dX8_amount_25 rfl lnX8_114 okX1_gather ⟨1, TX1, 13, rfl, rfl⟩ ⟨Nat.le_of_ble_eq_true rfl, Nat.le_of_ble_eq_true rfl⟩ (Nat.le_of_ble_eq_true rfl) (c_X1_gather hQ hn e10 e11 hhd hlv) ?_
      rintro ν25 ⟨hC25, hF25⟩
      have hko := cfg_KO hC25.1 (by omega)
      have hpl := p6144 hko.1
      refine s_aload_0 (pc := 28) dX8_amount_28 ?_
      refine gfX8_40 (pc := 29) dX8_amount_29 rfl ?_
      refine cV0v (pc := 32) (Ky := kX0_play) dX8_amount_32 rfl lnX8_131 okX0_play ⟨0, TX0, 7, rfl, rfl⟩ ⟨Nat.le_of_ble_eq_true rfl, Nat.le_of_ble_eq_true rfl⟩ (Nat.le_of_ble_eq_true rfl) (c_X0_play hC25 hko) ?_
      rintro ν32 ⟨hP32, hF32⟩
      have hC32 := hC25.fr hF32 (by decide)
      refine s_aload_0 (pc := 35) dX8_amount_35 ?_
      refine s_iload_1 (pc := 36) dX8_amount_36 ?_
      refine cV1r (pc := 37) (Ky := kX8_shareOfDebt) dX8_amount_37 rfl lnX8_141 okX8_shareOfDebt ⟨8, TX8, 11, rfl, rfl⟩ ⟨Nat.le_of_ble_eq_true rfl, Nat.le_of_ble_eq_true rfl⟩ (Nat.le_of_ble_eq_true rfl) (c_X8_shareOfDebt hC32 hko (show 0 ≤ p ∧ p < pPe tx n by omega) hP32) ?_
      rintro _ _ ⟨rfl, rfl⟩
      refine s_iload_2 (pc := 40) dX8_amount_40 ?_
      refine cV1l (pc := 41) (Ky := kX6_part) dX8_amount_41 rfl lnX8_138 okX6_part ⟨6, TX6, 2, rfl, rfl⟩ ⟨Nat.le_of_ble_eq_true rfl, Nat.le_of_ble_eq_true rfl⟩ (Nat.le_of_ble_eq_true rfl) (c_X6_part (a := am (cfg tx n hd lv) p) (b := 6144 ^ ((cfg tx n hd lv) 125 0).toNat) (by omega) (by simp (decide := true) only [wr_s, wr_n, wa_s, wa_n, mg_i, mg_o, if_true, eq_self, reduceIte]) (by simp (decide := true) only [wr_s, wr_n, wa_s, wa_n, mg_i, mg_o, if_true, eq_self, reduceIte])) ?_
      rintro _ _ ⟨rfl, rfl⟩
      refine s_lreturn (pc := 44) dX8_amount_44 rfl ?_
      first
        | exact ⟨by rw [if_neg (by omega)]; rfl, Fr.rf⟩
        | exact ⟨by rw [if_pos (by omega)] <;> rfl, (((hF25.mono (by decide)).tr (hF32.mono (by decide))).wr (by decide)).wr (by decide)⟩
    · refine s_bipush (pc := 15) (z := -2) dX8_amount_15 rfl ?_
      refine cS1l (pc := 17) (Ky := kX8_asLong) dX8_amount_17 rfl lnX8_127 okX8_asLong ⟨Nat.le_of_ble_eq_true rfl, Nat.le_of_ble_eq_true rfl⟩ (Nat.le_of_ble_eq_true rfl) (c_X8_asLong (by omega)) ?_
      rintro _ _ ⟨rfl, rfl⟩
      refine s_lreturn (pc := 20) dX8_amount_20 rfl ?_
      first
        | exact ⟨by rw [if_neg (by omega)]; rfl, Fr.rf⟩
        | exact ⟨by rw [if_pos (by omega)] <;> rfl, (((hF25.mono (by decide)).tr (hF32.mono (by decide))).wr (by decide)).wr (by decide)⟩
theorem c_X8_cost {tx : Int → Int} {n p w : Int} {hd lv : Int → Int} {μ : Mem} (h_p : -2147483648 ≤ p ∧ p < 2147483648) (h_w : -2147483648 ≤ w ∧ w < 2147483648) (hQ : RQ tx n μ) (hn : 0 ≤ n ∧ n ≤ 60) (e10 : μ 10 = hd) (e11 : μ 11 = lv) (hhd : ∀ p : Int, 0 ≤ p → p < 4 → 0 ≤ hd p ∧ hd p ≤ 15) (hlv : ∀ p : Int, 0 ≤ p → p < 4 → 0 ≤ lv p ∧ lv p ≤ 4) : Mc kX8_cost [.inr (.inr 0), .inl p, .inl w] μ (pL (fun z ν => (if (0 ≤ p ∧ p < pPe tx n) ∧ (0 ≤ w ∧ w ≤ 1) then frc (cst (cfg tx n hd lv) p) (6144 ^ (pTa tx n).toNat) w else -9223372036854775806) = z ∧ Fr [17, 18, 19, 20, 21, 22, 23, 24, 25, 28, 29, 30, 105, 106, 107, 108, 109, 110, 111, 112, 113, 114, 116, 117, 118] μ ν)) := by
  refine Mc_of (by decide +kernel) (fun _ => Nat.le_of_ble_eq_true rfl) ?_
  show AW kX8_cost 0 [some (.inr (.inr 0)), some (.inl p), some (.inl w)] [] μ _
  obtain ⟨q1, q2, q3, q4, q5⟩ := id hQ
  have hpe := pPe_in (tx := tx) hn.1
  have hta := pTa_in (tx := tx) hn.1
  refine s_aload_0 (pc := 0) dX8_cost_0 ?_
  refine s_iload_1 (pc := 1) dX8_cost_1 ?_
  refine cV1i (pc := 2) (Ky := kX8_isPerson) dX8_cost_2 rfl lnX8_99 okX8_isPerson ⟨8, TX8, 11, rfl, rfl⟩ ⟨Nat.le_of_ble_eq_true rfl, Nat.le_of_ble_eq_true rfl⟩ (Nat.le_of_ble_eq_true rfl) (c_X8_isPerson (by omega) q1 hpe) ?_
  rintro _ _ ⟨rfl, rfl⟩
  refine s_if_eq (pc := 5) 15 dX8_cost_5 rfl (by omega) (fun h5 => ?_) (fun h5 => ?_)
  · refine s_bipush (pc := 15) (z := -2) dX8_cost_15 rfl ?_
    refine cS1l (pc := 17) (Ky := kX8_asLong) dX8_cost_17 rfl lnX8_127 okX8_asLong ⟨Nat.le_of_ble_eq_true rfl, Nat.le_of_ble_eq_true rfl⟩ (Nat.le_of_ble_eq_true rfl) (c_X8_asLong (by omega)) ?_
    rintro _ _ ⟨rfl, rfl⟩
    refine s_lreturn (pc := 20) dX8_cost_20 rfl ?_
    first
      | exact ⟨by rw [if_neg (by omega)]; rfl, Fr.rf⟩
      | exact ⟨by rw [if_pos (by omega)] <;> rfl, (((hF25.mono (by decide)).tr (hF32.mono (by decide))).wr (by decide)).wr (by decide)⟩
  · refine s_iload_2 (pc := 8) dX8_cost_8 ?_
    refine cS1i (pc := 9) (Ky := kX8_isPart) dX8_cost_9 rfl lnX8_124 okX8_isPart ⟨Nat.le_of_ble_eq_true rfl, Nat.le_of_ble_eq_true rfl⟩ (Nat.le_of_ble_eq_true rfl) (c_X8_isPart (by omega)) ?_
    rintro _ _ ⟨rfl, rfl⟩
    refine s_if_ne (pc := 12) 21 dX8_cost_12 rfl (by omega) (fun h12 => ?_) (fun h12 => ?_)
    · refine s_aload_0 (pc := 21) dX8_cost_21 ?_
      refine gfX8_31 (pc := 22) dX8_cost_22 rfl ?_
      refine cV0v (pc := 25) (Ky := kX1_gather) dX8_cost_25 rfl lnX8_114 okX1_gather ⟨1, TX1, 13, rfl, rfl⟩ ⟨Nat.le_of_ble_eq_true rfl, Nat.le_of_ble_eq_true rfl⟩ (Nat.le_of_ble_eq_true rfl) (c_X1_gather hQ hn e10 e11 hhd hlv) ?_
      rintro ν25 ⟨hC25, hF25⟩
      have hko := cfg_KO hC25.1 (by omega)
      have hpl := p6144 hko.1
      have hci := cst_in hko (p := p) (by omega) (show p < pPe tx n by omega) (show p < pPe tx n by omega)
      refine s_aload_0 (pc := 28) dX8_cost_28 ?_
      refine gfX8_40 (pc := 29) dX8_cost_29 rfl ?_
      refine cV0v (pc := 32) (Ky := kX0_play) dX8_cost_32 rfl lnX8_131 okX0_play ⟨0, TX0, 7, rfl, rfl⟩ ⟨Nat.le_of_ble_eq_true rfl, Nat.le_of_ble_eq_true rfl⟩ (Nat.le_of_ble_eq_true rfl) (c_X0_play hC25 hko) ?_
      rintro ν32 ⟨hP32, hF32⟩
      have hC32 := hC25.fr hF32 (by decide)
      refine s_aload_0 (pc := 35) dX8_cost_35 ?_
      refine s_aload_0 (pc := 36) dX8_cost_36 ?_
      refine gfX8_40 (pc := 37) dX8_cost_37 rfl ?_
      refine s_iload_1 (pc := 40) dX8_cost_40 ?_
      refine cV1l (pc := 41) (Ky := kX0_costOf) dX8_cost_41 rfl lnX8_145 okX0_costOf ⟨0, TX0, 7, rfl, rfl⟩ ⟨Nat.le_of_ble_eq_true rfl, Nat.le_of_ble_eq_true rfl⟩ (Nat.le_of_ble_eq_true rfl) (c_X0_costOf hC32 (show 0 ≤ p ∧ p < pPe tx n by omega) (show p < pPe tx n by omega) rfl hP32) ?_
      rintro _ _ ⟨rfl, rfl⟩
      refine cV1r (pc := 44) (Ky := kX8_shareOfCost) dX8_cost_44 rfl lnX8_148 okX8_shareOfCost ⟨8, TX8, 11, rfl, rfl⟩ ⟨Nat.le_of_ble_eq_true rfl, Nat.le_of_ble_eq_true rfl⟩ (Nat.le_of_ble_eq_true rfl) (c_X8_shareOfCost hC32 (by omega)) ?_
      rintro _ _ ⟨rfl, rfl⟩
      refine s_iload_2 (pc := 47) dX8_cost_47 ?_
      refine cV1l (pc := 48) (Ky := kX6_part) dX8_cost_48 rfl lnX8_138 okX6_part ⟨6, TX6, 2, rfl, rfl⟩ ⟨Nat.le_of_ble_eq_true rfl, Nat.le_of_ble_eq_true rfl⟩ (Nat.le_of_ble_eq_true rfl) (c_X6_part (a := cst (cfg tx n hd lv) p) (b := 6144 ^ ((cfg tx n hd lv) 125 0).toNat) (by omega) (by simp (decide := true) only [wr_s, wr_n, wa_s, wa_n, mg_i, mg_o, if_true, eq_self, reduceIte]) (by simp (decide := true) only [wr_s, wr_n, wa_s, wa_n, mg_i, mg_o, if_true, eq_self, reduceIte])) ?_
      rintro _ _ ⟨rfl, rfl⟩
      refine s_lreturn (pc := 51) dX8_cost_51 rfl ?_
      first
        | exact ⟨by rw [if_neg (by omega)]; rfl, Fr.rf⟩
        | exact ⟨by rw [if_pos (by omega)] <;> rfl, (((hF25.mono (by decide)).tr (hF32.mono (by decide))).wr (by decide)).wr (by decide)⟩
    · refine s_bipush (pc := 15) (z := -2) dX8_cost_15 rfl ?_
      refine cS1l (pc := 17) (Ky := kX8_asLong) dX8_cost_17 rfl lnX8_127 okX8_asLong ⟨Nat.le_of_ble_eq_true rfl, Nat.le_of_ble_eq_true rfl⟩ (Nat.le_of_ble_eq_true rfl) (c_X8_asLong (by omega)) ?_
      rintro _ _ ⟨rfl, rfl⟩
      refine s_lreturn (pc := 20) dX8_cost_20 rfl ?_
      first
        | exact ⟨by rw [if_neg (by omega)]; rfl, Fr.rf⟩
        | exact ⟨by rw [if_pos (by omega)] <;> rfl, (((hF25.mono (by decide)).tr (hF32.mono (by decide))).wr (by decide)).wr (by decide)⟩
theorem c_X8_best {tx : Int → Int} {n p w : Int} {hd lv : Int → Int} {μ : Mem} (h_p : -2147483648 ≤ p ∧ p < 2147483648) (h_w : -2147483648 ≤ w ∧ w < 2147483648) (hQ : RQ tx n μ) (hn : 0 ≤ n ∧ n ≤ 60) (e10 : μ 10 = hd) (e11 : μ 11 = lv) (hhd : ∀ p : Int, 0 ≤ p → p < 4 → 0 ≤ hd p ∧ hd p ≤ 15) (hlv : ∀ p : Int, 0 ≤ p → p < 4 → 0 ≤ lv p ∧ lv p ≤ 4) : Mc kX8_best [.inr (.inr 0), .inl p, .inl w] μ (pL (fun z ν => (if (0 ≤ p ∧ p < pPe tx n) ∧ (0 ≤ w ∧ w ≤ 3) then sBest (cfg tx n hd lv) p w else -9223372036854775806) = z ∧ Fr [17, 18, 19, 20, 21, 22, 23, 24, 25, 28, 29, 30, 105, 106, 107, 108, 109, 110, 111, 112, 113, 114, 116, 117, 118] μ ν)) := by
  refine Mc_of (by decide +kernel) (fun _ => Nat.le_of_ble_eq_true rfl) ?_
  show AW kX8_best 0 [some (.inr (.inr 0)), some (.inl p), some (.inl w)] [] μ _
  obtain ⟨q1, q2, q3, q4, q5⟩ := id hQ
  have hpe := pPe_in (tx := tx) hn.1
  have hta := pTa_in (tx := tx) hn.1
  refine s_aload_0 (pc := 0) dX8_best_0 ?_
  refine s_iload_1 (pc := 1) dX8_best_1 ?_
  refine cV1i (pc := 2) (Ky := kX8_isPerson) dX8_best_2 rfl lnX8_99 okX8_isPerson ⟨8, TX8, 11, rfl, rfl⟩ ⟨Nat.le_of_ble_eq_true rfl, Nat.le_of_ble_eq_true rfl⟩ (Nat.le_of_ble_eq_true rfl) (c_X8_isPerson (by omega) q1 hpe) ?_
  rintro _ _ ⟨rfl, rfl⟩
  refine s_if_eq (pc := 5) 16 dX8_best_5 rfl (by omega) (fun h5 => ?_) (fun h5 => ?_)
  · refine s_bipush (pc := 16) (z := -2) dX8_best_16 rfl ?_
    refine cS1l (pc := 18) (Ky := kX8_asLong) dX8_best_18 rfl lnX8_127 okX8_asLong ⟨Nat.le_of_ble_eq_true rfl, Nat.le_of_ble_eq_true rfl⟩ (Nat.le_of_ble_eq_true rfl) (c_X8_asLong (by omega)) ?_
    rintro _ _ ⟨rfl, rfl⟩
    refine s_lreturn (pc := 21) dX8_best_21 rfl ?_
    first
      | exact ⟨by rw [if_neg (by omega)]; rfl, Fr.rf⟩
      | exact ⟨by rw [if_pos (by omega), sBest, if_pos (by omega)], hF27.mono (by decide)⟩
      | exact ⟨by rw [if_pos (by omega), sBest, if_neg (by omega), if_pos (by omega)], hF27.mono (by decide)⟩
      | exact ⟨by rw [if_pos (by omega), sBest, if_neg (by omega), if_neg (by omega)], ((hF27.mono (by decide)).wr (by decide)).wr (by decide)⟩
  · refine s_iload_2 (pc := 8) dX8_best_8 ?_
    refine s_iconst_3 (pc := 9) dX8_best_9 ?_
    refine cS2i (pc := 10) (Ky := kX8_within) dX8_best_10 rfl lnX8_81 okX8_within ⟨Nat.le_of_ble_eq_true rfl, Nat.le_of_ble_eq_true rfl⟩ (Nat.le_of_ble_eq_true rfl) (c_X8_within (by omega) (by omega)) ?_
    rintro _ _ ⟨rfl, rfl⟩
    refine s_if_ne (pc := 13) 22 dX8_best_13 rfl (by omega) (fun h13 => ?_) (fun h13 => ?_)
    · refine s_aload_0 (pc := 22) dX8_best_22 ?_
      refine gfX8_49 (pc := 23) dX8_best_23 rfl ?_
      refine s_iload_1 (pc := 26) dX8_best_26 ?_
      refine cV1v (pc := 27) (Ky := kX4_findBest) dX8_best_27 rfl lnX8_152 okX4_findBest ⟨4, TX4, 11, rfl, rfl⟩ ⟨Nat.le_of_ble_eq_true rfl, Nat.le_of_ble_eq_true rfl⟩ (Nat.le_of_ble_eq_true rfl) (c_X4_findBest hQ hn e10 e11 hhd hlv (show 0 ≤ p ∧ p < pPe tx n by omega)) ?_
      rintro ν27 ⟨hC27, hB27, hF27⟩
      have hko := cfg_KO hC27.1 (by omega)
      have hpl := p6144 hko.1
      have hbg := best_g hko (p := p) (by omega) (show p < pPe tx n by omega) (show p < pPe tx n by omega)
      obtain ⟨b112, b113, b114⟩ := RC_g hbg hB27
      obtain ⟨g1, g2, g3, g4⟩ := id hbg
      refine s_iload_2 (pc := 30) dX8_best_30 ?_
      refine s_iconst_2 (pc := 31) dX8_best_31 ?_
      refine s_icmp_ne (pc := 32) 44 dX8_best_32 rfl (by omega) (by omega) (fun h32 => ?_) (fun h32 => ?_)
      · refine s_iload_2 (pc := 44) dX8_best_44 ?_
        refine s_iconst_3 (pc := 45) dX8_best_45 ?_
        refine s_icmp_ne (pc := 46) 58 dX8_best_46 rfl (by omega) (by omega) (fun h46 => ?_) (fun h46 => ?_)
        · refine s_aload_0 (pc := 58) dX8_best_58 ?_
          refine s_aload_0 (pc := 59) dX8_best_59 ?_
          refine gfX8_49 (pc := 60) dX8_best_60 rfl ?_
          refine gfX8_162 (pc := 63) dX8_best_63 rfl ?_
          try rw [b112]
          try rw [b113]
          try rw [b114]
          refine cV1r (pc := 66) (Ky := kX8_shareOfCost) dX8_best_66 rfl lnX8_148 okX8_shareOfCost ⟨8, TX8, 11, rfl, rfl⟩ ⟨Nat.le_of_ble_eq_true rfl, Nat.le_of_ble_eq_true rfl⟩ (Nat.le_of_ble_eq_true rfl) (c_X8_shareOfCost hC27 (by omega)) ?_
          rintro _ _ ⟨rfl, rfl⟩
          refine s_iload_2 (pc := 69) dX8_best_69 ?_
          refine cV1l (pc := 70) (Ky := kX6_part) dX8_best_70 rfl lnX8_138 okX6_part ⟨6, TX6, 2, rfl, rfl⟩ ⟨Nat.le_of_ble_eq_true rfl, Nat.le_of_ble_eq_true rfl⟩ (Nat.le_of_ble_eq_true rfl) (c_X6_part (a := (best (cfg tx n hd lv) p).1) (b := 6144 ^ ((cfg tx n hd lv) 125 0).toNat) (by omega) (by simp (decide := true) only [wr_s, wr_n, wa_s, wa_n, mg_i, mg_o, if_true, eq_self, reduceIte]) (by simp (decide := true) only [wr_s, wr_n, wa_s, wa_n, mg_i, mg_o, if_true, eq_self, reduceIte])) ?_
          rintro _ _ ⟨rfl, rfl⟩
          refine s_lreturn (pc := 73) dX8_best_73 rfl ?_
          first
            | exact ⟨by rw [if_neg (by omega)]; rfl, Fr.rf⟩
            | exact ⟨by rw [if_pos (by omega), sBest, if_pos (by omega)], hF27.mono (by decide)⟩
            | exact ⟨by rw [if_pos (by omega), sBest, if_neg (by omega), if_pos (by omega)], hF27.mono (by decide)⟩
            | exact ⟨by rw [if_pos (by omega), sBest, if_neg (by omega), if_neg (by omega)], ((hF27.mono (by decide)).wr (by decide)).wr (by decide)⟩
        · refine s_aload_0 (pc := 49) dX8_best_49 ?_
          refine gfX8_49 (pc := 50) dX8_best_50 rfl ?_
          refine gfX8_159 (pc := 53) dX8_best_53 rfl ?_
          try rw [b112]
          try rw [b113]
          try rw [b114]
          refine s_i2l (pc := 56) dX8_best_56 (by omega) ?_
          refine s_lreturn (pc := 57) dX8_best_57 rfl ?_
          first
            | exact ⟨by rw [if_neg (by omega)]; rfl, Fr.rf⟩
            | exact ⟨by rw [if_pos (by omega), sBest, if_pos (by omega)], hF27.mono (by decide)⟩
            | exact ⟨by rw [if_pos (by omega), sBest, if_neg (by omega), if_pos (by omega)], hF27.mono (by decide)⟩
            | exact ⟨by rw [if_pos (by omega), sBest, if_neg (by omega), if_neg (by omega)], ((hF27.mono (by decide)).wr (by decide)).wr (by decide)⟩
      · refine s_aload_0 (pc := 35) dX8_best_35 ?_
        refine gfX8_49 (pc := 36) dX8_best_36 rfl ?_
        refine gfX8_156 (pc := 39) dX8_best_39 rfl ?_
        try rw [b112]
        try rw [b113]
        try rw [b114]
        refine s_i2l (pc := 42) dX8_best_42 (by omega) ?_
        refine s_lreturn (pc := 43) dX8_best_43 rfl ?_
        first
          | exact ⟨by rw [if_neg (by omega)]; rfl, Fr.rf⟩
          | exact ⟨by rw [if_pos (by omega), sBest, if_pos (by omega)], hF27.mono (by decide)⟩
          | exact ⟨by rw [if_pos (by omega), sBest, if_neg (by omega), if_pos (by omega)], hF27.mono (by decide)⟩
          | exact ⟨by rw [if_pos (by omega), sBest, if_neg (by omega), if_neg (by omega)], ((hF27.mono (by decide)).wr (by decide)).wr (by decide)⟩
    · refine s_bipush (pc := 16) (z := -2) dX8_best_16 rfl ?_
      refine cS1l (pc := 18) (Ky := kX8_asLong) dX8_best_18 rfl lnX8_127 okX8_asLong ⟨Nat.le_of_ble_eq_true rfl, Nat.le_of_ble_eq_true rfl⟩ (Nat.le_of_ble_eq_true rfl) (c_X8_asLong (by omega)) ?_
      rintro _ _ ⟨rfl, rfl⟩
      refine s_lreturn (pc := 21) dX8_best_21 rfl ?_
      first
        | exact ⟨by rw [if_neg (by omega)]; rfl, Fr.rf⟩
        | exact ⟨by rw [if_pos (by omega), sBest, if_pos (by omega)], hF27.mono (by decide)⟩
        | exact ⟨by rw [if_pos (by omega), sBest, if_neg (by omega), if_pos (by omega)], hF27.mono (by decide)⟩
        | exact ⟨by rw [if_pos (by omega), sBest, if_neg (by omega), if_neg (by omega)], ((hF27.mono (by decide)).wr (by decide)).wr (by decide)⟩
