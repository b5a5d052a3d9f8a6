theorem c_X8_restTold {p w : Int} {μ : Mem} (hp : p = -1 ∨ (0 ≤ p ∧ p < 4)) (h_w : -2147483648 ≤ w ∧ w < 2147483648) : Mc kX8_restTold [.inr (.inr 0), .inl p, .inl w] μ (pI (fun z ν => (if p = -1 then μ 115 0 else if w = 0 then μ 26 p else μ 27 p) = z ∧ μ = ν)) := by
  refine Mc_of (by decide +kernel) (fun _ => Nat.le_of_ble_eq_true rfl) ?_
  show AW kX8_restTold 0 [some (.inr (.inr 0)), some (.inl p), some (.inl w)] [] μ _
  refine s_iload_1 (pc := 0) dX8_restTold_0 ?_
  refine s_iconst_m1 (pc := 1) dX8_restTold_1 ?_
  refine s_icmp_ne (pc := 2) 13 dX8_restTold_2 rfl (by omega) (by omega) (fun h2 => ?_) (fun h2 => ?_)
  · refine s_iload_2 (pc := 13) dX8_restTold_13 ?_
    refine s_if_ne (pc := 14) 29 dX8_restTold_14 rfl (by omega) (fun h14 => ?_) (fun h14 => ?_)
    · refine s_aload_0 (pc := 29) dX8_restTold_29 ?_
      refine gfX8_49 (pc := 30) dX8_restTold_30 rfl ?_
      refine gfX8_359 (pc := 33) dX8_restTold_33 rfl ?_
      refine s_iload_1 (pc := 36) dX8_restTold_36 ?_
      refine z_iaload (pc := 37) dX8_restTold_37 ly_27 (by omega) (by omega) ?_
      refine s_ireturn (pc := 38) dX8_restTold_38 rfl ?_
      first
        | exact ⟨by rw [if_pos (by omega)], rfl⟩
        | exact ⟨by rw [if_neg (by omega), if_pos (by omega)], rfl⟩
        | exact ⟨by rw [if_neg (by omega), if_neg (by omega)], rfl⟩
    · refine s_aload_0 (pc := 17) dX8_restTold_17 ?_
      refine gfX8_49 (pc := 18) dX8_restTold_18 rfl ?_
      refine gfX8_356 (pc := 21) dX8_restTold_21 rfl ?_
      refine s_iload_1 (pc := 24) dX8_restTold_24 ?_
      refine z_iaload (pc := 25) dX8_restTold_25 ly_26 (by omega) (by omega) ?_
      refine s_goto (pc := 26) 38 dX8_restTold_26 rfl ?_
      refine s_ireturn (pc := 38) dX8_restTold_38 rfl ?_
      first
        | exact ⟨by rw [if_pos (by omega)], rfl⟩
        | exact ⟨by rw [if_neg (by omega), if_pos (by omega)], rfl⟩
        | exact ⟨by rw [if_neg (by omega), if_neg (by omega)], rfl⟩
  · refine s_aload_0 (pc := 5) dX8_restTold_5 ?_
    refine gfX8_49 (pc := 6) dX8_restTold_6 rfl ?_
    refine gfX8_353 (pc := 9) dX8_restTold_9 rfl ?_
    refine s_ireturn (pc := 12) dX8_restTold_12 rfl ?_
    first
      | exact ⟨by rw [if_pos (by omega)], rfl⟩
      | exact ⟨by rw [if_neg (by omega), if_pos (by omega)], rfl⟩
      | exact ⟨by rw [if_neg (by omega), if_neg (by omega)], rfl⟩
theorem c_X8_rest {tx : Int → Int} {n p w : Int} {hd lv : Int → Int} {μ : Mem} (h_p : -2147483648 ≤ p ∧ p < 2147483648) (h_w : -2147483648 ≤ w ∧ w < 2147483648) (hQ : RQ tx n μ) (hn : 0 ≤ n ∧ n ≤ 60) (e10 : μ 10 = hd) (e11 : μ 11 = lv) (hhd : ∀ p : Int, 0 ≤ p → p < 4 → 0 ≤ hd p ∧ hd p ≤ 15) (hlv : ∀ p : Int, 0 ≤ p → p < 4 → 0 ≤ lv p ∧ lv p ≤ 4) : Mc kX8_rest [.inr (.inr 0), .inl p, .inl w] μ (pI (fun z ν => (if (p = -1 ∧ w = 0) ∨ ((0 ≤ p ∧ p < pPe tx n) ∧ (0 ≤ w ∧ w ≤ 1)) then sRest (cfg tx n hd lv) p w else -2) = z ∧ Fr [17, 18, 19, 20, 21, 22, 23, 24, 25, 26, 27, 28, 29, 30, 105, 106, 107, 108, 109, 110, 111, 112, 113, 114, 115, 116, 117, 118] μ ν)) := by
  refine Mc_of (by decide +kernel) (fun _ => Nat.le_of_ble_eq_true rfl) ?_
  show AW kX8_rest 0 [some (.inr (.inr 0)), some (.inl p), some (.inl w), none] [] μ _
  obtain ⟨q1, q2, q3, q4, q5⟩ := id hQ
  have hpe := pPe_in (tx := tx) hn.1
  have hta := pTa_in (tx := tx) hn.1
  refine s_iload_1 (pc := 0) dX8_rest_0 ?_
  refine s_iconst_m1 (pc := 1) dX8_rest_1 ?_
  refine s_icmp_ne (pc := 2) 13 dX8_rest_2 rfl (by omega) (by omega) (fun h2 => ?_) (fun h2 => ?_)
  · refine s_iconst_0 (pc := 13) dX8_rest_13 ?_
    refine s_istore_3 (pc := 14) dX8_rest_14 (Nat.le_of_ble_eq_true rfl) rfl ?_
    refine s_iload_3 (pc := 15) dX8_rest_15 ?_
    refine s_if_ne (pc := 16) 37 dX8_rest_16 rfl (by omega) (fun h16 => ?_) (fun h16 => ?_)
    · exact absurd h16 (by decide)
    · refine s_aload_0 (pc := 19) dX8_rest_19 ?_
      refine s_iload_1 (pc := 20) dX8_rest_20 ?_
      refine cV1i (pc := 21) (Ky := kX8_isPerson) dX8_rest_21 rfl lnX8_99 okX8_isPerson ⟨8, TX8, 11, rfl, rfl⟩ ⟨Nat.le_of_ble_eq_true rfl, Nat.le_of_ble_eq_true rfl⟩ (Nat.le_of_ble_eq_true rfl) (c_X8_isPerson (by omega) q1 hpe) ?_
      rintro _ _ ⟨rfl, rfl⟩
      refine s_if_eq (pc := 24) 34 dX8_rest_24 rfl (by omega) (fun h24 => ?_) (fun h24 => ?_)
      · refine s_bipush (pc := 34) (z := -2) dX8_rest_34 rfl ?_
        refine s_ireturn (pc := 36) dX8_rest_36 rfl ?_
        first
          | exact ⟨by rw [if_neg (by omega)], Fr.rf⟩
          | (refine ⟨?_, hF41.mono (by decide)⟩
             rw [if_pos (by omega)]
             by_cases hp1 : p = -1
             · rw [if_pos hp1, h11541, hp1, show w = 0 by omega]
             · obtain ⟨a1, a2⟩ := hr41 p (by omega) (by omega)
               rw [if_neg hp1, sRest, if_neg hp1]
               by_cases hw0 : w = 0
               · rw [if_pos hw0, if_pos hw0]; exact a1.symm
               · rw [if_neg hw0, if_neg hw0]; exact a2.symm)
      · refine s_iload_2 (pc := 27) dX8_rest_27 ?_
        refine cS1i (pc := 28) (Ky := kX8_isPart) dX8_rest_28 rfl lnX8_124 okX8_isPart ⟨Nat.le_of_ble_eq_true rfl, Nat.le_of_ble_eq_true rfl⟩ (Nat.le_of_ble_eq_true rfl) (c_X8_isPart (by omega)) ?_
        rintro _ _ ⟨rfl, rfl⟩
        refine s_if_ne (pc := 31) 37 dX8_rest_31 rfl (by omega) (fun h31 => ?_) (fun h31 => ?_)
        · refine s_aload_0 (pc := 37) dX8_rest_37 ?_
          refine gfX8_49 (pc := 38) dX8_rest_38 rfl ?_
          refine cV0v (pc := 41) (Ky := kX4_settle) dX8_rest_41 rfl lnX8_166 okX4_settle ⟨4, TX4, 11, rfl, rfl⟩ ⟨Nat.le_of_ble_eq_true rfl, Nat.le_of_ble_eq_true rfl⟩ (Nat.le_of_ble_eq_true rfl) (c_X4_settle hQ hn e10 e11 hhd hlv) ?_
          rintro ν41 ⟨h11541, hr41, hF41⟩
          refine s_aload_0 (pc := 44) dX8_rest_44 ?_
          refine s_iload_1 (pc := 45) dX8_rest_45 ?_
          refine s_iload_2 (pc := 46) dX8_rest_46 ?_
          refine cV2i (pc := 47) (Ky := kX8_restTold) dX8_rest_47 rfl lnX8_169 okX8_restTold ⟨8, TX8, 11, rfl, rfl⟩ ⟨Nat.le_of_ble_eq_true rfl, Nat.le_of_ble_eq_true rfl⟩ (Nat.le_of_ble_eq_true rfl) (c_X8_restTold (by omega) (by omega)) ?_
          rintro _ _ ⟨rfl, rfl⟩
          refine s_ireturn (pc := 50) dX8_rest_50 rfl ?_
          first
            | exact ⟨by rw [if_neg (by omega)], Fr.rf⟩
            | (refine ⟨?_, hF41.mono (by decide)⟩
               rw [if_pos (by omega)]
               by_cases hp1 : p = -1
               · rw [if_pos hp1, h11541, hp1, show w = 0 by omega]
               · obtain ⟨a1, a2⟩ := hr41 p (by omega) (by omega)
                 rw [if_neg hp1, sRest, if_neg hp1]
                 by_cases hw0 : w = 0
                 · rw [if_pos hw0, if_pos hw0]; exact a1.symm
                 · rw [if_neg hw0, if_neg hw0]; exact a2.symm)
        · refine s_bipush (pc := 34) (z := -2) dX8_rest_34 rfl ?_
          refine s_ireturn (pc := 36) dX8_rest_36 rfl ?_
          first
            | exact ⟨by rw [if_neg (by omega)], Fr.rf⟩
            | (refine ⟨?_, hF41.mono (by decide)⟩
               rw [if_pos (by omega)]
               by_cases hp1 : p = -1
               · rw [if_pos hp1, h11541, hp1, show w = 0 by omega]
               · obtain ⟨a1, a2⟩ := hr41 p (by omega) (by omega)
                 rw [if_neg hp1, sRest, if_neg hp1]
                 by_cases hw0 : w = 0
                 · rw [if_pos hw0, if_pos hw0]; exact a1.symm
                 · rw [if_neg hw0, if_neg hw0]; exact a2.symm)
  · refine s_iload_2 (pc := 5) dX8_rest_5 ?_
    refine s_if_ne (pc := 6) 13 dX8_rest_6 rfl (by omega) (fun h6 => ?_) (fun h6 => ?_)
    · refine s_iconst_0 (pc := 13) dX8_rest_13 ?_
      refine s_istore_3 (pc := 14) dX8_rest_14 (Nat.le_of_ble_eq_true rfl) rfl ?_
      refine s_iload_3 (pc := 15) dX8_rest_15 ?_
      refine s_if_ne (pc := 16) 37 dX8_rest_16 rfl (by omega) (fun h16 => ?_) (fun h16 => ?_)
      · exact absurd h16 (by decide)
      · refine s_aload_0 (pc := 19) dX8_rest_19 ?_
        refine s_iload_1 (pc := 20) dX8_rest_20 ?_
        refine cV1i (pc := 21) (Ky := kX8_isPerson) dX8_rest_21 rfl lnX8_99 okX8_isPerson ⟨8, TX8, 11, rfl, rfl⟩ ⟨Nat.le_of_ble_eq_true rfl, Nat.le_of_ble_eq_true rfl⟩ (Nat.le_of_ble_eq_true rfl) (c_X8_isPerson (by omega) q1 hpe) ?_
        rintro _ _ ⟨rfl, rfl⟩
        refine s_if_eq (pc := 24) 34 dX8_rest_24 rfl (by omega) (fun h24 => ?_) (fun h24 => ?_)
        · refine s_bipush (pc := 34) (z := -2) dX8_rest_34 rfl ?_
          refine s_ireturn (pc := 36) dX8_rest_36 rfl ?_
          first
            | exact ⟨by rw [if_neg (by omega)], Fr.rf⟩
            | (refine ⟨?_, hF41.mono (by decide)⟩
               rw [if_pos (by omega)]
               by_cases hp1 : p = -1
               · rw [if_pos hp1, h11541, hp1, show w = 0 by omega]
               · obtain ⟨a1, a2⟩ := hr41 p (by omega) (by omega)
                 rw [if_neg hp1, sRest, if_neg hp1]
                 by_cases hw0 : w = 0
                 · rw [if_pos hw0, if_pos hw0]; exact a1.symm
                 · rw [if_neg hw0, if_neg hw0]; exact a2.symm)
        · refine s_iload_2 (pc := 27) dX8_rest_27 ?_
          refine cS1i (pc := 28) (Ky := kX8_isPart) dX8_rest_28 rfl lnX8_124 okX8_isPart ⟨Nat.le_of_ble_eq_true rfl, Nat.le_of_ble_eq_true rfl⟩ (Nat.le_of_ble_eq_true rfl) (c_X8_isPart (by omega)) ?_
          rintro _ _ ⟨rfl, rfl⟩
          refine s_if_ne (pc := 31) 37 dX8_rest_31 rfl (by omega) (fun h31 => ?_) (fun h31 => ?_)
          · refine s_aload_0 (pc := 37) dX8_rest_37 ?_
            refine gfX8_49 (pc := 38) dX8_rest_38 rfl ?_
            refine cV0v (pc := 41) (Ky := kX4_settle) dX8_rest_41 rfl lnX8_166 okX4_settle ⟨4, TX4, 11, rfl, rfl⟩ ⟨Nat.le_of_ble_eq_true rfl, Nat.le_of_ble_eq_true rfl⟩ (Nat.le_of_ble_eq_true rfl) (c_X4_settle hQ hn e10 e11 hhd hlv) ?_
            rintro ν41 ⟨h11541, hr41, hF41⟩
            refine s_aload_0 (pc := 44) dX8_rest_44 ?_
            refine s_iload_1 (pc := 45) dX8_rest_45 ?_
            refine s_iload_2 (pc := 46) dX8_rest_46 ?_
            refine cV2i (pc := 47) (Ky := kX8_restTold) dX8_rest_47 rfl lnX8_169 okX8_restTold ⟨8, TX8, 11, rfl, rfl⟩ ⟨Nat.le_of_ble_eq_true rfl, Nat.le_of_ble_eq_true rfl⟩ (Nat.le_of_ble_eq_true rfl) (c_X8_restTold (by omega) (by omega)) ?_
            rintro _ _ ⟨rfl, rfl⟩
            refine s_ireturn (pc := 50) dX8_rest_50 rfl ?_
            first
              | exact ⟨by rw [if_neg (by omega)], Fr.rf⟩
              | (refine ⟨?_, hF41.mono (by decide)⟩
                 rw [if_pos (by omega)]
                 by_cases hp1 : p = -1
                 · rw [if_pos hp1, h11541, hp1, show w = 0 by omega]
                 · obtain ⟨a1, a2⟩ := hr41 p (by omega) (by omega)
                   rw [if_neg hp1, sRest, if_neg hp1]
                   by_cases hw0 : w = 0
                   · rw [if_pos hw0, if_pos hw0]; exact a1.symm
                   · rw [if_neg hw0, if_neg hw0]; exact a2.symm)
          · refine s_bipush (pc := 34) (z := -2) dX8_rest_34 rfl ?_
            refine s_ireturn (pc := 36) dX8_rest_36 rfl ?_
            first
              | exact ⟨by rw [if_neg (by omega)], Fr.rf⟩
              | (refine ⟨?_, hF41.mono (by decide)⟩
                 rw [if_pos (by omega)]
                 by_cases hp1 : p = -1
                 · rw [if_pos hp1, h11541, hp1, show w = 0 by omega]
                 · obtain ⟨a1, a2⟩ := hr41 p (by omega) (by omega)
                   rw [if_neg hp1, sRest, if_neg hp1]
                   by_cases hw0 : w = 0
                   · rw [if_pos hw0, if_pos hw0]; exact a1.symm
                   · rw [if_neg hw0, if_neg hw0]; exact a2.symm)
    · refine s_iconst_1 (pc := 9) dX8_rest_9 ?_
      refine s_goto (pc := 10) 14 dX8_rest_10 rfl ?_
      refine s_istore_3 (pc := 14) dX8_rest_14 (Nat.le_of_ble_eq_true rfl) rfl ?_
      refine s_iload_3 (pc := 15) dX8_rest_15 ?_
      refine s_if_ne (pc := 16) 37 dX8_rest_16 rfl (by omega) (fun h16 => ?_) (fun h16 => ?_)
      · refine s_aload_0 (pc := 37) dX8_rest_37 ?_
        refine gfX8_49 (pc := 38) dX8_rest_38 rfl ?_
        refine cV0v (pc := 41) (Ky := kX4_settle) dX8_rest_41 rfl lnX8_166 okX4_settle ⟨4, TX4, 11, rfl, rfl⟩ ⟨Nat.le_of_ble_eq_true rfl, Nat.le_of_ble_eq_true rfl⟩ (Nat.le_of_ble_eq_true rfl) (c_X4_settle hQ hn e10 e11 hhd hlv) ?_
        rintro ν41 ⟨h11541, hr41, hF41⟩
        refine s_aload_0 (pc := 44) dX8_rest_44 ?_
        refine s_iload_1 (pc := 45) dX8_rest_45 ?_
        refine s_iload_2 (pc := 46) dX8_rest_46 ?_
        refine cV2i (pc := 47) (Ky := kX8_restTold) dX8_rest_47 rfl lnX8_169 okX8_restTold ⟨8, TX8, 11, rfl, rfl⟩ ⟨Nat.le_of_ble_eq_true rfl, Nat.le_of_ble_eq_true rfl⟩ (Nat.le_of_ble_eq_true rfl) (c_X8_restTold (by omega) (by omega)) ?_
        rintro _ _ ⟨rfl, rfl⟩
        refine s_ireturn (pc := 50) dX8_rest_50 rfl ?_
        first
          | exact ⟨by rw [if_neg (by omega)], Fr.rf⟩
          | (refine ⟨?_, hF41.mono (by decide)⟩
             rw [if_pos (by omega)]
             by_cases hp1 : p = -1
             · rw [if_pos hp1, h11541, hp1, show w = 0 by omega]
             · obtain ⟨a1, a2⟩ := hr41 p (by omega) (by omega)
               rw [if_neg hp1, sRest, if_neg hp1]
               by_cases hw0 : w = 0
               · rw [if_pos hw0, if_pos hw0]; exact a1.symm
               · rw [if_neg hw0, if_neg hw0]; exact a2.symm)
      · exact absurd h16 (by decide)
theorem c_X8_order {tx : Int → Int} {n p w : Int} {hd lv : Int → Int} {μ : Mem} (h_p : -2147483648 ≤ p ∧ p < 2147483648) (h_w : -2147483648 ≤ w ∧ w < 2147483648) (hQ : RQ tx n μ) (hn : 0 ≤ n ∧ n ≤ 60) (e10 : μ 10 = hd) (e11 : μ 11 = lv) (hhd : ∀ p : Int, 0 ≤ p → p < 4 → 0 ≤ hd p ∧ hd p ≤ 15) (hlv : ∀ p : Int, 0 ≤ p → p < 4 → 0 ≤ lv p ∧ lv p ≤ 4) : Mc kX8_order [.inr (.inr 0), .inl p, .inl w] μ (pI (fun z ν => (if (0 ≤ p ∧ p < pPe tx n) ∧ (0 ≤ w ∧ w < pTa tx n) then dg (pTa tx n) (ord (cfg tx n hd lv) p).2 w else -2) = z ∧ Fr [17, 18, 19, 20, 21, 22, 23, 24, 25, 28, 29, 30, 105, 106, 107, 108, 109, 110, 111, 112, 113, 114, 116, 117, 118] μ ν)) := by
  refine Mc_of (by decide +kernel) (fun _ => Nat.le_of_ble_eq_true rfl) ?_
  show AW kX8_order 0 [some (.inr (.inr 0)), some (.inl p), some (.inl w)] [] μ _
  obtain ⟨q1, q2, q3, q4, q5⟩ := id hQ
  have hpe := pPe_in (tx := tx) hn.1
  have hta := pTa_in (tx := tx) hn.1
  refine s_aload_0 (pc := 0) dX8_order_0 ?_
  refine s_iload_1 (pc := 1) dX8_order_1 ?_
  refine cV1i (pc := 2) (Ky := kX8_isPerson) dX8_order_2 rfl lnX8_99 okX8_isPerson ⟨8, TX8, 11, rfl, rfl⟩ ⟨Nat.le_of_ble_eq_true rfl, Nat.le_of_ble_eq_true rfl⟩ (Nat.le_of_ble_eq_true rfl) (c_X8_isPerson (by omega) q1 hpe) ?_
  rintro _ _ ⟨rfl, rfl⟩
  refine s_if_eq (pc := 5) 16 dX8_order_5 rfl (by omega) (fun h5 => ?_) (fun h5 => ?_)
  · refine s_bipush (pc := 16) (z := -2) dX8_order_16 rfl ?_
    refine s_ireturn (pc := 18) dX8_order_18 rfl ?_
    first | exact ⟨by rw [if_neg (by omega)], Fr.rf⟩ | exact ⟨by rw [if_pos (by omega)]; exact (hO24 w (by omega) (by omega)).symm, hF24.mono (by decide)⟩
  · refine s_aload_0 (pc := 8) dX8_order_8 ?_
    refine s_iload_2 (pc := 9) dX8_order_9 ?_
    refine cV1i (pc := 10) (Ky := kX8_isTale) dX8_order_10 rfl lnX8_105 okX8_isTale ⟨8, TX8, 11, rfl, rfl⟩ ⟨Nat.le_of_ble_eq_true rfl, Nat.le_of_ble_eq_true rfl⟩ (Nat.le_of_ble_eq_true rfl) (c_X8_isTale (by omega) q2 hta) ?_
    rintro _ _ ⟨rfl, rfl⟩
    refine s_if_ne (pc := 13) 19 dX8_order_13 rfl (by omega) (fun h13 => ?_) (fun h13 => ?_)
    · refine s_aload_0 (pc := 19) dX8_order_19 ?_
      refine gfX8_49 (pc := 20) dX8_order_20 rfl ?_
      refine s_iload_1 (pc := 23) dX8_order_23 ?_
      refine cV1v (pc := 24) (Ky := kX4_findOrder) dX8_order_24 rfl lnX8_172 okX4_findOrder ⟨4, TX4, 11, rfl, rfl⟩ ⟨Nat.le_of_ble_eq_true rfl, Nat.le_of_ble_eq_true rfl⟩ (Nat.le_of_ble_eq_true rfl) (c_X4_findOrder hQ hn e10 e11 hhd hlv (show 0 ≤ p ∧ p < pPe tx n by omega)) ?_
      rintro ν24 ⟨hO24, hF24⟩
      refine s_aload_0 (pc := 27) dX8_order_27 ?_
      refine gfX8_49 (pc := 28) dX8_order_28 rfl ?_
      refine gfX8_175 (pc := 31) dX8_order_31 rfl ?_
      refine s_iload_2 (pc := 34) dX8_order_34 ?_
      refine z_iaload (pc := 35) dX8_order_35 ly_28 (by omega) (by omega) ?_
      refine s_ireturn (pc := 36) dX8_order_36 rfl ?_
      first | exact ⟨by rw [if_neg (by omega)], Fr.rf⟩ | exact ⟨by rw [if_pos (by omega)]; exact (hO24 w (by omega) (by omega)).symm, hF24.mono (by decide)⟩
    · refine s_bipush (pc := 16) (z := -2) dX8_order_16 rfl ?_
      refine s_ireturn (pc := 18) dX8_order_18 rfl ?_
      first | exact ⟨by rw [if_neg (by omega)], Fr.rf⟩ | exact ⟨by rw [if_pos (by omega)]; exact (hO24 w (by omega) (by omega)).symm, hF24.mono (by decide)⟩
theorem c_X8_among {tx : Int → Int} {n p : Int} {hd lv : Int → Int} {μ : Mem} (h_p : -2147483648 ≤ p ∧ p < 2147483648) (hQ : RQ tx n μ) (hn : 0 ≤ n ∧ n ≤ 60) (e10 : μ 10 = hd) (e11 : μ 11 = lv) (hhd : ∀ p : Int, 0 ≤ p → p < 4 → 0 ≤ hd p ∧ hd p ≤ 15) (hlv : ∀ p : Int, 0 ≤ p → p < 4 → 0 ≤ lv p ∧ lv p ≤ 4) : Mc kX8_among [.inr (.inr 0), .inl p] μ (pI (fun z ν => (if 0 ≤ p ∧ p < pPe tx n then (if pPe tx n = 1 then -3 else (amg (cfg tx n hd lv) p (2 ^ (pPe tx n).toNat)).2) else -2) = z ∧ Fr [17, 18, 19, 20, 21, 22, 23, 24, 25, 28, 29, 30, 105, 106, 107, 108, 109, 110, 111, 112, 113, 114, 116, 117, 118] μ ν)) := by
  refine Mc_of (by decide +kernel) (fun _ => Nat.le_of_ble_eq_true rfl) ?_
  show AW kX8_among 0 [some (.inr (.inr 0)), some (.inl p)] [] μ _
  obtain ⟨q1, q2, q3, q4, q5⟩ := id hQ
  have hpe := pPe_in (tx := tx) hn.1
  have hta := pTa_in (tx := tx) hn.1
  refine s_aload_0 (pc := 0) dX8_among_0 ?_
  refine s_iload_1 (pc := 1) dX8_among_1 ?_
  refine cV1i (pc := 2) (Ky := kX8_isPerson) dX8_among_2 rfl lnX8_99 okX8_isPerson ⟨8, TX8, 11, rfl, rfl⟩ ⟨Nat.le_of_ble_eq_true rfl, Nat.le_of_ble_eq_true rfl⟩ (Nat.le_of_ble_eq_true rfl) (c_X8_isPerson (by omega) q1 hpe) ?_
  rintro _ _ ⟨rfl, rfl⟩
  refine s_if_ne (pc := 5) 11 dX8_among_5 rfl (by omega) (fun h5 => ?_) (fun h5 => ?_)
  · refine s_aload_0 (pc := 11) dX8_among_11 ?_
    refine gfX8_49 (pc := 12) dX8_among_12 rfl ?_
    refine s_iload_1 (pc := 15) dX8_among_15 ?_
    refine cV1i (pc := 16) (Ky := kX4_bestCompany) dX8_among_16 rfl lnX8_178 okX4_bestCompany ⟨4, TX4, 11, rfl, rfl⟩ ⟨Nat.le_of_ble_eq_true rfl, Nat.le_of_ble_eq_true rfl⟩ (Nat.le_of_ble_eq_true rfl) (c_X4_bestCompany hQ hn e10 e11 hhd hlv (show 0 ≤ p ∧ p < pPe tx n by omega)) ?_
    rintro _ ν16 ⟨rfl, hF16⟩
    refine s_ireturn (pc := 19) dX8_among_19 rfl ?_
    first | exact ⟨by rw [if_neg (by omega)], Fr.rf⟩ | exact ⟨by rw [if_pos (by omega)], hF16.mono (by decide)⟩
  · refine s_bipush (pc := 8) (z := -2) dX8_among_8 rfl ?_
    refine s_ireturn (pc := 10) dX8_among_10 rfl ?_
    first | exact ⟨by rw [if_neg (by omega)], Fr.rf⟩ | exact ⟨by rw [if_pos (by omega)], hF16.mono (by decide)⟩
theorem c_X8_lawFor {tx : Int → Int} {n p : Int} {hd lv : Int → Int} {μ : Mem} (h_p : -2147483648 ≤ p ∧ p < 2147483648) (hQ : RQ tx n μ) (hn : 0 ≤ n ∧ n ≤ 60) (e10 : μ 10 = hd) (e11 : μ 11 = lv) (hhd : ∀ p : Int, 0 ≤ p → p < 4 → 0 ≤ hd p ∧ hd p ≤ 15) (hlv : ∀ p : Int, 0 ≤ p → p < 4 → 0 ≤ lv p ∧ lv p ≤ 4) : Mc kX8_lawFor [.inr (.inr 0), .inl p] μ (pI (fun z ν => (if 0 ≤ p ∧ p < pPe tx n then (lwf (cfg tx n hd lv) p 9).2 else -2) = z ∧ Fr [17, 18, 19, 20, 21, 22, 23, 24, 25, 28, 29, 30, 105, 106, 107, 108, 109, 110, 111, 112, 113, 114, 116, 117, 118] μ ν)) := by
  refine Mc_of (by decide +kernel) (fun _ => Nat.le_of_ble_eq_true rfl) ?_
  show AW kX8_lawFor 0 [some (.inr (.inr 0)), some (.inl p)] [] μ _
  obtain ⟨q1, q2, q3, q4, q5⟩ := id hQ
  have hpe := pPe_in (tx := tx) hn.1
  have hta := pTa_in (tx := tx) hn.1
  refine s_aload_0 (pc := 0) dX8_lawFor_0 ?_
  refine s_iload_1 (pc := 1) dX8_lawFor_1 ?_
  refine cV1i (pc := 2) (Ky := kX8_isPerson) dX8_lawFor_2 rfl lnX8_99 okX8_isPerson ⟨8, TX8, 11, rfl, rfl⟩ ⟨Nat.le_of_ble_eq_true rfl, Nat.le_of_ble_eq_true rfl⟩ (Nat.le_of_ble_eq_true rfl) (c_X8_isPerson (by omega) q1 hpe) ?_
  rintro _ _ ⟨rfl, rfl⟩
  refine s_if_ne (pc := 5) 11 dX8_lawFor_5 rfl (by omega) (fun h5 => ?_) (fun h5 => ?_)
  · refine s_aload_0 (pc := 11) dX8_lawFor_11 ?_
    refine gfX8_49 (pc := 12) dX8_lawFor_12 rfl ?_
    refine s_iload_1 (pc := 15) dX8_lawFor_15 ?_
    refine cV1i (pc := 16) (Ky := kX4_bestLaw) dX8_lawFor_16 rfl lnX8_194 okX4_bestLaw ⟨4, TX4, 11, rfl, rfl⟩ ⟨Nat.le_of_ble_eq_true rfl, Nat.le_of_ble_eq_true rfl⟩ (Nat.le_of_ble_eq_true rfl) (c_X4_bestLaw hQ hn e10 e11 hhd hlv (show 0 ≤ p ∧ p < pPe tx n by omega)) ?_
    rintro _ ν16 ⟨rfl, hF16⟩
    refine s_ireturn (pc := 19) dX8_lawFor_19 rfl ?_
    first | exact ⟨by rw [if_neg (by omega)], Fr.rf⟩ | exact ⟨by rw [if_pos (by omega)], hF16.mono (by decide)⟩
  · refine s_bipush (pc := 8) (z := -2) dX8_lawFor_8 rfl ?_
    refine s_ireturn (pc := 10) dX8_lawFor_10 rfl ?_
    first | exact ⟨by rw [if_neg (by omega)], Fr.rf⟩ | exact ⟨by rw [if_pos (by omega)], hF16.mono (by decide)⟩
theorem c_X8_edge {tx : Int → Int} {n p : Int} {hd lv : Int → Int} {μ : Mem} (h_p : -2147483648 ≤ p ∧ p < 2147483648) (hQ : RQ tx n μ) (hn : 0 ≤ n ∧ n ≤ 60) (e10 : μ 10 = hd) (e11 : μ 11 = lv) (hhd : ∀ p : Int, 0 ≤ p → p < 4 → 0 ≤ hd p ∧ hd p ≤ 15) (hlv : ∀ p : Int, 0 ≤ p → p < 4 → 0 ≤ lv p ∧ lv p ≤ 4) : Mc kX8_edge [.inr (.inr 0), .inl p] μ (pI (fun z ν => (if 0 ≤ p ∧ p < pPe tx n then (if pTa tx n = 0 then -3 else edg (cfg tx n hd lv) p 10) else -2) = z ∧ Fr [17, 18, 19, 20, 21, 22, 23, 24, 25, 28, 29, 30, 105, 106, 107, 108, 109, 110, 111, 112, 113, 114, 116, 117, 118] μ ν)) := by
  refine Mc_of (by decide +kernel) (fun _ => Nat.le_of_ble_eq_true rfl) ?_
  show AW kX8_edge 0 [some (.inr (.inr 0)), some (.inl p)] [] μ _
  obtain ⟨q1, q2, q3, q4, q5⟩ := id hQ
  have hpe := pPe_in (tx := tx) hn.1
  have hta := pTa_in (tx := tx) hn.1
  refine s_aload_0 (pc := 0) dX8_edge_0 ?_
  refine s_iload_1 (pc := 1) dX8_edge_1 ?_
  refine cV1i (pc := 2) (Ky := kX8_isPerson) dX8_edge_2 rfl lnX8_99 okX8_isPerson ⟨8, TX8, 11, rfl, rfl⟩ ⟨Nat.le_of_ble_eq_true rfl, Nat.le_of_ble_eq_true rfl⟩ (Nat.le_of_ble_eq_true rfl) (c_X8_isPerson (by omega) q1 hpe) ?_
  rintro _ _ ⟨rfl, rfl⟩
  refine s_if_ne (pc := 5) 11 dX8_edge_5 rfl (by omega) (fun h5 => ?_) (fun h5 => ?_)
  · refine s_aload_0 (pc := 11) dX8_edge_11 ?_
    refine gfX8_49 (pc := 12) dX8_edge_12 rfl ?_
    refine s_iload_1 (pc := 15) dX8_edge_15 ?_
    refine cV1i (pc := 16) (Ky := kX4_leastFunnyToLeave) dX8_edge_16 rfl lnX8_197 okX4_leastFunnyToLeave ⟨4, TX4, 11, rfl, rfl⟩ ⟨Nat.le_of_ble_eq_true rfl, Nat.le_of_ble_eq_true rfl⟩ (Nat.le_of_ble_eq_true rfl) (c_X4_leastFunnyToLeave hQ hn e10 e11 hhd hlv (show 0 ≤ p ∧ p < pPe tx n by omega)) ?_
    rintro _ ν16 ⟨rfl, hF16⟩
    refine s_ireturn (pc := 19) dX8_edge_19 rfl ?_
    first | exact ⟨by rw [if_neg (by omega)], Fr.rf⟩ | exact ⟨by rw [if_pos (by omega)], hF16.mono (by decide)⟩
  · refine s_bipush (pc := 8) (z := -2) dX8_edge_8 rfl ?_
    refine s_ireturn (pc := 10) dX8_edge_10 rfl ?_
    first | exact ⟨by rw [if_neg (by omega)], Fr.rf⟩ | exact ⟨by rw [if_pos (by omega)], hF16.mono (by decide)⟩
theorem c_X8_hire {tx : Int → Int} {n p t w : Int} {hd lv : Int → Int} {μ : Mem} (h_p : -2147483648 ≤ p ∧ p < 2147483648) (h_t : -2147483648 ≤ t ∧ t < 2147483648) (h_w : -2147483648 ≤ w ∧ w < 2147483648) (hQ : RQ tx n μ) (hn : 0 ≤ n ∧ n ≤ 60) (e10 : μ 10 = hd) (e11 : μ 11 = lv) (hhd : ∀ p : Int, 0 ≤ p → p < 4 → 0 ≤ hd p ∧ hd p ≤ 15) (hlv : ∀ p : Int, 0 ≤ p → p < 4 → 0 ≤ lv p ∧ lv p ≤ 4) : Mc kX8_hire [.inr (.inr 0), .inl p, .inl t, .inl w] μ (pL (fun z ν => (if (0 ≤ p ∧ p < pPe tx n) ∧ (0 ≤ t ∧ t ≤ 9) ∧ (0 ≤ w ∧ w ≤ 1) then (if pPe tx n = 4 then -9223372036854775804 else frc (cst (cfg tx n hd lv) p - cst (kH (cfg tx n hd lv) (pPe tx n) t) p) (6144 ^ (pTa tx n).toNat) w) else -9223372036854775806) = z ∧ Fr [17, 18, 19, 20, 21, 22, 23, 24, 25, 28, 29, 30, 105, 106, 107, 108, 109, 110, 111, 112, 113, 114, 116, 117, 118] μ ν)) := by
  refine Mc_of (by decide +kernel) (fun _ => Nat.le_of_ble_eq_true rfl) ?_
  show AW kX8_hire 0 [some (.inr (.inr 0)), some (.inl p), some (.inl t), some (.inl w), none, none] [] μ _
  obtain ⟨q1, q2, q3, q4, q5⟩ := id hQ
  have hpe := pPe_in (tx := tx) hn.1
  have hta := pTa_in (tx := tx) hn.1
  refine s_aload_0 (pc := 0) dX8_hire_0 ?_
  refine s_iload_1 (pc := 1) dX8_hire_1 ?_
  refine cV1i (pc := 2) (Ky := kX8_isPerson) dX8_hire_2 rfl lnX8_99 okX8_isPerson ⟨8, TX8, 11, rfl, rfl⟩ ⟨Nat.le_of_ble_eq_true rfl, Nat.le_of_ble_eq_true rfl⟩ (Nat.le_of_ble_eq_true rfl) (c_X8_isPerson (by omega) q1 hpe) ?_
  rintro _ _ ⟨rfl, rfl⟩
  refine s_if_eq (pc := 5) 24 dX8_hire_5 rfl (by omega) (fun h5 => ?_) (fun h5 => ?_)
  · refine s_bipush (pc := 24) (z := -2) dX8_hire_24 rfl ?_
    refine cS1l (pc := 26) (Ky := kX8_asLong) dX8_hire_26 rfl lnX8_127 okX8_asLong ⟨Nat.le_of_ble_eq_true rfl, Nat.le_of_ble_eq_true rfl⟩ (Nat.le_of_ble_eq_true rfl) (c_X8_asLong (by omega)) ?_
    rintro _ _ ⟨rfl, rfl⟩
    refine s_lreturn (pc := 29) dX8_hire_29 rfl ?_
    first
      | exact ⟨by rw [if_neg (by omega)]; rfl, Fr.rf⟩
      | exact ⟨by rw [if_pos (by omega), if_pos (by omega)]; rfl, Fr.rf⟩
      | exact ⟨by rw [if_pos (by omega), if_neg (by omega), e3], (((((hF51.mono (by decide)).tr (hF58.mono (by decide))).tr (hF76.mono (by decide))).tr (hF83.mono (by decide))).wr (by decide)).wr (by decide)⟩
  · refine s_iload_2 (pc := 8) dX8_hire_8 ?_
    refine s_bipush (pc := 9) (z := 9) dX8_hire_9 rfl ?_
    refine cS2i (pc := 11) (Ky := kX8_within) dX8_hire_11 rfl lnX8_81 okX8_within ⟨Nat.le_of_ble_eq_true rfl, Nat.le_of_ble_eq_true rfl⟩ (Nat.le_of_ble_eq_true rfl) (c_X8_within (by omega) (by omega)) ?_
    rintro _ _ ⟨rfl, rfl⟩
    refine s_if_eq (pc := 14) 24 dX8_hire_14 rfl (by omega) (fun h14 => ?_) (fun h14 => ?_)
    · refine s_bipush (pc := 24) (z := -2) dX8_hire_24 rfl ?_
      refine cS1l (pc := 26) (Ky := kX8_asLong) dX8_hire_26 rfl lnX8_127 okX8_asLong ⟨Nat.le_of_ble_eq_true rfl, Nat.le_of_ble_eq_true rfl⟩ (Nat.le_of_ble_eq_true rfl) (c_X8_asLong (by omega)) ?_
      rintro _ _ ⟨rfl, rfl⟩
      refine s_lreturn (pc := 29) dX8_hire_29 rfl ?_
      first
        | exact ⟨by rw [if_neg (by omega)]; rfl, Fr.rf⟩
        | exact ⟨by rw [if_pos (by omega), if_pos (by omega)]; rfl, Fr.rf⟩
        | exact ⟨by rw [if_pos (by omega), if_neg (by omega), e3], (((((hF51.mono (by decide)).tr (hF58.mono (by decide))).tr (hF76.mono (by decide))).tr (hF83.mono (by decide))).wr (by decide)).wr (by decide)⟩
    · refine s_iload_3 (pc := 17) dX8_hire_17 ?_
      refine cS1i (pc := 18) (Ky := kX8_isPart) dX8_hire_18 rfl lnX8_124 okX8_isPart ⟨Nat.le_of_ble_eq_true rfl, Nat.le_of_ble_eq_true rfl⟩ (Nat.le_of_ble_eq_true rfl) (c_X8_isPart (by omega)) ?_
      rintro _ _ ⟨rfl, rfl⟩
      refine s_if_ne (pc := 21) 30 dX8_hire_21 rfl (by omega) (fun h21 => ?_) (fun h21 => ?_)
      · refine s_aload_0 (pc := 30) dX8_hire_30 ?_
        refine gfX8_12 (pc := 31) dX8_hire_31 rfl ?_
        refine gfX8_182 (pc := 34) dX8_hire_34 rfl ?_
        try rw [q1]
        refine s_iconst_4 (pc := 37) dX8_hire_37 ?_
        refine s_icmp_lt (pc := 38) 47 dX8_hire_38 rfl (by omega) (by omega) (fun h38 => ?_) (fun h38 => ?_)
        · refine s_aload_0 (pc := 47) dX8_hire_47 ?_
          refine gfX8_31 (pc := 48) dX8_hire_48 rfl ?_
          refine cV0v (pc := 51) (Ky := kX1_gather) dX8_hire_51 rfl lnX8_114 okX1_gather ⟨1, TX1, 13, rfl, rfl⟩ ⟨Nat.le_of_ble_eq_true rfl, Nat.le_of_ble_eq_true rfl⟩ (Nat.le_of_ble_eq_true rfl) (c_X1_gather hQ hn e10 e11 hhd hlv) ?_
          rintro ν51 ⟨hC51, hF51⟩
          have hko := cfg_KO hC51.1 (by omega)
          have hpl := p6144 hko.1
          have hci := cst_in hko (p := p) (by omega) (show p < pPe tx n by omega) (show p < pPe tx n by omega)
          refine s_aload_0 (pc := 54) dX8_hire_54 ?_
          refine gfX8_40 (pc := 55) dX8_hire_55 rfl ?_
          refine cV0v (pc := 58) (Ky := kX0_play) dX8_hire_58 rfl lnX8_131 okX0_play ⟨0, TX0, 7, rfl, rfl⟩ ⟨Nat.le_of_ble_eq_true rfl, Nat.le_of_ble_eq_true rfl⟩ (Nat.le_of_ble_eq_true rfl) (c_X0_play hC51 hko) ?_
          rintro ν58 ⟨hP58, hF58⟩
          have hC58 := hC51.fr hF58 (by decide)
          refine s_aload_0 (pc := 61) dX8_hire_61 ?_
          refine gfX8_40 (pc := 62) dX8_hire_62 rfl ?_
          refine s_iload_1 (pc := 65) dX8_hire_65 ?_
          refine cV1l (pc := 66) (Ky := kX0_costOf) dX8_hire_66 rfl lnX8_145 okX0_costOf ⟨0, TX0, 7, rfl, rfl⟩ ⟨Nat.le_of_ble_eq_true rfl, Nat.le_of_ble_eq_true rfl⟩ (Nat.le_of_ble_eq_true rfl) (c_X0_costOf hC58 (show 0 ≤ p ∧ p < pPe tx n by omega) (show p < pPe tx n by omega) rfl hP58) ?_
          rintro _ _ ⟨rfl, rfl⟩
          refine s_lstore_4 (pc := 69) dX8_hire_69 (Nat.le_of_ble_eq_true rfl) rfl ?_
          refine s_aload_0 (pc := 71) dX8_hire_71 ?_
          refine gfX8_31 (pc := 72) dX8_hire_72 rfl ?_
          refine s_iload_2 (pc := 75) dX8_hire_75 ?_
          refine cV1v (pc := 76) (Ky := kX1_seatOneMore) dX8_hire_76 rfl lnX8_185 okX1_seatOneMore ⟨1, TX1, 13, rfl, rfl⟩ ⟨Nat.le_of_ble_eq_true rfl, Nat.le_of_ble_eq_true rfl⟩ (Nat.le_of_ble_eq_true rfl) (c_X1_seatOneMore hC58 (show pPe tx n < 4 by omega) (Int.le_refl _) (by omega) hko.2) ?_
          rintro ν76 ⟨hC76x, hF76⟩
          have hC76 : CR (kH (cfg tx n hd lv) (pPe tx n) t) ν76 := hC76x
          have hkh := kH_KO (P := pPe tx n) (t := t) hko ⟨rfl, by omega⟩ (by omega)
          have e1 : (kH (cfg tx n hd lv) (pPe tx n) t) 129 0 = pPe tx n + 1 := by unfold kH; rw [wr_s, if_pos rfl]
          have e2 : (kH (cfg tx n hd lv) (pPe tx n) t) 124 0 = pPe tx n := by rw [kH_o (by decide) (by decide) (by decide) (by decide)]; rfl
          have e3 : (kH (cfg tx n hd lv) (pPe tx n) t) 125 0 = pTa tx n := by rw [kH_o (by decide) (by decide) (by decide) (by decide)]; rfl
          have e4 : (kH (cfg tx n hd lv) (pPe tx n) t) 130 0 = 0 := by rw [kH_o (by decide) (by decide) (by decide) (by decide)]; rfl
          have hc2 := cst_in hkh (p := p) (by omega) (by omega) (by omega)
          have hpm := p6144 hkh.1
          refine s_aload_0 (pc := 79) dX8_hire_79 ?_
          refine gfX8_40 (pc := 80) dX8_hire_80 rfl ?_
          refine cV0v (pc := 83) (Ky := kX0_play) dX8_hire_83 rfl lnX8_131 okX0_play ⟨0, TX0, 7, rfl, rfl⟩ ⟨Nat.le_of_ble_eq_true rfl, Nat.le_of_ble_eq_true rfl⟩ (Nat.le_of_ble_eq_true rfl) (c_X0_play hC76 hkh) ?_
          rintro ν83 ⟨hP83, hF83⟩
          have hC83 := hC76.fr hF83 (by decide)
          refine s_aload_0 (pc := 86) dX8_hire_86 ?_
          refine s_lload_4 (pc := 87) dX8_hire_87 ?_
          refine s_aload_0 (pc := 89) dX8_hire_89 ?_
          refine gfX8_40 (pc := 90) dX8_hire_90 rfl ?_
          refine s_iload_1 (pc := 93) dX8_hire_93 ?_
          refine cV1l (pc := 94) (Ky := kX0_costOf) dX8_hire_94 rfl lnX8_145 okX0_costOf ⟨0, TX0, 7, rfl, rfl⟩ ⟨Nat.le_of_ble_eq_true rfl, Nat.le_of_ble_eq_true rfl⟩ (Nat.le_of_ble_eq_true rfl) (c_X0_costOf hC83 (by omega) (by omega) e4 hP83) ?_
          rintro _ _ ⟨rfl, rfl⟩
          refine s_lsub (pc := 97) dX8_hire_97 ?_
          refine cV1r (pc := 98) (Ky := kX8_shareOfCost) dX8_hire_98 rfl lnX8_148 okX8_shareOfCost ⟨8, TX8, 11, rfl, rfl⟩ ⟨Nat.le_of_ble_eq_true rfl, Nat.le_of_ble_eq_true rfl⟩ (Nat.le_of_ble_eq_true rfl) (c_X8_shareOfCost hC83 (by omega)) ?_
          rintro _ _ ⟨rfl, rfl⟩
          refine s_iload_3 (pc := 101) dX8_hire_101 ?_
          refine cV1l (pc := 102) (Ky := kX6_part) dX8_hire_102 rfl lnX8_138 okX6_part ⟨6, TX6, 2, rfl, rfl⟩ ⟨Nat.le_of_ble_eq_true rfl, Nat.le_of_ble_eq_true rfl⟩ (Nat.le_of_ble_eq_true rfl) (c_X6_part (a := (cst (cfg tx n hd lv) p - cst (kH (cfg tx n hd lv) (pPe tx n) t) p)) (b := 6144 ^ ((kH (cfg tx n hd lv) (pPe tx n) t) 125 0).toNat) (by omega) (by simp (decide := true) only [wr_s, wr_n, wa_s, wa_n, mg_i, mg_o, if_true, eq_self, reduceIte]) (by simp (decide := true) only [wr_s, wr_n, wa_s, wa_n, mg_i, mg_o, if_true, eq_self, reduceIte])) ?_
          rintro _ _ ⟨rfl, rfl⟩
          refine s_lreturn (pc := 105) dX8_hire_105 rfl ?_
          first
            | exact ⟨by rw [if_neg (by omega)]; rfl, Fr.rf⟩
            | exact ⟨by rw [if_pos (by omega), if_pos (by omega)]; rfl, Fr.rf⟩
            | exact ⟨by rw [if_pos (by omega), if_neg (by omega), e3], (((((hF51.mono (by decide)).tr (hF58.mono (by decide))).tr (hF76.mono (by decide))).tr (hF83.mono (by decide))).wr (by decide)).wr (by decide)⟩
        · refine s_bipush (pc := 41) (z := -4) dX8_hire_41 rfl ?_
          refine cS1l (pc := 43) (Ky := kX8_asLong) dX8_hire_43 rfl lnX8_127 okX8_asLong ⟨Nat.le_of_ble_eq_true rfl, Nat.le_of_ble_eq_true rfl⟩ (Nat.le_of_ble_eq_true rfl) (c_X8_asLong (by omega)) ?_
          rintro _ _ ⟨rfl, rfl⟩
          refine s_lreturn (pc := 46) dX8_hire_46 rfl ?_
          first
            | exact ⟨by rw [if_neg (by omega)]; rfl, Fr.rf⟩
            | exact ⟨by rw [if_pos (by omega), if_pos (by omega)]; rfl, Fr.rf⟩
            | exact ⟨by rw [if_pos (by omega), if_neg (by omega), e3], (((((hF51.mono (by decide)).tr (hF58.mono (by decide))).tr (hF76.mono (by decide))).tr (hF83.mono (by decide))).wr (by decide)).wr (by decide)⟩
      · refine s_bipush (pc := 24) (z := -2) dX8_hire_24 rfl ?_
        refine cS1l (pc := 26) (Ky := kX8_asLong) dX8_hire_26 rfl lnX8_127 okX8_asLong ⟨Nat.le_of_ble_eq_true rfl, Nat.le_of_ble_eq_true rfl⟩ (Nat.le_of_ble_eq_true rfl) (c_X8_asLong (by omega)) ?_
        rintro _ _ ⟨rfl, rfl⟩
        refine s_lreturn (pc := 29) dX8_hire_29 rfl ?_
        first
          | exact ⟨by rw [if_neg (by omega)]; rfl, Fr.rf⟩
          | exact ⟨by rw [if_pos (by omega), if_pos (by omega)]; rfl, Fr.rf⟩
          | exact ⟨by rw [if_pos (by omega), if_neg (by omega), e3], (((((hF51.mono (by decide)).tr (hF58.mono (by decide))).tr (hF76.mono (by decide))).tr (hF83.mono (by decide))).wr (by decide)).wr (by decide)⟩
theorem c_X8_other {tx : Int → Int} {n p a b w : Int} {hd lv : Int → Int} {μ : Mem} (h_p : -2147483648 ≤ p ∧ p < 2147483648) (h_a : -2147483648 ≤ a ∧ a < 2147483648) (h_b : -2147483648 ≤ b ∧ b < 2147483648) (h_w : -2147483648 ≤ w ∧ w < 2147483648) (hQ : RQ tx n μ) (hn : 0 ≤ n ∧ n ≤ 60) (e10 : μ 10 = hd) (e11 : μ 11 = lv) (hhd : ∀ p : Int, 0 ≤ p → p < 4 → 0 ≤ hd p ∧ hd p ≤ 15) (hlv : ∀ p : Int, 0 ≤ p → p < 4 → 0 ≤ lv p ∧ lv p ≤ 4) : Mc kX8_other [.inr (.inr 0), .inl p, .inl a, .inl b, .inl w] μ (pL (fun z ν => (if (0 ≤ p ∧ p < pPe tx n) ∧ (0 ≤ a ∧ a ≤ 2) ∧ (0 ≤ b ∧ b ≤ 2) ∧ (0 ≤ w ∧ w ≤ 1) then frc (am (kO (cfg tx n hd lv) a b) p) (6144 ^ (pTa tx n).toNat) w else -9223372036854775806) = z ∧ Fr [17, 18, 19, 20, 21, 22, 23, 24, 25, 28, 29, 30, 105, 106, 107, 108, 109, 110, 111, 112, 113, 114, 116, 117, 118] μ ν)) := by
  refine Mc_of (by decide +kernel) (fun _ => Nat.le_of_ble_eq_true rfl) ?_
  show AW kX8_other 0 [some (.inr (.inr 0)), some (.inl p), some (.inl a), some (.inl b), some (.inl w)] [] μ _
  obtain ⟨q1, q2, q3, q4, q5⟩ := id hQ
  have hpe := pPe_in (tx := tx) hn.1
  have hta := pTa_in (tx := tx) hn.1
  refine s_aload_0 (pc := 0) dX8_other_0 ?_
  refine s_iload_1 (pc := 1) dX8_other_1 ?_
  refine cV1i (pc := 2) (Ky := kX8_isPerson) dX8_other_2 rfl lnX8_99 okX8_isPerson ⟨8, TX8, 11, rfl, rfl⟩ ⟨Nat.le_of_ble_eq_true rfl, Nat.le_of_ble_eq_true rfl⟩ (Nat.le_of_ble_eq_true rfl) (c_X8_isPerson (by omega) q1 hpe) ?_
  rintro _ _ ⟨rfl, rfl⟩
  refine s_if_eq (pc := 5) 32 dX8_other_5 rfl (by omega) (fun h5 => ?_) (fun h5 => ?_)
  · refine s_bipush (pc := 32) (z := -2) dX8_other_32 rfl ?_
    refine cS1l (pc := 34) (Ky := kX8_asLong) dX8_other_34 rfl lnX8_127 okX8_asLong ⟨Nat.le_of_ble_eq_true rfl, Nat.le_of_ble_eq_true rfl⟩ (Nat.le_of_ble_eq_true rfl) (c_X8_asLong (by omega)) ?_
    rintro _ _ ⟨rfl, rfl⟩
    refine s_lreturn (pc := 37) dX8_other_37 rfl ?_
    first
      | exact ⟨by rw [if_neg (by omega)]; rfl, Fr.rf⟩
      | exact ⟨by rw [if_pos (by omega), e3], (((((hF42.mono (by decide)).wr (by decide)).wr (by decide)).tr (hF65.mono (by decide))).wr (by decide)).wr (by decide)⟩
  · refine s_iload_2 (pc := 8) dX8_other_8 ?_
    refine s_iconst_2 (pc := 9) dX8_other_9 ?_
    refine cS2i (pc := 10) (Ky := kX8_within) dX8_other_10 rfl lnX8_81 okX8_within ⟨Nat.le_of_ble_eq_true rfl, Nat.le_of_ble_eq_true rfl⟩ (Nat.le_of_ble_eq_true rfl) (c_X8_within (by omega) (by omega)) ?_
    rintro _ _ ⟨rfl, rfl⟩
    refine s_if_eq (pc := 13) 32 dX8_other_13 rfl (by omega) (fun h13 => ?_) (fun h13 => ?_)
    · refine s_bipush (pc := 32) (z := -2) dX8_other_32 rfl ?_
      refine cS1l (pc := 34) (Ky := kX8_asLong) dX8_other_34 rfl lnX8_127 okX8_asLong ⟨Nat.le_of_ble_eq_true rfl, Nat.le_of_ble_eq_true rfl⟩ (Nat.le_of_ble_eq_true rfl) (c_X8_asLong (by omega)) ?_
      rintro _ _ ⟨rfl, rfl⟩
      refine s_lreturn (pc := 37) dX8_other_37 rfl ?_
      first
        | exact ⟨by rw [if_neg (by omega)]; rfl, Fr.rf⟩
        | exact ⟨by rw [if_pos (by omega), e3], (((((hF42.mono (by decide)).wr (by decide)).wr (by decide)).tr (hF65.mono (by decide))).wr (by decide)).wr (by decide)⟩
    · refine s_iload_3 (pc := 16) dX8_other_16 ?_
      refine s_iconst_2 (pc := 17) dX8_other_17 ?_
      refine cS2i (pc := 18) (Ky := kX8_within) dX8_other_18 rfl lnX8_81 okX8_within ⟨Nat.le_of_ble_eq_true rfl, Nat.le_of_ble_eq_true rfl⟩ (Nat.le_of_ble_eq_true rfl) (c_X8_within (by omega) (by omega)) ?_
      rintro _ _ ⟨rfl, rfl⟩
      refine s_if_eq (pc := 21) 32 dX8_other_21 rfl (by omega) (fun h21 => ?_) (fun h21 => ?_)
      · refine s_bipush (pc := 32) (z := -2) dX8_other_32 rfl ?_
        refine cS1l (pc := 34) (Ky := kX8_asLong) dX8_other_34 rfl lnX8_127 okX8_asLong ⟨Nat.le_of_ble_eq_true rfl, Nat.le_of_ble_eq_true rfl⟩ (Nat.le_of_ble_eq_true rfl) (c_X8_asLong (by omega)) ?_
        rintro _ _ ⟨rfl, rfl⟩
        refine s_lreturn (pc := 37) dX8_other_37 rfl ?_
        first
          | exact ⟨by rw [if_neg (by omega)]; rfl, Fr.rf⟩
          | exact ⟨by rw [if_pos (by omega), e3], (((((hF42.mono (by decide)).wr (by decide)).wr (by decide)).tr (hF65.mono (by decide))).wr (by decide)).wr (by decide)⟩
      · refine s_iload_4 (pc := 24) dX8_other_24 ?_
        refine cS1i (pc := 26) (Ky := kX8_isPart) dX8_other_26 rfl lnX8_124 okX8_isPart ⟨Nat.le_of_ble_eq_true rfl, Nat.le_of_ble_eq_true rfl⟩ (Nat.le_of_ble_eq_true rfl) (c_X8_isPart (by omega)) ?_
        rintro _ _ ⟨rfl, rfl⟩
        refine s_if_ne (pc := 29) 38 dX8_other_29 rfl (by omega) (fun h29 => ?_) (fun h29 => ?_)
        · refine s_aload_0 (pc := 38) dX8_other_38 ?_
          refine gfX8_31 (pc := 39) dX8_other_39 rfl ?_
          refine cV0v (pc := 42) (Ky := kX1_gather) dX8_other_42 rfl lnX8_114 okX1_gather ⟨1, TX1, 13, rfl, rfl⟩ ⟨Nat.le_of_ble_eq_true rfl, Nat.le_of_ble_eq_true rfl⟩ (Nat.le_of_ble_eq_true rfl) (c_X1_gather hQ hn e10 e11 hhd hlv) ?_
          rintro ν42 ⟨hC42, hF42⟩
          have hko := cfg_KO hC42.1 (by omega)
          have hpl := p6144 hko.1
          refine s_aload_0 (pc := 45) dX8_other_45 ?_
          refine gfX8_31 (pc := 46) dX8_other_46 rfl ?_
          refine s_iload_2 (pc := 49) dX8_other_49 ?_
          refine pfX8_188 (pc := 50) dX8_other_50 rfl ?_
          refine s_aload_0 (pc := 53) dX8_other_53 ?_
          refine gfX8_31 (pc := 54) dX8_other_54 rfl ?_
          refine s_iload_3 (pc := 57) dX8_other_57 ?_
          refine pfX8_191 (pc := 58) dX8_other_58 rfl ?_
          refine s_aload_0 (pc := 61) dX8_other_61 ?_
          refine gfX8_40 (pc := 62) dX8_other_62 rfl ?_
          have hCk : CR (kO (cfg tx n hd lv) a b) (wr (wr ν42 107 0 a) 108 0 b) := (hC42.w107 (by omega)).w108 (by omega)
          have hkh := kO_KO (a := a) (b := b) hko (by omega) (by omega)
          have e1 : (kO (cfg tx n hd lv) a b) 129 0 = pPe tx n := by rw [kO_o (by decide) (by decide)]; rfl
          have e3 : (kO (cfg tx n hd lv) a b) 125 0 = pTa tx n := by rw [kO_o (by decide) (by decide)]; rfl
          refine cV0v (pc := 65) (Ky := kX0_play) dX8_other_65 rfl lnX8_131 okX0_play ⟨0, TX0, 7, rfl, rfl⟩ ⟨Nat.le_of_ble_eq_true rfl, Nat.le_of_ble_eq_true rfl⟩ (Nat.le_of_ble_eq_true rfl) (c_X0_play hCk hkh) ?_
          rintro ν65 ⟨hP65, hF65⟩
          have hC65 := hCk.fr hF65 (by decide)
          refine s_aload_0 (pc := 68) dX8_other_68 ?_
          refine s_iload_1 (pc := 69) dX8_other_69 ?_
          refine cV1r (pc := 70) (Ky := kX8_shareOfDebt) dX8_other_70 rfl lnX8_141 okX8_shareOfDebt ⟨8, TX8, 11, rfl, rfl⟩ ⟨Nat.le_of_ble_eq_true rfl, Nat.le_of_ble_eq_true rfl⟩ (Nat.le_of_ble_eq_true rfl) (c_X8_shareOfDebt hC65 hkh (by omega) hP65) ?_
          rintro _ _ ⟨rfl, rfl⟩
          refine s_iload_4 (pc := 73) dX8_other_73 ?_
          refine cV1l (pc := 75) (Ky := kX6_part) dX8_other_75 rfl lnX8_138 okX6_part ⟨6, TX6, 2, rfl, rfl⟩ ⟨Nat.le_of_ble_eq_true rfl, Nat.le_of_ble_eq_true rfl⟩ (Nat.le_of_ble_eq_true rfl) (c_X6_part (a := am (kO (cfg tx n hd lv) a b) p) (b := 6144 ^ ((kO (cfg tx n hd lv) a b) 125 0).toNat) (by omega) (by simp (decide := true) only [wr_s, wr_n, wa_s, wa_n, mg_i, mg_o, if_true, eq_self, reduceIte]) (by simp (decide := true) only [wr_s, wr_n, wa_s, wa_n, mg_i, mg_o, if_true, eq_self, reduceIte])) ?_
          rintro _ _ ⟨rfl, rfl⟩
          refine s_lreturn (pc := 78) dX8_other_78 rfl ?_
          first
            | exact ⟨by rw [if_neg (by omega)]; rfl, Fr.rf⟩
            | exact ⟨by rw [if_pos (by omega), e3], (((((hF42.mono (by decide)).wr (by decide)).wr (by decide)).tr (hF65.mono (by decide))).wr (by decide)).wr (by decide)⟩
        · refine s_bipush (pc := 32) (z := -2) dX8_other_32 rfl ?_
          refine cS1l (pc := 34) (Ky := kX8_asLong) dX8_other_34 rfl lnX8_127 okX8_asLong ⟨Nat.le_of_ble_eq_true rfl, Nat.le_of_ble_eq_true rfl⟩ (Nat.le_of_ble_eq_true rfl) (c_X8_asLong (by omega)) ?_
          rintro _ _ ⟨rfl, rfl⟩
          refine s_lreturn (pc := 37) dX8_other_37 rfl ?_
          first
            | exact ⟨by rw [if_neg (by omega)]; rfl, Fr.rf⟩
            | exact ⟨by rw [if_pos (by omega), e3], (((((hF42.mono (by decide)).wr (by decide)).wr (by decide)).tr (hF65.mono (by decide))).wr (by decide)).wr (by decide)⟩
theorem lp_X8_totalWeight {μ : Mem} : ∀ (f : Nat) (i : Int), (0 ≤ i) → (i ≤ 5) → 5 - i < (f : Int) → AW kX8_totalWeight 13 [some (.inr (.inr 0)), some (.inl (sm (fun k => μ 12 k) i.toNat)), some (.inr (.inr 12)), some (.inl 5), some (.inl i), none] [] μ (pI (fun z ν => sm (μ 12) 5 = z ∧ μ = ν)) := by
  intro f
  induction f with
  | zero =>
    intro i h0 h1 hm
    exfalso; omega
  | succ f ih =>
    intro i h0 h1 hm
    refine s_iload_4 (pc := 13) dX8_totalWeight_13 ?_
    refine s_iload_3 (pc := 15) dX8_totalWeight_15 ?_
    refine s_icmp_ge (pc := 16) 36 dX8_totalWeight_16 rfl (by omega) (by omega) (fun h16 => ?_) (fun h16 => ?_)
    · refine s_iload_1 (pc := 36) dX8_totalWeight_36 ?_
      refine s_ireturn (pc := 37) dX8_totalWeight_37 rfl ?_
      cases (show i = 5 by omega)
      exact ⟨rfl, rfl⟩
    · refine s_aload_2 (pc := 19) dX8_totalWeight_19 ?_
      refine s_iload_4 (pc := 20) dX8_totalWeight_20 ?_
      refine z_iaload (pc := 22) dX8_totalWeight_22 ly_12 (by omega) (by omega) ?_
      refine s_istore_5 (pc := 23) dX8_totalWeight_23 (Nat.le_of_ble_eq_true rfl) rfl ?_
      refine s_iload_1 (pc := 25) dX8_totalWeight_25 ?_
      refine s_iload_5 (pc := 26) dX8_totalWeight_26 ?_
      refine s_iadd (pc := 28) dX8_totalWeight_28 ?_
      refine s_valI (sm_succ (f := fun k => μ 12 k) h0).symm ?_
      refine s_istore_1 (pc := 29) dX8_totalWeight_29 (Nat.le_of_ble_eq_true rfl) rfl ?_
      refine s_iinc_4 (pc := 30) dX8_totalWeight_30 (Nat.le_of_ble_eq_true rfl) rfl ?_
      refine s_goto (pc := 33) 13 dX8_totalWeight_33 rfl ?_
      refine s_le ?_ (ih (i + 1) (by omega) (by omega) (by omega))
      exact ⟨Or.inr rfl, Or.inr rfl, Or.inr rfl, Or.inr rfl, Or.inr rfl, Or.inl rfl, trivial⟩
theorem c_X8_totalWeight {μ : Mem} : Mc kX8_totalWeight [.inr (.inr 0)] μ (pI (fun z ν => sm (μ 12) 5 = z ∧ μ = ν)) := by
  refine Mc_of (by decide +kernel) (fun _ => Nat.le_of_ble_eq_true rfl) ?_
  show AW kX8_totalWeight 0 [some (.inr (.inr 0)), none, none, none, none, none] [] μ _
  refine s_iconst_0 (pc := 0) dX8_totalWeight_0 ?_
  refine s_istore_1 (pc := 1) dX8_totalWeight_1 (Nat.le_of_ble_eq_true rfl) rfl ?_
  refine s_aload_0 (pc := 2) dX8_totalWeight_2 ?_
  refine gfX8_23 (pc := 3) dX8_totalWeight_3 rfl ?_
  refine s_astore_2 (pc := 6) dX8_totalWeight_6 (Nat.le_of_ble_eq_true rfl) rfl ?_
  refine s_aload_2 (pc := 7) dX8_totalWeight_7 ?_
  refine z_alen0 (pc := 8) dX8_totalWeight_8 ly_12 ?_
  refine s_istore_3 (pc := 9) dX8_totalWeight_9 (Nat.le_of_ble_eq_true rfl) rfl ?_
  refine s_iconst_0 (pc := 10) dX8_totalWeight_10 ?_
  refine s_istore_4 (pc := 11) dX8_totalWeight_11 (Nat.le_of_ble_eq_true rfl) rfl ?_
  exact lp_X8_totalWeight 6 0 (by omega) (by omega) (by omega)
theorem lp_X8_early {κ : Mem} {p w : Int} {wt : Int → Int} {μ : Mem} (hC : CR κ μ) (hko : KO κ) (hp : 0 ≤ p ∧ p < κ 129 0) (hP : PL κ μ) (hw : w = 0 ∨ w = 1) (e12 : μ 12 = wt) (hwt : ∀ k : Int, 0 ≤ k → k < 5 → 0 ≤ wt k ∧ wt k ≤ 9) (hpos : sm wt 5 ≠ 0) (e103 : μ 103 0 = κ 125 0) : ∀ (f : Nat) (i : Int), (0 ≤ i) → (i ≤ 5) → 5 - i < (f : Int) → AW kX8_early 56 [some (.inr (.inr 0)), some (.inl p), some (.inl w), some (.inl (sm wt 5)), some (.inr (.inl (sm (erF wt κ p) i.toNat))), none, some (.inl i)] [] μ (pL (fun z ν => frc (sm (erF wt κ p) 5) (sm wt 5 * 3072 ^ (κ 125 0).toNat) w = z ∧ Fr [117, 118] μ ν)) := by
  intro f
  induction f with
  | zero =>
    intro i h0 h1 hm
    exfalso; omega
  | succ f ih =>
    intro i h0 h1 hm
    have hk1 := hko.1
    have r129 := hk1.1
    have r125 := hk1.2.1
    have hes := erF_sum hko hwt hp
    have hws := wt_sum hwt
    have hp3 := p3072 (κ 125 0).toNat (by omega)
    have hmu : sm wt 5 * 3072 ^ (κ 125 0).toNat ≤ 45 * 3072 ^ (κ 125 0).toNat := Int.mul_le_mul_of_nonneg_right hws.2 (by omega)
    have hmu0 : 0 < sm wt 5 * 3072 ^ (κ 125 0).toNat := Int.mul_pos (by omega) (by omega)
    refine s_iload_6 (pc := 56) dX8_early_56 ?_
    refine s_iconst_4 (pc := 58) dX8_early_58 ?_
    refine s_icmp_gt (pc := 59) 102 dX8_early_59 rfl (by omega) (by omega) (fun h59 => ?_) (fun h59 => ?_)
    · cases (show i = 5 by omega)
      have he5 : sm (erF wt κ p) (5 : Int).toNat = sm (erF wt κ p) 5 := rfl
      rw [he5]
      refine s_aload_0 (pc := 102) dX8_early_102 ?_
      refine gfX8_63 (pc := 103) dX8_early_103 rfl ?_
      refine s_lload_4 (pc := 106) dX8_early_106 ?_
      refine s_iload_3 (pc := 108) dX8_early_108 ?_
      refine s_i2l (pc := 109) dX8_early_109 (by omega) ?_
      refine s_aload_0 (pc := 110) dX8_early_110 ?_
      refine gfX8_40 (pc := 111) dX8_early_111 rfl ?_
      refine cV0l (pc := 114) (Ky := kX0_owedWhole) dX8_early_114 rfl lnX8_213 okX0_owedWhole ⟨0, TX0, 7, rfl, rfl⟩ ⟨Nat.le_of_ble_eq_true rfl, Nat.le_of_ble_eq_true rfl⟩ (Nat.le_of_ble_eq_true rfl) (c_X0_owedWhole hC) ?_
      rintro _ _ ⟨rfl, rfl⟩
      refine s_lmul (pc := 117) dX8_early_117 ?_
      refine cV2r (pc := 118) (Ky := kX6_put) dX8_early_118 rfl lnX8_217 okX6_put ⟨6, TX6, 2, rfl, rfl⟩ ⟨Nat.le_of_ble_eq_true rfl, Nat.le_of_ble_eq_true rfl⟩ (Nat.le_of_ble_eq_true rfl) (c_X6_put (by omega) (by omega)) ?_
      rintro _ _ ⟨rfl, rfl⟩
      refine s_iload_2 (pc := 121) dX8_early_121 ?_
      refine cV1l (pc := 122) (Ky := kX6_part) dX8_early_122 rfl lnX8_138 okX6_part ⟨6, TX6, 2, rfl, rfl⟩ ⟨Nat.le_of_ble_eq_true rfl, Nat.le_of_ble_eq_true rfl⟩ (Nat.le_of_ble_eq_true rfl) (c_X6_part (a := sm (erF wt κ p) 5) (b := sm wt 5 * 3072 ^ (κ 125 0).toNat) (by omega) (by simp (decide := true) only [wr_s, wr_n, wa_s, wa_n, mg_i, mg_o, if_true, eq_self, reduceIte]) (by simp (decide := true) only [wr_s, wr_n, wa_s, wa_n, mg_i, mg_o, if_true, eq_self, reduceIte])) ?_
      rintro _ _ ⟨rfl, rfl⟩
      refine s_lreturn (pc := 125) dX8_early_125 rfl ?_
      exact ⟨rfl, (Fr.rf.wr (by decide)).wr (by decide)⟩
    · refine s_lload_4 (pc := 62) dX8_early_62 ?_
      refine s_aload_0 (pc := 64) dX8_early_64 ?_
      refine gfX8_23 (pc := 65) dX8_early_65 rfl ?_
      refine s_iload_6 (pc := 68) dX8_early_68 ?_
      refine z_iaload (pc := 70) dX8_early_70 ly_12 (by omega) (by omega) ?_
      try rw [e103]
      rw [e12]
      have hwi := hwt i h0 (by omega)
      refine s_i2l (pc := 71) dX8_early_71 (by omega) ?_
      refine s_aload_0 (pc := 72) dX8_early_72 ?_
      refine gfX8_40 (pc := 73) dX8_early_73 rfl ?_
      refine s_iload_1 (pc := 76) dX8_early_76 ?_
      refine s_iload_6 (pc := 77) dX8_early_77 ?_
      refine s_aload_0 (pc := 79) dX8_early_79 ?_
      refine gfX8_12 (pc := 80) dX8_early_80 rfl ?_
      refine gfX8_121 (pc := 83) dX8_early_83 rfl ?_
      try rw [e103]
      refine z_min (pc := 86) dX8_early_86 rfl lnX8_204 (Nat.le_of_ble_eq_true rfl) (Nat.le_of_ble_eq_true rfl) (by omega) (by omega) ?_
      refine cV2l (pc := 89) (Ky := kX0_owedInParts) dX8_early_89 rfl lnX8_209 okX0_owedInParts ⟨0, TX0, 7, rfl, rfl⟩ ⟨Nat.le_of_ble_eq_true rfl, Nat.le_of_ble_eq_true rfl⟩ (Nat.le_of_ble_eq_true rfl) (c_X0_owedInParts hC hp (by omega) hP.1) ?_
      rintro _ _ ⟨rfl, rfl⟩
      refine s_lmul (pc := 92) dX8_early_92 ?_
      refine s_ladd (pc := 93) dX8_early_93 ?_
      refine s_valL (y := sm (erF wt κ p) (i + 1).toNat) ?_ ?_
      · have hmin : (if κ 125 0 ≤ i then κ 125 0 else i) = min i (κ 125 0) := by omega
        rw [sm_succ h0, erF, hmin, Int.mul_assoc]
      refine s_lstore_4 (pc := 94) dX8_early_94 (Nat.le_of_ble_eq_true rfl) rfl ?_
      refine s_iinc_6 (pc := 96) dX8_early_96 (Nat.le_of_ble_eq_true rfl) rfl ?_
      refine s_goto (pc := 99) 56 dX8_early_99 rfl ?_
      refine s_le ?_ (ih (i + 1) (by omega) (by omega) (by omega))
      exact ⟨Or.inr rfl, Or.inr rfl, Or.inr rfl, Or.inr rfl, Or.inr rfl, Or.inl rfl, Or.inr rfl, trivial⟩
theorem c_X8_early {tx : Int → Int} {n p w : Int} {hd lv wt : Int → Int} {μ : Mem} (h_p : -2147483648 ≤ p ∧ p < 2147483648) (h_w : -2147483648 ≤ w ∧ w < 2147483648) (e12 : μ 12 = wt) (hwt : ∀ k : Int, 0 ≤ k → k < 5 → 0 ≤ wt k ∧ wt k ≤ 9) (hQ : RQ tx n μ) (hn : 0 ≤ n ∧ n ≤ 60) (e10 : μ 10 = hd) (e11 : μ 11 = lv) (hhd : ∀ p : Int, 0 ≤ p → p < 4 → 0 ≤ hd p ∧ hd p ≤ 15) (hlv : ∀ p : Int, 0 ≤ p → p < 4 → 0 ≤ lv p ∧ lv p ≤ 4) : Mc kX8_early [.inr (.inr 0), .inl p, .inl w] μ (pL (fun z ν => (if (0 ≤ p ∧ p < pPe tx n) ∧ (0 ≤ w ∧ w ≤ 1) then erl wt (cfg tx n hd lv) p w else -9223372036854775806) = z ∧ Fr [17, 18, 19, 20, 21, 22, 23, 24, 25, 28, 29, 30, 105, 106, 107, 108, 109, 110, 111, 112, 113, 114, 116, 117, 118] μ ν)) := by
  refine Mc_of (by decide +kernel) (fun _ => Nat.le_of_ble_eq_true rfl) ?_
  show AW kX8_early 0 [some (.inr (.inr 0)), some (.inl p), some (.inl w), none, none, none, none] [] μ _
  obtain ⟨q1, q2, q3, q4, q5⟩ := id hQ
  have hpe := pPe_in (tx := tx) hn.1
  have hta := pTa_in (tx := tx) hn.1
  have hws := wt_sum hwt
  refine s_aload_0 (pc := 0) dX8_early_0 ?_
  refine s_iload_1 (pc := 1) dX8_early_1 ?_
  refine cV1i (pc := 2) (Ky := kX8_isPerson) dX8_early_2 rfl lnX8_99 okX8_isPerson ⟨8, TX8, 11, rfl, rfl⟩ ⟨Nat.le_of_ble_eq_true rfl, Nat.le_of_ble_eq_true rfl⟩ (Nat.le_of_ble_eq_true rfl) (c_X8_isPerson (by omega) q1 hpe) ?_
  rintro _ _ ⟨rfl, rfl⟩
  refine s_if_eq (pc := 5) 15 dX8_early_5 rfl (by omega) (fun h5 => ?_) (fun h5 => ?_)
  · refine s_bipush (pc := 15) (z := -2) dX8_early_15 rfl ?_
    refine cS1l (pc := 17) (Ky := kX8_asLong) dX8_early_17 rfl lnX8_127 okX8_asLong ⟨Nat.le_of_ble_eq_true rfl, Nat.le_of_ble_eq_true rfl⟩ (Nat.le_of_ble_eq_true rfl) (c_X8_asLong (by omega)) ?_
    rintro _ _ ⟨rfl, rfl⟩
    refine s_lreturn (pc := 20) dX8_early_20 rfl ?_
    first
      | exact ⟨by rw [if_neg (by omega)]; rfl, Fr.rf⟩
      | exact ⟨by rw [if_pos (by omega), erl, if_pos (by omega)]; rfl, Fr.rf⟩
  · refine s_iload_2 (pc := 8) dX8_early_8 ?_
    refine cS1i (pc := 9) (Ky := kX8_isPart) dX8_early_9 rfl lnX8_124 okX8_isPart ⟨Nat.le_of_ble_eq_true rfl, Nat.le_of_ble_eq_true rfl⟩ (Nat.le_of_ble_eq_true rfl) (c_X8_isPart (by omega)) ?_
    rintro _ _ ⟨rfl, rfl⟩
    refine s_if_ne (pc := 12) 21 dX8_early_12 rfl (by omega) (fun h12 => ?_) (fun h12 => ?_)
    · refine s_aload_0 (pc := 21) dX8_early_21 ?_
      refine cV0i (pc := 22) (Ky := kX8_totalWeight) dX8_early_22 rfl lnX8_200 okX8_totalWeight ⟨8, TX8, 11, rfl, rfl⟩ ⟨Nat.le_of_ble_eq_true rfl, Nat.le_of_ble_eq_true rfl⟩ (Nat.le_of_ble_eq_true rfl) (c_X8_totalWeight) ?_
      rintro _ _ ⟨rfl, rfl⟩
      rw [e12]
      refine s_istore_3 (pc := 25) dX8_early_25 (Nat.le_of_ble_eq_true rfl) rfl ?_
      refine s_iload_3 (pc := 26) dX8_early_26 ?_
      refine s_if_ne (pc := 27) 36 dX8_early_27 rfl (by omega) (fun h27 => ?_) (fun h27 => ?_)
      · refine s_aload_0 (pc := 36) dX8_early_36 ?_
        refine gfX8_31 (pc := 37) dX8_early_37 rfl ?_
        refine cV0v (pc := 40) (Ky := kX1_gather) dX8_early_40 rfl lnX8_114 okX1_gather ⟨1, TX1, 13, rfl, rfl⟩ ⟨Nat.le_of_ble_eq_true rfl, Nat.le_of_ble_eq_true rfl⟩ (Nat.le_of_ble_eq_true rfl) (c_X1_gather hQ hn e10 e11 hhd hlv) ?_
        rintro ν40 ⟨hC40, hF40⟩
        have hko := cfg_KO hC40.1 (by omega)
        have hpl := p6144 hko.1
        refine s_aload_0 (pc := 43) dX8_early_43 ?_
        refine gfX8_40 (pc := 44) dX8_early_44 rfl ?_
        refine cV0v (pc := 47) (Ky := kX0_play) dX8_early_47 rfl lnX8_131 okX0_play ⟨0, TX0, 7, rfl, rfl⟩ ⟨Nat.le_of_ble_eq_true rfl, Nat.le_of_ble_eq_true rfl⟩ (Nat.le_of_ble_eq_true rfl) (c_X0_play hC40 hko) ?_
        rintro ν47 ⟨hP47, hF47⟩
        have hC47 := hC40.fr hF47 (by decide)
        have e12b : ν47 12 = wt := by rw [hF47.fn 12 rfl, hF40.fn 12 rfl]; exact e12
        have e103b : ν47 103 0 = pTa tx n := by rw [hF47.at 103 rfl 0, hF40.at 103 rfl 0]; exact q2
        refine s_lconst_0 (pc := 50) dX8_early_50 ?_
        refine s_lstore_4 (pc := 51) dX8_early_51 (Nat.le_of_ble_eq_true rfl) rfl ?_
        refine s_iconst_0 (pc := 53) dX8_early_53 ?_
        refine s_istore_6 (pc := 54) dX8_early_54 (Nat.le_of_ble_eq_true rfl) rfl ?_
        refine AW.mono (lp_X8_early (κ := cfg tx n hd lv) (p := p) (w := w) hC47 hko (show 0 ≤ p ∧ p < pPe tx n by omega) hP47 (by omega) e12b hwt (by omega) e103b 6 0 (by omega) (by omega) (by omega)) ?_
        rintro r ν ⟨z, rfl, rfl, hF2⟩
        exact ⟨_, rfl, by rw [if_pos (by omega), erl, if_neg (by omega)], ((hF40.mono (by decide)).tr (hF47.mono (by decide))).tr (hF2.mono (by decide))⟩
      · refine s_bipush (pc := 30) (z := -3) dX8_early_30 rfl ?_
        refine cS1l (pc := 32) (Ky := kX8_asLong) dX8_early_32 rfl lnX8_127 okX8_asLong ⟨Nat.le_of_ble_eq_true rfl, Nat.le_of_ble_eq_true rfl⟩ (Nat.le_of_ble_eq_true rfl) (c_X8_asLong (by omega)) ?_
        rintro _ _ ⟨rfl, rfl⟩
        refine s_lreturn (pc := 35) dX8_early_35 rfl ?_
        first
          | exact ⟨by rw [if_neg (by omega)]; rfl, Fr.rf⟩
          | exact ⟨by rw [if_pos (by omega), erl, if_pos (by omega)]; rfl, Fr.rf⟩
    · refine s_bipush (pc := 15) (z := -2) dX8_early_15 rfl ?_
      refine cS1l (pc := 17) (Ky := kX8_asLong) dX8_early_17 rfl lnX8_127 okX8_asLong ⟨Nat.le_of_ble_eq_true rfl, Nat.le_of_ble_eq_true rfl⟩ (Nat.le_of_ble_eq_true rfl) (c_X8_asLong (by omega)) ?_
      rintro _ _ ⟨rfl, rfl⟩
      refine s_lreturn (pc := 20) dX8_early_20 rfl ?_
      first
        | exact ⟨by rw [if_neg (by omega)]; rfl, Fr.rf⟩
        | exact ⟨by rw [if_pos (by omega), erl, if_pos (by omega)]; rfl, Fr.rf⟩
theorem ow_sum2 {κ : Mem} (h : KO κ) (h2 : κ 129 0 = 2) {i : Nat} (hi : i ≤ 4) : ow κ i 0 + ow κ i 1 = 3072 ^ i := by
  rw [(ow_bk h i hi 0 (by omega) (by omega)).1, (ow_bk h i hi 1 (by omega) (by omega)).1, ← sm_add, ← DD_sum h.1 i]
  refine sm_congr fun k k0 k1 => ?_
  by_cases hg : gd (κ 126 0) (κ 128 0) (κ 129 0) i k
  · unfold gd at hg
    have hb : bk 0 k + bk 1 k = 1 := by
      unfold bk
      split <;> split <;> omega
    rw [← Int.add_mul, hb, Int.one_mul]
  · rw [DD_sup h i hi k k0 (by omega) hg]
    simp
theorem c_X8_two {tx : Int → Int} {n w : Int} {hd lv : Int → Int} {μ : Mem} (h_w : -2147483648 ≤ w ∧ w < 2147483648) (hQ : RQ tx n μ) (hn : 0 ≤ n ∧ n ≤ 60) (e10 : μ 10 = hd) (e11 : μ 11 = lv) (hhd : ∀ p : Int, 0 ≤ p → p < 4 → 0 ≤ hd p ∧ hd p ≤ 15) (hlv : ∀ p : Int, 0 ≤ p → p < 4 → 0 ≤ lv p ∧ lv p ≤ 4) : Mc kX8_two [.inr (.inr 0), .inl w] μ (pL (fun z ν => (if 0 ≤ w ∧ w ≤ 1 then two (cfg tx n hd lv) w else -9223372036854775806) = z ∧ Fr [17, 18, 19, 20, 21, 22, 23, 24, 25, 28, 29, 30, 105, 106, 107, 108, 109, 110, 111, 112, 113, 114, 116, 117, 118] μ ν)) := by
  refine Mc_of (by decide +kernel) (fun _ => Nat.le_of_ble_eq_true rfl) ?_
  show AW kX8_two 0 [some (.inr (.inr 0)), some (.inl w), none, none, none, none] [] μ _
  obtain ⟨q1, q2, q3, q4, q5⟩ := id hQ
  have hpe := pPe_in (tx := tx) hn.1
  have hta := pTa_in (tx := tx) hn.1
  refine s_iload_1 (pc := 0) dX8_two_0 ?_
  refine cS1i (pc := 1) (Ky := kX8_isPart) dX8_two_1 rfl lnX8_124 okX8_isPart ⟨Nat.le_of_ble_eq_true rfl, Nat.le_of_ble_eq_true rfl⟩ (Nat.le_of_ble_eq_true rfl) (c_X8_isPart (by omega)) ?_
  rintro _ _ ⟨rfl, rfl⟩
  refine s_if_ne (pc := 4) 13 dX8_two_4 rfl (by omega) (fun h4 => ?_) (fun h4 => ?_)
  · refine s_aload_0 (pc := 13) dX8_two_13 ?_
    refine gfX8_12 (pc := 14) dX8_two_14 rfl ?_
    refine gfX8_182 (pc := 17) dX8_two_17 rfl ?_
    try rw [q1]
    refine s_iconst_2 (pc := 20) dX8_two_20 ?_
    refine s_icmp_eq (pc := 21) 30 dX8_two_21 rfl (by omega) (by omega) (fun h21 => ?_) (fun h21 => ?_)
    · refine s_aload_0 (pc := 30) dX8_two_30 ?_
      refine gfX8_31 (pc := 31) dX8_two_31 rfl ?_
      refine cV0v (pc := 34) (Ky := kX1_gather) dX8_two_34 rfl lnX8_114 okX1_gather ⟨1, TX1, 13, rfl, rfl⟩ ⟨Nat.le_of_ble_eq_true rfl, Nat.le_of_ble_eq_true rfl⟩ (Nat.le_of_ble_eq_true rfl) (c_X1_gather hQ hn e10 e11 hhd hlv) ?_
      rintro ν34 ⟨hC34, hF34⟩
      have hko := cfg_KO hC34.1 (by omega)
      have hkoa : KO (wr (cfg tx n hd lv) 128 0 0) := ⟨hko.1.w128 (by omega), by rw [wr_s, if_pos rfl, wr_n (by decide)]; show (0 : Int) < pPe tx n; omega⟩
      have hkob : KO (wr (cfg tx n hd lv) 128 0 1) := ⟨hko.1.w128 (by omega), by rw [wr_s, if_pos rfl, wr_n (by decide)]; show (1 : Int) < pPe tx n; omega⟩
      have hp3 := p3072 (pTa tx n).toNat (by omega)
      have c129 : (cfg tx n hd lv) 129 0 = pPe tx n := rfl
      have d129 : (wr (cfg tx n hd lv) 128 0 0) 129 0 = pPe tx n := wr_n (by decide)
      have f129 : (wr (cfg tx n hd lv) 128 0 1) 129 0 = pPe tx n := wr_n (by decide)
      have ha := ow_in hkoa (i := (pTa tx n).toNat) (p := 0) (by omega) (by omega) (by omega)
      have ha1 := ow_in hkoa (i := (pTa tx n).toNat) (p := 1) (by omega) (by omega) (by omega)
      have hb := ow_in hkob (i := (pTa tx n).toNat) (p := 0) (by omega) (by omega) (by omega)
      have hs2 := ow_sum2 hkoa (by omega) (i := (pTa tx n).toNat) (by omega)
      have e125 : (wr (cfg tx n hd lv) 128 0 0) 125 0 = pTa tx n := wr_n (by decide)
      refine s_aload_0 (pc := 37) dX8_two_37 ?_
      refine gfX8_40 (pc := 38) dX8_two_38 rfl ?_
      refine s_iconst_0 (pc := 41) dX8_two_41 ?_
      refine s_iconst_1 (pc := 42) dX8_two_42 ?_
      refine cV2l (pc := 43) (Ky := kX0_owedFrom) dX8_two_43 rfl lnX8_221 okX0_owedFrom ⟨0, TX0, 7, rfl, rfl⟩ ⟨Nat.le_of_ble_eq_true rfl, Nat.le_of_ble_eq_true rfl⟩ (Nat.le_of_ble_eq_true rfl) (c_X0_owedFrom (o := 0) (q := 1) hC34 hkoa (by omega) (by omega)) ?_
      rintro _ ν43 ⟨rfl, hC43, hF43⟩
      show AW kX8_two _ _ (.inr (.inl (ow (wr (cfg tx n hd lv) 128 0 0) (pTa tx n).toNat 1)) :: _) _ _
      refine s_lstore_2 (pc := 46) dX8_two_46 (Nat.le_of_ble_eq_true rfl) rfl ?_
      refine s_aload_0 (pc := 47) dX8_two_47 ?_
      refine gfX8_40 (pc := 48) dX8_two_48 rfl ?_
      refine s_iconst_1 (pc := 51) dX8_two_51 ?_
      refine s_iconst_0 (pc := 52) dX8_two_52 ?_
      refine cV2l (pc := 53) (Ky := kX0_owedFrom) dX8_two_53 rfl lnX8_221 okX0_owedFrom ⟨0, TX0, 7, rfl, rfl⟩ ⟨Nat.le_of_ble_eq_true rfl, Nat.le_of_ble_eq_true rfl⟩ (Nat.le_of_ble_eq_true rfl) (c_X0_owedFrom (κ := (wr (cfg tx n hd lv) 128 0 0)) (o := 1) (q := 0) hC43 (by rw [wr_wr]; exact hkob) (by omega) (by omega)) ?_
      rintro _ ν53 ⟨rfl, hC53, hF53⟩
      rw [wr_wr, e125]
      refine s_lstore_4 (pc := 56) dX8_two_56 (Nat.le_of_ble_eq_true rfl) rfl ?_
      refine s_lload_2 (pc := 58) dX8_two_58 ?_
      refine s_lload_4 (pc := 59) dX8_two_59 ?_
      refine s_ladd (pc := 61) dX8_two_61 ?_
      refine s_lconst_0 (pc := 62) dX8_two_62 ?_
      refine s_lif_ne (pc := 63) 73 dX8_two_63 dX8_two_64 rfl (by omega) (by omega) (fun h64 => ?_) (fun h64 => ?_)
      · refine s_aload_0 (pc := 73) dX8_two_73 ?_
        refine gfX8_63 (pc := 74) dX8_two_74 rfl ?_
        refine s_lload_4 (pc := 77) dX8_two_77 ?_
        refine s_lload_2 (pc := 79) dX8_two_79 ?_
        refine s_lload_4 (pc := 80) dX8_two_80 ?_
        refine s_ladd (pc := 82) dX8_two_82 ?_
        refine cV2r (pc := 83) (Ky := kX6_put) dX8_two_83 rfl lnX8_217 okX6_put ⟨6, TX6, 2, rfl, rfl⟩ ⟨Nat.le_of_ble_eq_true rfl, Nat.le_of_ble_eq_true rfl⟩ (Nat.le_of_ble_eq_true rfl) (c_X6_put (by omega) (by omega)) ?_
        rintro _ _ ⟨rfl, rfl⟩
        refine s_iload_1 (pc := 86) dX8_two_86 ?_
        refine cV1l (pc := 87) (Ky := kX6_part) dX8_two_87 rfl lnX8_138 okX6_part ⟨6, TX6, 2, rfl, rfl⟩ ⟨Nat.le_of_ble_eq_true rfl, Nat.le_of_ble_eq_true rfl⟩ (Nat.le_of_ble_eq_true rfl) (c_X6_part (a := ow (wr (cfg tx n hd lv) 128 0 1) (pTa tx n).toNat 0) (b := (ow (wr (cfg tx n hd lv) 128 0 0) (pTa tx n).toNat 1 + ow (wr (cfg tx n hd lv) 128 0 1) (pTa tx n).toNat 0)) (by omega) (by simp (decide := true) only [wr_s, wr_n, wa_s, wa_n, mg_i, mg_o, if_true, eq_self, reduceIte]) (by simp (decide := true) only [wr_s, wr_n, wa_s, wa_n, mg_i, mg_o, if_true, eq_self, reduceIte])) ?_
        rintro _ _ ⟨rfl, rfl⟩
        refine s_lreturn (pc := 90) dX8_two_90 rfl ?_
        have q1' : (cfg tx n hd lv) 129 0 = pPe tx n := rfl
        have q2' : twA (cfg tx n hd lv) = 3072 ^ (pTa tx n).toNat - ow (wr (cfg tx n hd lv) 128 0 0) (pTa tx n).toNat 0 := rfl
        have q3' : twB (cfg tx n hd lv) = ow (wr (cfg tx n hd lv) 128 0 1) (pTa tx n).toNat 0 := rfl
        first
          | exact ⟨by rw [if_neg (by omega)]; rfl, Fr.rf⟩
          | exact ⟨by rw [if_pos (by omega), two, if_pos (by omega)]; rfl, Fr.rf⟩
          | exact ⟨by rw [if_pos (by omega), two, if_pos (by omega)]; rfl, ((hF34.mono (by decide)).tr (hF43.mono (by decide))).tr (hF53.mono (by decide))⟩
          | exact ⟨by rw [if_pos (by omega), two, if_neg (by omega), q3', show twA (cfg tx n hd lv) = ow (wr (cfg tx n hd lv) 128 0 0) (pTa tx n).toNat 1 by omega], ((((hF34.mono (by decide)).tr (hF43.mono (by decide))).tr (hF53.mono (by decide))).wr (by decide)).wr (by decide)⟩
      · refine s_bipush (pc := 67) (z := -3) dX8_two_67 rfl ?_
        refine cS1l (pc := 69) (Ky := kX8_asLong) dX8_two_69 rfl lnX8_127 okX8_asLong ⟨Nat.le_of_ble_eq_true rfl, Nat.le_of_ble_eq_true rfl⟩ (Nat.le_of_ble_eq_true rfl) (c_X8_asLong (by omega)) ?_
        rintro _ _ ⟨rfl, rfl⟩
        refine s_lreturn (pc := 72) dX8_two_72 rfl ?_
        have q1' : (cfg tx n hd lv) 129 0 = pPe tx n := rfl
        have q2' : twA (cfg tx n hd lv) = 3072 ^ (pTa tx n).toNat - ow (wr (cfg tx n hd lv) 128 0 0) (pTa tx n).toNat 0 := rfl
        have q3' : twB (cfg tx n hd lv) = ow (wr (cfg tx n hd lv) 128 0 1) (pTa tx n).toNat 0 := rfl
        first
          | exact ⟨by rw [if_neg (by omega)]; rfl, Fr.rf⟩
          | exact ⟨by rw [if_pos (by omega), two, if_pos (by omega)]; rfl, Fr.rf⟩
          | exact ⟨by rw [if_pos (by omega), two, if_pos (by omega)]; rfl, ((hF34.mono (by decide)).tr (hF43.mono (by decide))).tr (hF53.mono (by decide))⟩
          | exact ⟨by rw [if_pos (by omega), two, if_neg (by omega), q3', show twA (cfg tx n hd lv) = ow (wr (cfg tx n hd lv) 128 0 0) (pTa tx n).toNat 1 by omega], ((((hF34.mono (by decide)).tr (hF43.mono (by decide))).tr (hF53.mono (by decide))).wr (by decide)).wr (by decide)⟩
    · refine s_bipush (pc := 24) (z := -3) dX8_two_24 rfl ?_
      refine cS1l (pc := 26) (Ky := kX8_asLong) dX8_two_26 rfl lnX8_127 okX8_asLong ⟨Nat.le_of_ble_eq_true rfl, Nat.le_of_ble_eq_true rfl⟩ (Nat.le_of_ble_eq_true rfl) (c_X8_asLong (by omega)) ?_
      rintro _ _ ⟨rfl, rfl⟩
      refine s_lreturn (pc := 29) dX8_two_29 rfl ?_
      have q1' : (cfg tx n hd lv) 129 0 = pPe tx n := rfl
      have q2' : twA (cfg tx n hd lv) = 3072 ^ (pTa tx n).toNat - ow (wr (cfg tx n hd lv) 128 0 0) (pTa tx n).toNat 0 := rfl
      have q3' : twB (cfg tx n hd lv) = ow (wr (cfg tx n hd lv) 128 0 1) (pTa tx n).toNat 0 := rfl
      first
        | exact ⟨by rw [if_neg (by omega)]; rfl, Fr.rf⟩
        | exact ⟨by rw [if_pos (by omega), two, if_pos (by omega)]; rfl, Fr.rf⟩
        | exact ⟨by rw [if_pos (by omega), two, if_pos (by omega)]; rfl, ((hF34.mono (by decide)).tr (hF43.mono (by decide))).tr (hF53.mono (by decide))⟩
        | exact ⟨by rw [if_pos (by omega), two, if_neg (by omega), q3', show twA (cfg tx n hd lv) = ow (wr (cfg tx n hd lv) 128 0 0) (pTa tx n).toNat 1 by omega], ((((hF34.mono (by decide)).tr (hF43.mono (by decide))).tr (hF53.mono (by decide))).wr (by decide)).wr (by decide)⟩
  · refine s_bipush (pc := 7) (z := -2) dX8_two_7 rfl ?_
    refine cS1l (pc := 9) (Ky := kX8_asLong) dX8_two_9 rfl lnX8_127 okX8_asLong ⟨Nat.le_of_ble_eq_true rfl, Nat.le_of_ble_eq_true rfl⟩ (Nat.le_of_ble_eq_true rfl) (c_X8_asLong (by omega)) ?_
    rintro _ _ ⟨rfl, rfl⟩
    refine s_lreturn (pc := 12) dX8_two_12 rfl ?_
    have q1' : (cfg tx n hd lv) 129 0 = pPe tx n := rfl
    have q2' : twA (cfg tx n hd lv) = 3072 ^ (pTa tx n).toNat - ow (wr (cfg tx n hd lv) 128 0 0) (pTa tx n).toNat 0 := rfl
    have q3' : twB (cfg tx n hd lv) = ow (wr (cfg tx n hd lv) 128 0 1) (pTa tx n).toNat 0 := rfl
    first
      | exact ⟨by rw [if_neg (by omega)]; rfl, Fr.rf⟩
      | exact ⟨by rw [if_pos (by omega), two, if_pos (by omega)]; rfl, Fr.rf⟩
      | exact ⟨by rw [if_pos (by omega), two, if_pos (by omega)]; rfl, ((hF34.mono (by decide)).tr (hF43.mono (by decide))).tr (hF53.mono (by decide))⟩
      | exact ⟨by rw [if_pos (by omega), two, if_neg (by omega), q3', show twA (cfg tx n hd lv) = ow (wr (cfg tx n hd lv) 128 0 0) (pTa tx n).toNat 1 by omega], ((((hF34.mono (by decide)).tr (hF43.mono (by decide))).tr (hF53.mono (by decide))).wr (by decide)).wr (by decide)⟩
theorem c_X8_made {tx : Int → Int} {n s : Int} {hd lv : Int → Int} {μ : Mem} (h_s : -2147483648 ≤ s ∧ s < 2147483648) (hQ : RQ tx n μ) (hn : 0 ≤ n ∧ n ≤ 60) (e10 : μ 10 = hd) (e11 : μ 11 = lv) (hhd : ∀ p : Int, 0 ≤ p → p < 4 → 0 ≤ hd p ∧ hd p ≤ 15) (hlv : ∀ p : Int, 0 ≤ p → p < 4 → 0 ≤ lv p ∧ lv p ≤ 4) : Mc kX8_made [.inr (.inr 0), .inl s] μ (pI (fun z ν => (if pPe tx n = 0 then -3 else (ev (cfg tx n hd lv) s).1) = z ∧ Fr [17, 18, 19, 20, 21, 22, 23, 24, 25, 28, 29, 30, 105, 106, 107, 108, 109, 110, 111, 112, 113, 114, 116, 117, 118] μ ν)) := by
  refine Mc_of (by decide +kernel) (fun _ => Nat.le_of_ble_eq_true rfl) ?_
  show AW kX8_made 0 [some (.inr (.inr 0)), some (.inl s)] [] μ _
  obtain ⟨q1, q2, q3, q4, q5⟩ := id hQ
  have hpe := pPe_in (tx := tx) hn.1
  have hta := pTa_in (tx := tx) hn.1
  refine s_aload_0 (pc := 0) dX8_made_0 ?_
  refine gfX8_12 (pc := 1) dX8_made_1 rfl ?_
  refine gfX8_182 (pc := 4) dX8_made_4 rfl ?_
  try rw [q1]
  refine s_if_ne (pc := 7) 13 dX8_made_7 rfl (by omega) (fun h7 => ?_) (fun h7 => ?_)
  · refine s_aload_0 (pc := 13) dX8_made_13 ?_
    refine gfX8_31 (pc := 14) dX8_made_14 rfl ?_
    refine cV0v (pc := 17) (Ky := kX1_gather) dX8_made_17 rfl lnX8_114 okX1_gather ⟨1, TX1, 13, rfl, rfl⟩ ⟨Nat.le_of_ble_eq_true rfl, Nat.le_of_ble_eq_true rfl⟩ (Nat.le_of_ble_eq_true rfl) (c_X1_gather hQ hn e10 e11 hhd hlv) ?_
    rintro ν17 ⟨hC17, hF17⟩
    refine s_aload_0 (pc := 20) dX8_made_20 ?_
    refine gfX8_56 (pc := 21) dX8_made_21 rfl ?_
    refine s_iload_1 (pc := 24) dX8_made_24 ?_
    refine pfX8_224 (pc := 25) dX8_made_25 rfl ?_
    refine s_aload_0 (pc := 28) dX8_made_28 ?_
    refine gfX8_56 (pc := 29) dX8_made_29 rfl ?_
    refine s_aload_0 (pc := 32) dX8_made_32 ?_
    refine gfX8_31 (pc := 33) dX8_made_33 rfl ?_
    have hC36 := hC17.fr (F := [116]) (Fr.rf.wr (c := 116) (k := 0) (z := s) (by decide)) (by decide)
    refine cV1i (pc := 36) (Ky := kX2_endOfEvening) dX8_made_36 rfl lnX8_227 okX2_endOfEvening ⟨2, TX2, 1, rfl, rfl⟩ ⟨Nat.le_of_ble_eq_true rfl, Nat.le_of_ble_eq_true rfl⟩ (Nat.le_of_ble_eq_true rfl) (c_X2_endOfEvening (z := s) hC36 (by rw [wr_s, if_pos rfl])) ?_
    rintro _ ν36 ⟨rfl, hF36, hs36⟩
    refine s_ireturn (pc := 39) dX8_made_39 rfl ?_
    first | exact ⟨by rw [if_pos (by omega)], Fr.rf⟩ | exact ⟨by rw [if_neg (by omega)], ((hF17.mono (by decide)).wr (by decide)).tr (hF36.mono (by decide))⟩
  · refine s_bipush (pc := 10) (z := -3) dX8_made_10 rfl ?_
    refine s_ireturn (pc := 12) dX8_made_12 rfl ?_
    first | exact ⟨by rw [if_pos (by omega)], Fr.rf⟩ | exact ⟨by rw [if_neg (by omega)], ((hF17.mono (by decide)).wr (by decide)).tr (hF36.mono (by decide))⟩
theorem lp_X8_evenings {κ : Mem} {s k q : Int} {μ : Mem} (hC : CR κ μ) (hk : 1 ≤ k ∧ k ≤ 200) (hq : 0 ≤ q ∧ q < 4) : ∀ (f : Nat) (j : Int) (ν : Mem), (0 ≤ j) → (j ≤ k) → (Fr [116] μ ν) → (ν 116 0 = (evsN κ q s j.toNat).2) → k - j < (f : Int) → AW kX8_evenings 44 [some (.inr (.inr 0)), some (.inl s), some (.inl k), some (.inl q), some (.inl (evsN κ q s j.toNat).1), some (.inl j)] [] ν (pI (fun y ν => (evsN κ q s k.toNat).1 = y ∧ Fr [116] μ ν)) := by
  intro f
  induction f with
  | zero =>
    intro j ν h0 h1 hF hs hm
    exfalso; omega
  | succ f ih =>
    intro j ν h0 h1 hF hs hm
    have hCν := hC.fr hF (by decide)
    have hsu := evsN_succ (κ := κ) (q := q) (z := s) h0
    have hei := evN_in hC.1 (z := (evsN κ q s j.toNat).2) (κ 125 0).toNat
    have hei2 : -1 ≤ (ev κ (evsN κ q s j.toNat).2).1 ∧ (ev κ (evsN κ q s j.toNat).2).1 ≤ 3 := hei.1
    refine s_iload_5 (pc := 44) dX8_evenings_44 ?_
    refine s_iload_2 (pc := 46) dX8_evenings_46 ?_
    refine s_icmp_ge (pc := 47) 74 dX8_evenings_47 rfl (by omega) (by omega) (fun h47 => ?_) (fun h47 => ?_)
    · refine s_iload_4 (pc := 74) dX8_evenings_74 ?_
      refine s_ireturn (pc := 76) dX8_evenings_76 rfl ?_
      cases (show j = k by omega)
      exact ⟨rfl, hF⟩
    · refine s_aload_0 (pc := 50) dX8_evenings_50 ?_
      refine gfX8_56 (pc := 51) dX8_evenings_51 rfl ?_
      refine s_aload_0 (pc := 54) dX8_evenings_54 ?_
      refine gfX8_31 (pc := 55) dX8_evenings_55 rfl ?_
      refine cV1i (pc := 58) (Ky := kX2_endOfEvening) dX8_evenings_58 rfl lnX8_227 okX2_endOfEvening ⟨2, TX2, 1, rfl, rfl⟩ ⟨Nat.le_of_ble_eq_true rfl, Nat.le_of_ble_eq_true rfl⟩ (Nat.le_of_ble_eq_true rfl) (c_X2_endOfEvening hCν hs) ?_
      rintro _ ν58 ⟨rfl, hF58, hs58⟩
      refine s_iload_3 (pc := 61) dX8_evenings_61 ?_
      refine s_icmp_ne (pc := 62) 68 dX8_evenings_62 rfl (by omega) (by omega) (fun h62 => ?_) (fun h62 => ?_)
      · rw [if_neg h62] at hsu
        refine s_iinc_5 (pc := 68) dX8_evenings_68 (Nat.le_of_ble_eq_true rfl) rfl ?_
        refine s_goto (pc := 71) 44 dX8_evenings_71 rfl ?_
        refine s_le ?_ (ih (j + 1) _ (by omega) (by omega) (hF.tr hF58) (by rw [hsu]; exact hs58) (by omega))
        rw [hsu]
        first
          | exact ⟨Or.inr rfl, Or.inr rfl, Or.inr rfl, Or.inr rfl, Or.inr rfl, Or.inr rfl, trivial⟩
          | (dsimp only
             rw [Int.add_zero]
             exact ⟨Or.inr rfl, Or.inr rfl, Or.inr rfl, Or.inr rfl, Or.inr rfl, Or.inr rfl, trivial⟩)
      · rw [if_pos h62] at hsu
        refine s_iinc_4 (pc := 65) dX8_evenings_65 (Nat.le_of_ble_eq_true rfl) rfl ?_
        refine s_iinc_5 (pc := 68) dX8_evenings_68 (Nat.le_of_ble_eq_true rfl) rfl ?_
        refine s_goto (pc := 71) 44 dX8_evenings_71 rfl ?_
        refine s_le ?_ (ih (j + 1) _ (by omega) (by omega) (hF.tr hF58) (by rw [hsu]; exact hs58) (by omega))
        rw [hsu]
        first
          | exact ⟨Or.inr rfl, Or.inr rfl, Or.inr rfl, Or.inr rfl, Or.inr rfl, Or.inr rfl, trivial⟩
          | (dsimp only
             rw [Int.add_zero]
             exact ⟨Or.inr rfl, Or.inr rfl, Or.inr rfl, Or.inr rfl, Or.inr rfl, Or.inr rfl, trivial⟩)
theorem c_X8_evenings {tx : Int → Int} {n s k q : Int} {hd lv : Int → Int} {μ : Mem} (h_s : -2147483648 ≤ s ∧ s < 2147483648) (h_k : -2147483648 ≤ k ∧ k < 2147483648) (h_q : -2147483648 ≤ q ∧ q < 2147483648) (hQ : RQ tx n μ) (hn : 0 ≤ n ∧ n ≤ 60) (e10 : μ 10 = hd) (e11 : μ 11 = lv) (hhd : ∀ p : Int, 0 ≤ p → p < 4 → 0 ≤ hd p ∧ hd p ≤ 15) (hlv : ∀ p : Int, 0 ≤ p → p < 4 → 0 ≤ lv p ∧ lv p ≤ 4) : Mc kX8_evenings [.inr (.inr 0), .inl s, .inl k, .inl q] μ (pI (fun z ν => (if (1 ≤ k ∧ k ≤ 200) ∧ (0 ≤ q ∧ q < pPe tx n) then (evsN (cfg tx n hd lv) q s k.toNat).1 else -2) = z ∧ Fr [17, 18, 19, 20, 21, 22, 23, 24, 25, 28, 29, 30, 105, 106, 107, 108, 109, 110, 111, 112, 113, 114, 116, 117, 118] μ ν)) := by
  refine Mc_of (by decide +kernel) (fun _ => Nat.le_of_ble_eq_true rfl) ?_
  show AW kX8_evenings 0 [some (.inr (.inr 0)), some (.inl s), some (.inl k), some (.inl q), none, none] [] μ _
  obtain ⟨q1, q2, q3, q4, q5⟩ := id hQ
  have hpe := pPe_in (tx := tx) hn.1
  have hta := pTa_in (tx := tx) hn.1
  refine s_aload_0 (pc := 0) dX8_evenings_0 ?_
  refine s_iload_3 (pc := 1) dX8_evenings_1 ?_
  refine cV1i (pc := 2) (Ky := kX8_isPerson) dX8_evenings_2 rfl lnX8_99 okX8_isPerson ⟨8, TX8, 11, rfl, rfl⟩ ⟨Nat.le_of_ble_eq_true rfl, Nat.le_of_ble_eq_true rfl⟩ (Nat.le_of_ble_eq_true rfl) (c_X8_isPerson (by omega) q1 hpe) ?_
  rintro _ _ ⟨rfl, rfl⟩
  refine s_if_eq (pc := 5) 20 dX8_evenings_5 rfl (by omega) (fun h5 => ?_) (fun h5 => ?_)
  · refine s_bipush (pc := 20) (z := -2) dX8_evenings_20 rfl ?_
    refine s_ireturn (pc := 22) dX8_evenings_22 rfl ?_
    exact ⟨by rw [if_neg (by omega)], Fr.rf⟩
  · refine s_iload_2 (pc := 8) dX8_evenings_8 ?_
    refine s_iconst_1 (pc := 9) dX8_evenings_9 ?_
    refine s_icmp_lt (pc := 10) 20 dX8_evenings_10 rfl (by omega) (by omega) (fun h10 => ?_) (fun h10 => ?_)
    · refine s_bipush (pc := 20) (z := -2) dX8_evenings_20 rfl ?_
      refine s_ireturn (pc := 22) dX8_evenings_22 rfl ?_
      exact ⟨by rw [if_neg (by omega)], Fr.rf⟩
    · refine s_iload_2 (pc := 13) dX8_evenings_13 ?_
      refine s_sipush (pc := 14) (z := 200) dX8_evenings_14 rfl ?_
      refine s_icmp_le (pc := 17) 23 dX8_evenings_17 rfl (by omega) (by omega) (fun h17 => ?_) (fun h17 => ?_)
      · refine s_aload_0 (pc := 23) dX8_evenings_23 ?_
        refine gfX8_31 (pc := 24) dX8_evenings_24 rfl ?_
        refine cV0v (pc := 27) (Ky := kX1_gather) dX8_evenings_27 rfl lnX8_114 okX1_gather ⟨1, TX1, 13, rfl, rfl⟩ ⟨Nat.le_of_ble_eq_true rfl, Nat.le_of_ble_eq_true rfl⟩ (Nat.le_of_ble_eq_true rfl) (c_X1_gather hQ hn e10 e11 hhd hlv) ?_
        rintro ν27 ⟨hC27, hF27⟩
        refine s_aload_0 (pc := 30) dX8_evenings_30 ?_
        refine gfX8_56 (pc := 31) dX8_evenings_31 rfl ?_
        refine s_iload_1 (pc := 34) dX8_evenings_34 ?_
        refine pfX8_224 (pc := 35) dX8_evenings_35 rfl ?_
        refine s_iconst_0 (pc := 38) dX8_evenings_38 ?_
        refine s_istore_4 (pc := 39) dX8_evenings_39 (Nat.le_of_ble_eq_true rfl) rfl ?_
        refine s_iconst_0 (pc := 41) dX8_evenings_41 ?_
        refine s_istore_5 (pc := 42) dX8_evenings_42 (Nat.le_of_ble_eq_true rfl) rfl ?_
        have hC44 := hC27.fr (F := [116]) (Fr.rf.wr (c := 116) (k := 0) (z := s) (by decide)) (by decide)
        refine AW.mono (lp_X8_evenings (κ := cfg tx n hd lv) (s := s) (k := k) (q := q) hC44 (by omega) (by omega) 201 0 _ (by omega) (by omega) Fr.rf (by rw [wr_s, if_pos rfl]; rfl) (by omega)) ?_
        rintro r ν ⟨z, rfl, rfl, hF2⟩
        exact ⟨_, rfl, by rw [if_pos (by omega)], ((hF27.mono (by decide)).wr (by decide)).tr (hF2.mono (by decide))⟩
      · refine s_bipush (pc := 20) (z := -2) dX8_evenings_20 rfl ?_
        refine s_ireturn (pc := 22) dX8_evenings_22 rfl ?_
        exact ⟨by rw [if_neg (by omega)], Fr.rf⟩
