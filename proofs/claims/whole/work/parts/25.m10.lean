theorem c_X9_quartersBy {t f m h : Int} {μ : Mem} (ht : 0 ≤ t ∧ t ≤ 9) (hf : 0 ≤ f ∧ f ≤ 9) (hm : 0 ≤ m ∧ m ≤ 4) (hh : h = 0 ∨ h = 1) : Mc kX9_quartersBy [.inl t, .inl f, .inl m, .inl h] μ (pI (fun z ν => qt t f m h = z ∧ μ = ν)) := by
  refine Mc_of (by decide +kernel) (fun _ => Nat.le_of_ble_eq_true rfl) ?_
  show AW kX9_quartersBy 0 [some (.inl t), some (.inl f), some (.inl m), some (.inl h), none] [] μ _
  have hmul := mul99 ht hf
  have h50 : 0 ≤ t * f + 5 * m := by omega
  refine s_iload_0 (pc := 0) dX9_quartersBy_0 ?_
  refine s_if_eq (pc := 1) 8 dX9_quartersBy_1 rfl (by omega) (fun h1 => ?_) (fun h1 => ?_)
  · refine s_iconst_0 (pc := 8) dX9_quartersBy_8 ?_
    refine s_ireturn (pc := 9) dX9_quartersBy_9 rfl ?_
    refine ⟨?_, rfl⟩
    unfold qt
    generalize t * f = x at *
    omega
  · refine s_iload_1 (pc := 4) dX9_quartersBy_4 ?_
    refine s_if_ne (pc := 5) 10 dX9_quartersBy_5 rfl (by omega) (fun h5 => ?_) (fun h5 => ?_)
    · refine s_iload_0 (pc := 10) dX9_quartersBy_10 ?_
      refine s_iload_1 (pc := 11) dX9_quartersBy_11 ?_
      refine s_imul (pc := 12) dX9_quartersBy_12 ?_
      refine s_iconst_5 (pc := 13) dX9_quartersBy_13 ?_
      refine s_iload_2 (pc := 14) dX9_quartersBy_14 ?_
      refine s_imul (pc := 15) dX9_quartersBy_15 ?_
      refine s_iadd (pc := 16) dX9_quartersBy_16 ?_
      refine s_bipush (pc := 17) (z := 20) dX9_quartersBy_17 rfl ?_
      refine s_idiv (pc := 19) dX9_quartersBy_19 (by omega) (by omega) ?_
      rw [Int.tdiv_eq_ediv_of_nonneg h50]
      refine s_istore_4 (pc := 20) dX9_quartersBy_20 (Nat.le_of_ble_eq_true rfl) rfl ?_
      refine s_iload_4 (pc := 22) dX9_quartersBy_22 ?_
      refine s_iconst_4 (pc := 24) dX9_quartersBy_24 ?_
      refine s_icmp_le (pc := 25) 32 dX9_quartersBy_25 rfl (by omega) (by omega) (fun h25 => ?_) (fun h25 => ?_)
      · refine s_iload_4 (pc := 32) dX9_quartersBy_32 ?_
        refine s_istore_4 (pc := 34) dX9_quartersBy_34 (Nat.le_of_ble_eq_true rfl) rfl ?_
        refine s_iload_4 (pc := 36) dX9_quartersBy_36 ?_
        refine s_iload_3 (pc := 38) dX9_quartersBy_38 ?_
        refine s_if_eq (pc := 39) 46 dX9_quartersBy_39 rfl (by omega) (fun h39 => ?_) (fun h39 => ?_)
        · refine s_iconst_0 (pc := 46) dX9_quartersBy_46 ?_
          refine s_isub (pc := 47) dX9_quartersBy_47 ?_
          refine s_istore_4 (pc := 48) dX9_quartersBy_48 (Nat.le_of_ble_eq_true rfl) rfl ?_
          refine s_iload_4 (pc := 50) dX9_quartersBy_50 ?_
          refine s_if_ge (pc := 52) 59 dX9_quartersBy_52 rfl (by omega) (fun h52 => ?_) (fun h52 => ?_)
          · refine s_iload_4 (pc := 59) dX9_quartersBy_59 ?_
            refine s_ireturn (pc := 61) dX9_quartersBy_61 rfl ?_
            refine ⟨?_, rfl⟩
            unfold qt
            generalize t * f = x at *
            omega
          · refine s_iconst_0 (pc := 55) dX9_quartersBy_55 ?_
            refine s_goto (pc := 56) 61 dX9_quartersBy_56 rfl ?_
            refine s_ireturn (pc := 61) dX9_quartersBy_61 rfl ?_
            refine ⟨?_, rfl⟩
            unfold qt
            generalize t * f = x at *
            omega
        · refine s_iconst_2 (pc := 42) dX9_quartersBy_42 ?_
          refine s_goto (pc := 43) 47 dX9_quartersBy_43 rfl ?_
          refine s_isub (pc := 47) dX9_quartersBy_47 ?_
          refine s_istore_4 (pc := 48) dX9_quartersBy_48 (Nat.le_of_ble_eq_true rfl) rfl ?_
          refine s_iload_4 (pc := 50) dX9_quartersBy_50 ?_
          refine s_if_ge (pc := 52) 59 dX9_quartersBy_52 rfl (by omega) (fun h52 => ?_) (fun h52 => ?_)
          · refine s_iload_4 (pc := 59) dX9_quartersBy_59 ?_
            refine s_ireturn (pc := 61) dX9_quartersBy_61 rfl ?_
            refine ⟨?_, rfl⟩
            unfold qt
            generalize t * f = x at *
            omega
          · refine s_iconst_0 (pc := 55) dX9_quartersBy_55 ?_
            refine s_goto (pc := 56) 61 dX9_quartersBy_56 rfl ?_
            refine s_ireturn (pc := 61) dX9_quartersBy_61 rfl ?_
            refine ⟨?_, rfl⟩
            unfold qt
            generalize t * f = x at *
            omega
      · refine s_iconst_4 (pc := 28) dX9_quartersBy_28 ?_
        refine s_goto (pc := 29) 34 dX9_quartersBy_29 rfl ?_
        refine s_istore_4 (pc := 34) dX9_quartersBy_34 (Nat.le_of_ble_eq_true rfl) rfl ?_
        refine s_iload_4 (pc := 36) dX9_quartersBy_36 ?_
        refine s_iload_3 (pc := 38) dX9_quartersBy_38 ?_
        refine s_if_eq (pc := 39) 46 dX9_quartersBy_39 rfl (by omega) (fun h39 => ?_) (fun h39 => ?_)
        · refine s_iconst_0 (pc := 46) dX9_quartersBy_46 ?_
          refine s_isub (pc := 47) dX9_quartersBy_47 ?_
          refine s_istore_4 (pc := 48) dX9_quartersBy_48 (Nat.le_of_ble_eq_true rfl) rfl ?_
          refine s_iload_4 (pc := 50) dX9_quartersBy_50 ?_
          refine s_if_ge (pc := 52) 59 dX9_quartersBy_52 rfl (by omega) (fun h52 => ?_) (fun h52 => ?_)
          · refine s_iload_4 (pc := 59) dX9_quartersBy_59 ?_
            refine s_ireturn (pc := 61) dX9_quartersBy_61 rfl ?_
            refine ⟨?_, rfl⟩
            unfold qt
            generalize t * f = x at *
            omega
          · refine s_iconst_0 (pc := 55) dX9_quartersBy_55 ?_
            refine s_goto (pc := 56) 61 dX9_quartersBy_56 rfl ?_
            refine s_ireturn (pc := 61) dX9_quartersBy_61 rfl ?_
            refine ⟨?_, rfl⟩
            unfold qt
            generalize t * f = x at *
            omega
        · refine s_iconst_2 (pc := 42) dX9_quartersBy_42 ?_
          refine s_goto (pc := 43) 47 dX9_quartersBy_43 rfl ?_
          refine s_isub (pc := 47) dX9_quartersBy_47 ?_
          refine s_istore_4 (pc := 48) dX9_quartersBy_48 (Nat.le_of_ble_eq_true rfl) rfl ?_
          refine s_iload_4 (pc := 50) dX9_quartersBy_50 ?_
          refine s_if_ge (pc := 52) 59 dX9_quartersBy_52 rfl (by omega) (fun h52 => ?_) (fun h52 => ?_)
          · refine s_iload_4 (pc := 59) dX9_quartersBy_59 ?_
            refine s_ireturn (pc := 61) dX9_quartersBy_61 rfl ?_
            refine ⟨?_, rfl⟩
            unfold qt
            generalize t * f = x at *
            omega
          · refine s_iconst_0 (pc := 55) dX9_quartersBy_55 ?_
            refine s_goto (pc := 56) 61 dX9_quartersBy_56 rfl ?_
            refine s_ireturn (pc := 61) dX9_quartersBy_61 rfl ?_
            refine ⟨?_, rfl⟩
            unfold qt
            generalize t * f = x at *
            omega
    · refine s_iconst_0 (pc := 8) dX9_quartersBy_8 ?_
      refine s_ireturn (pc := 9) dX9_quartersBy_9 rfl ?_
      refine ⟨?_, rfl⟩
      unfold qt
      generalize t * f = x at *
      omega
theorem c_X9_isThere {κ : Mem} {p i : Int} {μ : Mem} (hM : MR κ μ) (hp : 0 ≤ p ∧ p < 4) (hi : 0 ≤ i ∧ i < 4) : Mc kX9_isThere [.inr (.inr 9), .inl p, .inl i] μ (pI (fun z ν => (if i < κ 50 p ∧ bt (κ 130 0) p = 0 then 1 else 0) = z ∧ μ = ν)) := by
  refine Mc_of (by decide +kernel) (fun _ => Nat.le_of_ble_eq_true rfl) ?_
  show AW kX9_isThere 0 [some (.inr (.inr 9)), some (.inl p), some (.inl i)] [] μ _
  obtain ⟨⟨r129, r125, r126, r127, r128, r130, rP, r124, r44⟩, m129, m125, m126, m127, m128, m130, mP, m124, m44⟩ := id hM
  obtain ⟨m49, m50, m51, m52⟩ := mP p hp.1 hp.2
  obtain ⟨r49, r50, r51, r52⟩ := rP p hp.1 hp.2
  obtain ⟨n49, n50, n51, n52⟩ := mP i hi.1 hi.2
  obtain ⟨s49, s50, s51, s52⟩ := rP i hi.1 hi.2
  refine s_aload_0 (pc := 0) dX9_isThere_0 ?_
  refine gfX9_43 (pc := 1) dX9_isThere_1 rfl ?_
  refine s_iload_1 (pc := 4) dX9_isThere_4 ?_
  refine z_iaload (pc := 5) dX9_isThere_5 ly_50 (by omega) (by omega) ?_
  refine s_iload_2 (pc := 6) dX9_isThere_6 ?_
  refine s_icmp_le (pc := 7) 25 dX9_isThere_7 rfl (by omega) (by omega) (fun h7 => ?_) (fun h7 => ?_)
  · refine s_iconst_0 (pc := 25) dX9_isThere_25 ?_
    refine s_zreturn (pc := 26) dX9_isThere_26 rfl (by omega) ?_
    refine ⟨?_, rfl⟩
    first | (rw [if_neg (fun q => by have := q.2; rw [← m130] at this; omega)]; done) | rw [if_pos ⟨by omega, by rw [← m130]; omega⟩]
  · refine s_aload_0 (pc := 10) dX9_isThere_10 ?_
    refine gfX9_183 (pc := 11) dX9_isThere_11 rfl ?_
    refine s_iload_1 (pc := 14) dX9_isThere_14 ?_
    refine s_ishr (pc := 15) dX9_isThere_15 ?_
    refine s_iconst_1 (pc := 16) dX9_isThere_16 ?_
    refine s_iand (pc := 17) dX9_isThere_17 ?_
    rw [shr_bt (by omega) (by omega)]
    have hb := bt_in (b := μ 130 0) (k := p)
    refine s_if_ne (pc := 18) 25 dX9_isThere_18 rfl (by omega) (fun h18 => ?_) (fun h18 => ?_)
    · refine s_iconst_0 (pc := 25) dX9_isThere_25 ?_
      refine s_zreturn (pc := 26) dX9_isThere_26 rfl (by omega) ?_
      refine ⟨?_, rfl⟩
      first | (rw [if_neg (fun q => by have := q.2; rw [← m130] at this; omega)]; done) | rw [if_pos ⟨by omega, by rw [← m130]; omega⟩]
    · refine s_iconst_1 (pc := 21) dX9_isThere_21 ?_
      refine s_goto (pc := 22) 26 dX9_isThere_22 rfl ?_
      refine s_zreturn (pc := 26) dX9_isThere_26 rfl (by omega) ?_
      refine ⟨?_, rfl⟩
      first | (rw [if_neg (fun q => by have := q.2; rw [← m130] at this; omega)]; done) | rw [if_pos ⟨by omega, by rw [← m130]; omega⟩]
theorem c_X9_quartersNow {κ : Mem} {p i : Int} {μ : Mem} (hM : MR κ μ) (hp : 0 ≤ p ∧ p < 4) (hi : 0 ≤ i ∧ i < 4) : Mc kX9_quartersNow [.inr (.inr 9), .inl p, .inl i] μ (pI (fun z ν => kq κ p i = z ∧ μ = ν)) := by
  refine Mc_of (by decide +kernel) (fun _ => Nat.le_of_ble_eq_true rfl) ?_
  show AW kX9_quartersNow 0 [some (.inr (.inr 9)), some (.inl p), some (.inl i), none] [] μ _
  obtain ⟨⟨r129, r125, r126, r127, r128, r130, rP, r124, r44⟩, m129, m125, m126, m127, m128, m130, mP, m124, m44⟩ := id hM
  obtain ⟨m49, m50, m51, m52⟩ := mP p hp.1 hp.2
  obtain ⟨r49, r50, r51, r52⟩ := rP p hp.1 hp.2
  obtain ⟨n49, n50, n51, n52⟩ := mP i hi.1 hi.2
  obtain ⟨s49, s50, s51, s52⟩ := rP i hi.1 hi.2
  refine s_iload_2 (pc := 0) dX9_quartersNow_0 ?_
  refine s_if_ne (pc := 1) 8 dX9_quartersNow_1 rfl (by omega) (fun h1 => ?_) (fun h1 => ?_)
  · obtain ⟨o49, o50, o51, o52⟩ := mP (i - 1) (by omega) (by omega)
    obtain ⟨q49, q50, q51, q52⟩ := rP (i - 1) (by omega) (by omega)
    refine s_aload_0 (pc := 8) dX9_quartersNow_8 ?_
    refine gfX9_49 (pc := 9) dX9_quartersNow_9 rfl ?_
    refine s_iload_2 (pc := 12) dX9_quartersNow_12 ?_
    refine s_iconst_1 (pc := 13) dX9_quartersNow_13 ?_
    refine s_isub (pc := 14) dX9_quartersNow_14 ?_
    refine z_iaload (pc := 15) dX9_quartersNow_15 ly_52 (by omega) (by omega) ?_
    refine s_iconst_2 (pc := 16) dX9_quartersNow_16 ?_
    refine s_idiv (pc := 17) dX9_quartersNow_17 (by omega) (by omega) ?_
    try rw [Int.tdiv_eq_ediv_of_nonneg (by omega)]
    refine s_istore_3 (pc := 18) dX9_quartersNow_18 (Nat.le_of_ble_eq_true rfl) rfl ?_
    refine s_aload_0 (pc := 19) dX9_quartersNow_19 ?_
    refine s_iload_1 (pc := 20) dX9_quartersNow_20 ?_
    refine s_iload_2 (pc := 21) dX9_quartersNow_21 ?_
    refine cV2i (pc := 22) (Ky := kX9_isThere) dX9_quartersNow_22 rfl lnX9_186 okX9_isThere ⟨9, TX9, 40, rfl, rfl⟩ ⟨Nat.le_of_ble_eq_true rfl, Nat.le_of_ble_eq_true rfl⟩ (Nat.le_of_ble_eq_true rfl) (c_X9_isThere hM hp hi) ?_
    rintro _ _ ⟨rfl, rfl⟩
    refine s_if_eq (pc := 25) 66 dX9_quartersNow_25 rfl (by omega) (fun h25 => ?_) (fun h25 => ?_)
    · refine s_iconst_0 (pc := 66) dX9_quartersNow_66 ?_
      refine s_ireturn (pc := 67) dX9_quartersNow_67 rfl ?_
      refine ⟨?_, rfl⟩
      first
        | (rw [kq, if_neg (fun q => by rw [if_pos q] at h25; omega)]; done)
        | (have hc : i < κ 50 p ∧ bt (κ 130 0) p = 0 := by
             by_cases hc : i < κ 50 p ∧ bt (κ 130 0) p = 0
             · exact hc
             · rw [if_neg hc] at h25; omega
           rw [kq, if_pos hc, ← m51, ← n52, ← m49]
           first | rw [show bt (μ 49 p) i = 1 by omega] | rw [show bt (μ 49 p) i = 0 by omega]
           first | (rw [if_pos (by omega)]; done) | rw [if_neg (by omega), ← o52])
    · refine s_aload_0 (pc := 28) dX9_quartersNow_28 ?_
      refine gfX9_46 (pc := 29) dX9_quartersNow_29 rfl ?_
      refine s_iload_1 (pc := 32) dX9_quartersNow_32 ?_
      refine z_iaload (pc := 33) dX9_quartersNow_33 ly_51 (by omega) (by omega) ?_
      refine s_aload_0 (pc := 34) dX9_quartersNow_34 ?_
      refine gfX9_49 (pc := 35) dX9_quartersNow_35 rfl ?_
      refine s_iload_2 (pc := 38) dX9_quartersNow_38 ?_
      refine z_iaload (pc := 39) dX9_quartersNow_39 ly_52 (by omega) (by omega) ?_
      refine s_iload_3 (pc := 40) dX9_quartersNow_40 ?_
      refine s_aload_0 (pc := 41) dX9_quartersNow_41 ?_
      refine gfX9_40 (pc := 42) dX9_quartersNow_42 rfl ?_
      refine s_iload_1 (pc := 45) dX9_quartersNow_45 ?_
      refine z_iaload (pc := 46) dX9_quartersNow_46 ly_49 (by omega) (by omega) ?_
      refine s_iload_2 (pc := 47) dX9_quartersNow_47 ?_
      refine s_ishr (pc := 48) dX9_quartersNow_48 ?_
      refine s_iconst_1 (pc := 49) dX9_quartersNow_49 ?_
      refine s_iand (pc := 50) dX9_quartersNow_50 ?_
      rw [shr_bt (by omega) (by omega)]
      have hb := bt_in (b := μ 49 p) (k := i)
      refine s_iconst_1 (pc := 51) dX9_quartersNow_51 ?_
      refine s_icmp_ne (pc := 52) 59 dX9_quartersNow_52 rfl (by omega) (by omega) (fun h52 => ?_) (fun h52 => ?_)
      · refine s_iconst_0 (pc := 59) dX9_quartersNow_59 ?_
        refine cS4i (pc := 60) (Ky := kX9_quartersBy) dX9_quartersNow_60 rfl lnX9_190 okX9_quartersBy ⟨Nat.le_of_ble_eq_true rfl, Nat.le_of_ble_eq_true rfl⟩ (Nat.le_of_ble_eq_true rfl) (c_X9_quartersBy (by omega) (by omega) (by omega) (by omega)) ?_
        rintro _ _ ⟨rfl, rfl⟩
        refine s_goto (pc := 63) 67 dX9_quartersNow_63 rfl ?_
        refine s_ireturn (pc := 67) dX9_quartersNow_67 rfl ?_
        refine ⟨?_, rfl⟩
        first
          | (rw [kq, if_neg (fun q => by rw [if_pos q] at h25; omega)]; done)
          | (have hc : i < κ 50 p ∧ bt (κ 130 0) p = 0 := by
               by_cases hc : i < κ 50 p ∧ bt (κ 130 0) p = 0
               · exact hc
               · rw [if_neg hc] at h25; omega
             rw [kq, if_pos hc, ← m51, ← n52, ← m49]
             first | rw [show bt (μ 49 p) i = 1 by omega] | rw [show bt (μ 49 p) i = 0 by omega]
             first | (rw [if_pos (by omega)]; done) | rw [if_neg (by omega), ← o52])
      · refine s_iconst_1 (pc := 55) dX9_quartersNow_55 ?_
        refine s_goto (pc := 56) 60 dX9_quartersNow_56 rfl ?_
        refine cS4i (pc := 60) (Ky := kX9_quartersBy) dX9_quartersNow_60 rfl lnX9_190 okX9_quartersBy ⟨Nat.le_of_ble_eq_true rfl, Nat.le_of_ble_eq_true rfl⟩ (Nat.le_of_ble_eq_true rfl) (c_X9_quartersBy (by omega) (by omega) (by omega) (by omega)) ?_
        rintro _ _ ⟨rfl, rfl⟩
        refine s_goto (pc := 63) 67 dX9_quartersNow_63 rfl ?_
        refine s_ireturn (pc := 67) dX9_quartersNow_67 rfl ?_
        refine ⟨?_, rfl⟩
        first
          | (rw [kq, if_neg (fun q => by rw [if_pos q] at h25; omega)]; done)
          | (have hc : i < κ 50 p ∧ bt (κ 130 0) p = 0 := by
               by_cases hc : i < κ 50 p ∧ bt (κ 130 0) p = 0
               · exact hc
               · rw [if_neg hc] at h25; omega
             rw [kq, if_pos hc, ← m51, ← n52, ← m49]
             first | rw [show bt (μ 49 p) i = 1 by omega] | rw [show bt (μ 49 p) i = 0 by omega]
             first | (rw [if_pos (by omega)]; done) | rw [if_neg (by omega), ← o52])
  · refine s_iconst_0 (pc := 4) dX9_quartersNow_4 ?_
    refine s_goto (pc := 5) 18 dX9_quartersNow_5 rfl ?_
    try rw [Int.tdiv_eq_ediv_of_nonneg (by omega)]
    refine s_istore_3 (pc := 18) dX9_quartersNow_18 (Nat.le_of_ble_eq_true rfl) rfl ?_
    refine s_aload_0 (pc := 19) dX9_quartersNow_19 ?_
    refine s_iload_1 (pc := 20) dX9_quartersNow_20 ?_
    refine s_iload_2 (pc := 21) dX9_quartersNow_21 ?_
    refine cV2i (pc := 22) (Ky := kX9_isThere) dX9_quartersNow_22 rfl lnX9_186 okX9_isThere ⟨9, TX9, 40, rfl, rfl⟩ ⟨Nat.le_of_ble_eq_true rfl, Nat.le_of_ble_eq_true rfl⟩ (Nat.le_of_ble_eq_true rfl) (c_X9_isThere hM hp hi) ?_
    rintro _ _ ⟨rfl, rfl⟩
    refine s_if_eq (pc := 25) 66 dX9_quartersNow_25 rfl (by omega) (fun h25 => ?_) (fun h25 => ?_)
    · refine s_iconst_0 (pc := 66) dX9_quartersNow_66 ?_
      refine s_ireturn (pc := 67) dX9_quartersNow_67 rfl ?_
      refine ⟨?_, rfl⟩
      first
        | (rw [kq, if_neg (fun q => by rw [if_pos q] at h25; omega)]; done)
        | (have hc : i < κ 50 p ∧ bt (κ 130 0) p = 0 := by
             by_cases hc : i < κ 50 p ∧ bt (κ 130 0) p = 0
             · exact hc
             · rw [if_neg hc] at h25; omega
           rw [kq, if_pos hc, ← m51, ← n52, ← m49]
           first | rw [show bt (μ 49 p) i = 1 by omega] | rw [show bt (μ 49 p) i = 0 by omega]
           first | (rw [if_pos (by omega)]; done) | rw [if_neg (by omega), ← o52])
    · refine s_aload_0 (pc := 28) dX9_quartersNow_28 ?_
      refine gfX9_46 (pc := 29) dX9_quartersNow_29 rfl ?_
      refine s_iload_1 (pc := 32) dX9_quartersNow_32 ?_
      refine z_iaload (pc := 33) dX9_quartersNow_33 ly_51 (by omega) (by omega) ?_
      refine s_aload_0 (pc := 34) dX9_quartersNow_34 ?_
      refine gfX9_49 (pc := 35) dX9_quartersNow_35 rfl ?_
      refine s_iload_2 (pc := 38) dX9_quartersNow_38 ?_
      refine z_iaload (pc := 39) dX9_quartersNow_39 ly_52 (by omega) (by omega) ?_
      refine s_iload_3 (pc := 40) dX9_quartersNow_40 ?_
      refine s_aload_0 (pc := 41) dX9_quartersNow_41 ?_
      refine gfX9_40 (pc := 42) dX9_quartersNow_42 rfl ?_
      refine s_iload_1 (pc := 45) dX9_quartersNow_45 ?_
      refine z_iaload (pc := 46) dX9_quartersNow_46 ly_49 (by omega) (by omega) ?_
      refine s_iload_2 (pc := 47) dX9_quartersNow_47 ?_
      refine s_ishr (pc := 48) dX9_quartersNow_48 ?_
      refine s_iconst_1 (pc := 49) dX9_quartersNow_49 ?_
      refine s_iand (pc := 50) dX9_quartersNow_50 ?_
      rw [shr_bt (by omega) (by omega)]
      have hb := bt_in (b := μ 49 p) (k := i)
      refine s_iconst_1 (pc := 51) dX9_quartersNow_51 ?_
      refine s_icmp_ne (pc := 52) 59 dX9_quartersNow_52 rfl (by omega) (by omega) (fun h52 => ?_) (fun h52 => ?_)
      · refine s_iconst_0 (pc := 59) dX9_quartersNow_59 ?_
        refine cS4i (pc := 60) (Ky := kX9_quartersBy) dX9_quartersNow_60 rfl lnX9_190 okX9_quartersBy ⟨Nat.le_of_ble_eq_true rfl, Nat.le_of_ble_eq_true rfl⟩ (Nat.le_of_ble_eq_true rfl) (c_X9_quartersBy (by omega) (by omega) (by omega) (by omega)) ?_
        rintro _ _ ⟨rfl, rfl⟩
        refine s_goto (pc := 63) 67 dX9_quartersNow_63 rfl ?_
        refine s_ireturn (pc := 67) dX9_quartersNow_67 rfl ?_
        refine ⟨?_, rfl⟩
        first
          | (rw [kq, if_neg (fun q => by rw [if_pos q] at h25; omega)]; done)
          | (have hc : i < κ 50 p ∧ bt (κ 130 0) p = 0 := by
               by_cases hc : i < κ 50 p ∧ bt (κ 130 0) p = 0
               · exact hc
               · rw [if_neg hc] at h25; omega
             rw [kq, if_pos hc, ← m51, ← n52, ← m49]
             first | rw [show bt (μ 49 p) i = 1 by omega] | rw [show bt (μ 49 p) i = 0 by omega]
             first | (rw [if_pos (by omega)]; done) | rw [if_neg (by omega), ← o52])
      · refine s_iconst_1 (pc := 55) dX9_quartersNow_55 ?_
        refine s_goto (pc := 56) 60 dX9_quartersNow_56 rfl ?_
        refine cS4i (pc := 60) (Ky := kX9_quartersBy) dX9_quartersNow_60 rfl lnX9_190 okX9_quartersBy ⟨Nat.le_of_ble_eq_true rfl, Nat.le_of_ble_eq_true rfl⟩ (Nat.le_of_ble_eq_true rfl) (c_X9_quartersBy (by omega) (by omega) (by omega) (by omega)) ?_
        rintro _ _ ⟨rfl, rfl⟩
        refine s_goto (pc := 63) 67 dX9_quartersNow_63 rfl ?_
        refine s_ireturn (pc := 67) dX9_quartersNow_67 rfl ?_
        refine ⟨?_, rfl⟩
        first
          | (rw [kq, if_neg (fun q => by rw [if_pos q] at h25; omega)]; done)
          | (have hc : i < κ 50 p ∧ bt (κ 130 0) p = 0 := by
               by_cases hc : i < κ 50 p ∧ bt (κ 130 0) p = 0
               · exact hc
               · rw [if_neg hc] at h25; omega
             rw [kq, if_pos hc, ← m51, ← n52, ← m49]
             first | rw [show bt (μ 49 p) i = 1 by omega] | rw [show bt (μ 49 p) i = 0 by omega]
             first | (rw [if_pos (by omega)]; done) | rw [if_neg (by omega), ← o52])
theorem lp_X9_tries {tx : Int → Int} {n : Int} {hd lv : Int → Int} {μ : Mem} (e43 : μ 43 = tx) (e122 : μ 122 0 = n) (hn : 0 ≤ n ∧ n ≤ 60) (ht : ∀ k : Int, 0 ≤ k → k < n → 0 ≤ tx k ∧ tx k ≤ 255) (e47 : μ 47 = hd) (e48 : μ 48 = lv) (hhd : ∀ p : Int, 0 ≤ p → p < 4 → 0 ≤ hd p ∧ hd p ≤ 15) (hlv : ∀ p : Int, 0 ≤ p → p < 4 → 0 ≤ lv p ∧ lv p ≤ 4) : ∀ (f : Nat) (k : Int) (ν : Mem), (0 ≤ k) → (k ≤ 4) → (Fr [44, 45, 46, 123, 124, 125, 49, 50, 51, 52, 126, 127, 128, 129, 130] μ ν) → (RM tx n ν) → (ν 129 0 = pPe tx n) → (∀ j : Int, 0 ≤ j → j < k → ν 49 j = hd j ∧ ν 50 j = lv j ∧ ν 51 j = (if j < pPe tx n then pPr tx n (4 * j) else 0) ∧ ν 52 j = (if j < pTa tx n then pFu tx n j else 0)) → 4 - k < (f : Int) → AW kX9_tries 15 [some (.inr (.inr 9)), some (.inl k)] [] ν (pV (fun ν => Fr [44, 45, 46, 123, 124, 125, 49, 50, 51, 52, 126, 127, 128, 129, 130] μ ν ∧ RM tx n ν ∧ MR (cfg tx n hd lv) ν)) := by
  intro f
  induction f with
  | zero =>
    intro k ν h0 h1 hF hR f129 hw hm
    exfalso; omega
  | succ f ih =>
    intro k ν h0 h1 hF hR f129 hw hm
    have hpe := pPe_in (tx := tx) hn.1
    have hta := pTa_in (tx := tx) hn.1
    obtain ⟨k1, k2, k3, k4, k5⟩ := id hR
    have f47 : ν 47 = hd := (hF.fn 47 rfl).trans e47
    have f48 : ν 48 = lv := (hF.fn 48 rfl).trans e48
    refine s_iload_1 (pc := 15) dX9_tries_15 ?_
    refine s_iconst_4 (pc := 16) dX9_tries_16 ?_
    refine s_icmp_ge (pc := 17) 100 dX9_tries_17 rfl (by omega) (by omega) (fun h17 => ?_) (fun h17 => ?_)
    · refine s_aload_0 (pc := 100) dX9_tries_100 ?_
      refine s_aload_0 (pc := 101) dX9_tries_101 ?_
      refine s_iconst_0 (pc := 102) dX9_tries_102 ?_
      refine cV1i (pc := 103) (Ky := kX9_lawNow) dX9_tries_103 rfl lnX9_161 okX9_lawNow ⟨9, TX9, 40, rfl, rfl⟩ ⟨Nat.le_of_ble_eq_true rfl, Nat.le_of_ble_eq_true rfl⟩ (Nat.le_of_ble_eq_true rfl) (c_X9_lawNow (w := 0) (tx := tx) (n := n) (by omega) (by exact (hF.fn 43 rfl).trans e43) (by exact (hF.at 122 rfl 0).trans e122) hn ht) ?_
      rintro _ ν1 ⟨rfl, hF1, hM1⟩
      have g43 : ν1 43 = tx := (hF1.fn 43 rfl).trans ((hF.fn 43 rfl).trans e43)
      have g122 : ν1 122 0 = n := (hF1.at 122 rfl 0).trans ((hF.at 122 rfl 0).trans e122)
      refine pfX9_174 (pc := 106) dX9_tries_106 rfl ?_
      refine s_aload_0 (pc := 109) dX9_tries_109 ?_
      refine s_aload_0 (pc := 110) dX9_tries_110 ?_
      refine s_iconst_1 (pc := 111) dX9_tries_111 ?_
      refine cV1i (pc := 112) (Ky := kX9_lawNow) dX9_tries_112 rfl lnX9_161 okX9_lawNow ⟨9, TX9, 40, rfl, rfl⟩ ⟨Nat.le_of_ble_eq_true rfl, Nat.le_of_ble_eq_true rfl⟩ (Nat.le_of_ble_eq_true rfl) (c_X9_lawNow (w := 1) (tx := tx) (n := n) (by omega) (by rw [wr_nc (by decide)]; exact g43) (by rw [wr_n (by decide)]; exact g122) hn ht) ?_
      rintro _ ν2 ⟨rfl, hF2, hM2⟩
      have i43 : ν2 43 = tx := by rw [hF2.fn 43 rfl, wr_nc (by decide)]; exact g43
      have i122 : ν2 122 0 = n := by rw [hF2.at 122 rfl 0, wr_n (by decide)]; exact g122
      refine pfX9_177 (pc := 115) dX9_tries_115 rfl ?_
      refine s_aload_0 (pc := 118) dX9_tries_118 ?_
      refine s_aload_0 (pc := 119) dX9_tries_119 ?_
      refine s_iconst_2 (pc := 120) dX9_tries_120 ?_
      refine cV1i (pc := 121) (Ky := kX9_lawNow) dX9_tries_121 rfl lnX9_161 okX9_lawNow ⟨9, TX9, 40, rfl, rfl⟩ ⟨Nat.le_of_ble_eq_true rfl, Nat.le_of_ble_eq_true rfl⟩ (Nat.le_of_ble_eq_true rfl) (c_X9_lawNow (w := 2) (tx := tx) (n := n) (by omega) (by rw [wr_nc (by decide)]; exact i43) (by rw [wr_n (by decide)]; exact i122) hn ht) ?_
      rintro _ ν3 ⟨rfl, hF3, hM3⟩
      refine pfX9_180 (pc := 124) dX9_tries_124 rfl ?_
      refine s_aload_0 (pc := 127) dX9_tries_127 ?_
      refine s_iconst_0 (pc := 128) dX9_tries_128 ?_
      refine pfX9_183 (pc := 129) dX9_tries_129 rfl ?_
      refine s_return (pc := 132) dX9_tries_132 rfl ?_
      cases (show k = 4 by omega)
      obtain ⟨c1, c2, c3, c4, c5⟩ := id hM3
      refine ⟨?_, ?_, cfg_KR hn.1 hhd hlv, ?_, ?_, ?_, ?_, ?_, ?_, fun p p0 p1 => ?_, ?_, fun p p0 p1 => ?_⟩
      · refine Fr.wr (Fr.wr ?_ (by decide)) (by decide)
        refine Fr.tr ?_ (hF3.mono (by decide))
        refine Fr.wr (Fr.tr ?_ (hF2.mono (by decide))) (by decide)
        exact Fr.wr (hF.tr (hF1.mono (by decide))) (by decide)
      · refine ⟨?_, ?_, fun j j0 j1 => ?_, fun j j0 j1 => ?_, fun j j0 j1 => ?_⟩ <;> simp (decide := true) only [wr_s, wr_n, if_true, eq_self, reduceIte]
        · exact c1
        · exact c2
        · exact c3 j j0 j1
        · exact c4 j j0 j1
        · exact c5 j j0 j1
      · simp (decide := true) only [wr_s, wr_n, if_true, eq_self, reduceIte]; rw [hF3.at 129 rfl 0]; simp (decide := true) only [wr_s, wr_n, if_true, eq_self, reduceIte]; rw [hF2.at 129 rfl 0]; simp (decide := true) only [wr_s, wr_n, if_true, eq_self, reduceIte]; rw [hF1.at 129 rfl 0]; exact f129
      · simp (decide := true) only [wr_s, wr_n, if_true, eq_self, reduceIte]; exact c2
      · simp (decide := true) only [wr_s, wr_n, if_true, eq_self, reduceIte]; rw [hF3.at 126 rfl 0]; simp (decide := true) only [wr_s, wr_n, if_true, eq_self, reduceIte]; rw [hF2.at 126 rfl 0]; simp (decide := true) only [wr_s, wr_n, if_true, eq_self, reduceIte]; rfl
      · simp (decide := true) only [wr_s, wr_n, if_true, eq_self, reduceIte]; rw [hF3.at 127 rfl 0]; simp (decide := true) only [wr_s, wr_n, if_true, eq_self, reduceIte]; rfl
      · simp (decide := true) only [wr_s, wr_n, if_true, eq_self, reduceIte]; rfl
      · simp (decide := true) only [wr_s, wr_n, if_true, eq_self, reduceIte]; rfl
      · simp (decide := true) only [wr_s, wr_n, if_true, eq_self, reduceIte]
        rw [hF3.at 49 rfl, hF3.at 50 rfl, hF3.at 51 rfl, hF3.at 52 rfl]
        simp (decide := true) only [wr_s, wr_n, if_true, eq_self, reduceIte]
        rw [hF2.at 49 rfl, hF2.at 50 rfl, hF2.at 51 rfl, hF2.at 52 rfl]
        simp (decide := true) only [wr_s, wr_n, if_true, eq_self, reduceIte]
        rw [hF1.at 49 rfl, hF1.at 50 rfl, hF1.at 51 rfl, hF1.at 52 rfl]
        exact hw p p0 (by omega)
      · simp (decide := true) only [wr_s, wr_n, if_true, eq_self, reduceIte]; exact c1
      · simp (decide := true) only [wr_s, wr_n, if_true, eq_self, reduceIte]; exact c4 p p0 p1
    · refine s_aload_0 (pc := 20) dX9_tries_20 ?_
      refine gfX9_40 (pc := 21) dX9_tries_21 rfl ?_
      refine s_iload_1 (pc := 24) dX9_tries_24 ?_
      refine s_aload_0 (pc := 25) dX9_tries_25 ?_
      refine gfX9_34 (pc := 26) dX9_tries_26 rfl ?_
      refine s_iload_1 (pc := 29) dX9_tries_29 ?_
      refine z_iaload (pc := 30) dX9_tries_30 ly_47 (by omega) (by omega) ?_
      try simp (decide := true) only [wr_s, wr_n, if_true, eq_self, reduceIte]
      refine z_iastore (pc := 31) dX9_tries_31 ly_49 ip_49 (by omega) (by omega) ?_
      refine s_aload_0 (pc := 32) dX9_tries_32 ?_
      refine gfX9_43 (pc := 33) dX9_tries_33 rfl ?_
      refine s_iload_1 (pc := 36) dX9_tries_36 ?_
      refine s_aload_0 (pc := 37) dX9_tries_37 ?_
      refine gfX9_37 (pc := 38) dX9_tries_38 rfl ?_
      refine s_iload_1 (pc := 41) dX9_tries_41 ?_
      refine z_iaload (pc := 42) dX9_tries_42 ly_48 (by omega) (by omega) ?_
      try simp (decide := true) only [wr_s, wr_n, if_true, eq_self, reduceIte]
      refine z_iastore (pc := 43) dX9_tries_43 ly_50 ip_50 (by omega) (by omega) ?_
      refine s_aload_0 (pc := 44) dX9_tries_44 ?_
      refine gfX9_46 (pc := 45) dX9_tries_45 rfl ?_
      refine s_iload_1 (pc := 48) dX9_tries_48 ?_
      refine s_iload_1 (pc := 49) dX9_tries_49 ?_
      refine s_aload_0 (pc := 50) dX9_tries_50 ?_
      refine gfX9_126 (pc := 51) dX9_tries_51 rfl ?_
      try simp (decide := true) only [wr_s, wr_n, if_true, eq_self, reduceIte]
      refine s_icmp_ge (pc := 54) 68 dX9_tries_54 rfl (by omega) (by omega) (fun h54 => ?_) (fun h54 => ?_)
      · refine s_iconst_0 (pc := 68) dX9_tries_68 ?_
        refine z_iastore (pc := 69) dX9_tries_69 ly_51 ip_51 (by omega) (by omega) ?_
        refine s_aload_0 (pc := 70) dX9_tries_70 ?_
        refine gfX9_49 (pc := 71) dX9_tries_71 rfl ?_
        refine s_iload_1 (pc := 74) dX9_tries_74 ?_
        refine s_iload_1 (pc := 75) dX9_tries_75 ?_
        refine s_aload_0 (pc := 76) dX9_tries_76 ?_
        refine gfX9_129 (pc := 77) dX9_tries_77 rfl ?_
        try simp (decide := true) only [wr_s, wr_n, if_true, eq_self, reduceIte]
        refine s_icmp_ge (pc := 80) 92 dX9_tries_80 rfl (by omega) (by omega) (fun h80 => ?_) (fun h80 => ?_)
        · refine s_iconst_0 (pc := 92) dX9_tries_92 ?_
          refine z_iastore (pc := 93) dX9_tries_93 ly_52 ip_52 (by omega) (by omega) ?_
          refine s_iinc_1 (pc := 94) dX9_tries_94 (Nat.le_of_ble_eq_true rfl) rfl ?_
          refine s_goto (pc := 97) 15 dX9_tries_97 rfl ?_
          refine ih (k + 1) _ (by omega) (by omega) ((((hF.wr (by decide)).wr (by decide)).wr (by decide)).wr (by decide)) ?_ ?_ (fun j j0 j1 => ?_) (by omega)
          · refine ⟨?_, ?_, fun j j0 j1 => ?_, fun j j0 j1 => ?_, fun j j0 j1 => ?_⟩ <;> simp (decide := true) only [wr_s, wr_n, if_true, eq_self, reduceIte]
            · exact k1
            · exact k2
            · exact k3 j j0 j1
            · exact k4 j j0 j1
            · exact k5 j j0 j1
          · simp (decide := true) only [wr_s, wr_n, if_true, eq_self, reduceIte]; exact f129
          · simp (decide := true) only [wr_s, wr_n, if_true, eq_self, reduceIte]
            by_cases hj : j = k
            · subst hj
              simp only [if_true, eq_self, f47, f48]
              refine ⟨trivial, trivial, ?_, ?_⟩
              · first | (rw [if_pos (by omega)]; exact k4 _ (by omega) (by omega)) | rw [if_neg (by omega)]
              · first | (rw [if_pos (by omega)]; exact k5 _ (by omega) (by omega)) | rw [if_neg (by omega)]
            · simp only [if_neg hj]
              exact hw j j0 (by omega)
        · refine s_aload_0 (pc := 83) dX9_tries_83 ?_
          refine gfX9_28 (pc := 84) dX9_tries_84 rfl ?_
          refine s_iload_1 (pc := 87) dX9_tries_87 ?_
          refine z_iaload (pc := 88) dX9_tries_88 ly_45 (by omega) (by omega) ?_
          try simp (decide := true) only [wr_s, wr_n, if_true, eq_self, reduceIte]
          refine s_goto (pc := 89) 93 dX9_tries_89 rfl ?_
          refine z_iastore (pc := 93) dX9_tries_93 ly_52 ip_52 (by omega) (by omega) ?_
          refine s_iinc_1 (pc := 94) dX9_tries_94 (Nat.le_of_ble_eq_true rfl) rfl ?_
          refine s_goto (pc := 97) 15 dX9_tries_97 rfl ?_
          refine ih (k + 1) _ (by omega) (by omega) ((((hF.wr (by decide)).wr (by decide)).wr (by decide)).wr (by decide)) ?_ ?_ (fun j j0 j1 => ?_) (by omega)
          · refine ⟨?_, ?_, fun j j0 j1 => ?_, fun j j0 j1 => ?_, fun j j0 j1 => ?_⟩ <;> simp (decide := true) only [wr_s, wr_n, if_true, eq_self, reduceIte]
            · exact k1
            · exact k2
            · exact k3 j j0 j1
            · exact k4 j j0 j1
            · exact k5 j j0 j1
          · simp (decide := true) only [wr_s, wr_n, if_true, eq_self, reduceIte]; exact f129
          · simp (decide := true) only [wr_s, wr_n, if_true, eq_self, reduceIte]
            by_cases hj : j = k
            · subst hj
              simp only [if_true, eq_self, f47, f48]
              refine ⟨trivial, trivial, ?_, ?_⟩
              · first | (rw [if_pos (by omega)]; exact k4 _ (by omega) (by omega)) | rw [if_neg (by omega)]
              · first | (rw [if_pos (by omega)]; exact k5 _ (by omega) (by omega)) | rw [if_neg (by omega)]
            · simp only [if_neg hj]
              exact hw j j0 (by omega)
      · refine s_aload_0 (pc := 57) dX9_tries_57 ?_
        refine gfX9_25 (pc := 58) dX9_tries_58 rfl ?_
        refine s_iconst_4 (pc := 61) dX9_tries_61 ?_
        refine s_iload_1 (pc := 62) dX9_tries_62 ?_
        refine s_imul (pc := 63) dX9_tries_63 ?_
        refine z_iaload (pc := 64) dX9_tries_64 ly_44 (by omega) (by omega) ?_
        try simp (decide := true) only [wr_s, wr_n, if_true, eq_self, reduceIte]
        refine s_goto (pc := 65) 69 dX9_tries_65 rfl ?_
        refine z_iastore (pc := 69) dX9_tries_69 ly_51 ip_51 (by omega) (by omega) ?_
        refine s_aload_0 (pc := 70) dX9_tries_70 ?_
        refine gfX9_49 (pc := 71) dX9_tries_71 rfl ?_
        refine s_iload_1 (pc := 74) dX9_tries_74 ?_
        refine s_iload_1 (pc := 75) dX9_tries_75 ?_
        refine s_aload_0 (pc := 76) dX9_tries_76 ?_
        refine gfX9_129 (pc := 77) dX9_tries_77 rfl ?_
        try simp (decide := true) only [wr_s, wr_n, if_true, eq_self, reduceIte]
        refine s_icmp_ge (pc := 80) 92 dX9_tries_80 rfl (by omega) (by omega) (fun h80 => ?_) (fun h80 => ?_)
        · refine s_iconst_0 (pc := 92) dX9_tries_92 ?_
          refine z_iastore (pc := 93) dX9_tries_93 ly_52 ip_52 (by omega) (by omega) ?_
          refine s_iinc_1 (pc := 94) dX9_tries_94 (Nat.le_of_ble_eq_true rfl) rfl ?_
          refine s_goto (pc := 97) 15 dX9_tries_97 rfl ?_
          refine ih (k + 1) _ (by omega) (by omega) ((((hF.wr (by decide)).wr (by decide)).wr (by decide)).wr (by decide)) ?_ ?_ (fun j j0 j1 => ?_) (by omega)
          · refine ⟨?_, ?_, fun j j0 j1 => ?_, fun j j0 j1 => ?_, fun j j0 j1 => ?_⟩ <;> simp (decide := true) only [wr_s, wr_n, if_true, eq_self, reduceIte]
            · exact k1
            · exact k2
            · exact k3 j j0 j1
            · exact k4 j j0 j1
            · exact k5 j j0 j1
          · simp (decide := true) only [wr_s, wr_n, if_true, eq_self, reduceIte]; exact f129
          · simp (decide := true) only [wr_s, wr_n, if_true, eq_self, reduceIte]
            by_cases hj : j = k
            · subst hj
              simp only [if_true, eq_self, f47, f48]
              refine ⟨trivial, trivial, ?_, ?_⟩
              · first | (rw [if_pos (by omega)]; exact k4 _ (by omega) (by omega)) | rw [if_neg (by omega)]
              · first | (rw [if_pos (by omega)]; exact k5 _ (by omega) (by omega)) | rw [if_neg (by omega)]
            · simp only [if_neg hj]
              exact hw j j0 (by omega)
        · refine s_aload_0 (pc := 83) dX9_tries_83 ?_
          refine gfX9_28 (pc := 84) dX9_tries_84 rfl ?_
          refine s_iload_1 (pc := 87) dX9_tries_87 ?_
          refine z_iaload (pc := 88) dX9_tries_88 ly_45 (by omega) (by omega) ?_
          try simp (decide := true) only [wr_s, wr_n, if_true, eq_self, reduceIte]
          refine s_goto (pc := 89) 93 dX9_tries_89 rfl ?_
          refine z_iastore (pc := 93) dX9_tries_93 ly_52 ip_52 (by omega) (by omega) ?_
          refine s_iinc_1 (pc := 94) dX9_tries_94 (Nat.le_of_ble_eq_true rfl) rfl ?_
          refine s_goto (pc := 97) 15 dX9_tries_97 rfl ?_
          refine ih (k + 1) _ (by omega) (by omega) ((((hF.wr (by decide)).wr (by decide)).wr (by decide)).wr (by decide)) ?_ ?_ (fun j j0 j1 => ?_) (by omega)
          · refine ⟨?_, ?_, fun j j0 j1 => ?_, fun j j0 j1 => ?_, fun j j0 j1 => ?_⟩ <;> simp (decide := true) only [wr_s, wr_n, if_true, eq_self, reduceIte]
            · exact k1
            · exact k2
            · exact k3 j j0 j1
            · exact k4 j j0 j1
            · exact k5 j j0 j1
          · simp (decide := true) only [wr_s, wr_n, if_true, eq_self, reduceIte]; exact f129
          · simp (decide := true) only [wr_s, wr_n, if_true, eq_self, reduceIte]
            by_cases hj : j = k
            · subst hj
              simp only [if_true, eq_self, f47, f48]
              refine ⟨trivial, trivial, ?_, ?_⟩
              · first | (rw [if_pos (by omega)]; exact k4 _ (by omega) (by omega)) | rw [if_neg (by omega)]
              · first | (rw [if_pos (by omega)]; exact k5 _ (by omega) (by omega)) | rw [if_neg (by omega)]
            · simp only [if_neg hj]
              exact hw j j0 (by omega)
theorem c_X9_tries {tx : Int → Int} {n : Int} {hd lv : Int → Int} {μ : Mem} (e43 : μ 43 = tx) (e122 : μ 122 0 = n) (hn : 0 ≤ n ∧ n ≤ 60) (ht : ∀ k : Int, 0 ≤ k → k < n → 0 ≤ tx k ∧ tx k ≤ 255) (e47 : μ 47 = hd) (e48 : μ 48 = lv) (hhd : ∀ p : Int, 0 ≤ p → p < 4 → 0 ≤ hd p ∧ hd p ≤ 15) (hlv : ∀ p : Int, 0 ≤ p → p < 4 → 0 ≤ lv p ∧ lv p ≤ 4) : Mc kX9_tries [.inr (.inr 9)] μ (pV (fun ν => Fr [44, 45, 46, 123, 124, 125, 49, 50, 51, 52, 126, 127, 128, 129, 130] μ ν ∧ RM tx n ν ∧ MR (cfg tx n hd lv) ν)) := by
  refine Mc_of (by decide +kernel) (fun _ => Nat.le_of_ble_eq_true rfl) ?_
  show AW kX9_tries 0 [some (.inr (.inr 9)), none] [] μ _
  refine s_aload_0 (pc := 0) dX9_tries_0 ?_
  refine cV0i (pc := 1) (Ky := kX9_reads) dX9_tries_1 rfl lnX9_155 okX9_reads ⟨9, TX9, 40, rfl, rfl⟩ ⟨Nat.le_of_ble_eq_true rfl, Nat.le_of_ble_eq_true rfl⟩ (Nat.le_of_ble_eq_true rfl) (c_X9_reads e43 e122 hn ht) ?_
  rintro _ ν1 ⟨rfl, hF1, hM1⟩
  refine s_pop (pc := 4) dX9_tries_4 rfl ?_
  refine s_aload_0 (pc := 5) dX9_tries_5 ?_
  refine s_aload_0 (pc := 6) dX9_tries_6 ?_
  refine gfX9_126 (pc := 7) dX9_tries_7 rfl ?_
  try simp (decide := true) only [wr_s, wr_n, if_true, eq_self, reduceIte]
  refine pfX9_171 (pc := 10) dX9_tries_10 rfl ?_
  refine s_iconst_0 (pc := 13) dX9_tries_13 ?_
  refine s_istore_1 (pc := 14) dX9_tries_14 (Nat.le_of_ble_eq_true rfl) rfl ?_
  obtain ⟨c1, c2, c3, c4, c5⟩ := id hM1
  refine lp_X9_tries e43 e122 hn ht e47 e48 hhd hlv 5 0 _ (by omega) (by omega) ((hF1.mono (by decide)).wr (by decide)) ?_ ?_ (fun j j0 j1 => by omega) (by omega)
  · refine ⟨?_, ?_, fun j j0 j1 => ?_, fun j j0 j1 => ?_, fun j j0 j1 => ?_⟩ <;> simp (decide := true) only [wr_s, wr_n, if_true, eq_self, reduceIte]
    · exact c1
    · exact c2
    · exact c3 j j0 j1
    · exact c4 j j0 j1
    · exact c5 j j0 j1
  · simp (decide := true) only [wr_s, wr_n, if_true, eq_self, reduceIte]; exact c1
