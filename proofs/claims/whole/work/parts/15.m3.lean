theorem lp_X9_sheet {s form n : Int} {μ : Mem} (hg : 0 ≤ s ∧ s ≤ 3 ∧ 0 ≤ form ∧ form ≤ 2 ∧ 0 ≤ n ∧ n ≤ 60) : ∀ (f : Nat) (i : Int), (0 ≤ i) → (i ≤ n) → n - i < (f : Int) → AW kX9_sheet 55 [some (.inr (.inr 9)), some (.inl s), some (.inl form), some (.inl n), some (.inl i)] [] (wa (wr (wr μ 39 s form) 40 s n) 41 (fun k => if 60 * s ≤ k ∧ k < 60 * s + i then 0 else μ 41 k)) (pI (fun z ν => ((s < 0 ∨ 3 < s ∨ form < 0 ∨ 2 < form ∨ 60 < n) ∧ -2 = z ∧ μ = ν) ∨ ((0 ≤ s ∧ s ≤ 3 ∧ 0 ≤ form ∧ form ≤ 2 ∧ n < 0) ∧ -15 = z ∧ wr μ 121 0 5 = ν) ∨ ((0 ≤ s ∧ s ≤ 3 ∧ 0 ≤ form ∧ form ≤ 2 ∧ 0 ≤ n ∧ n ≤ 60) ∧ n = z ∧ wa (wr (wr μ 39 s form) 40 s n) 41 (fun k => if 60 * s ≤ k ∧ k < 60 * s + n then 0 else μ 41 k) = ν))) := by
  intro f
  induction f with
  | zero =>
    intro i h0 h1 hm
    exfalso; omega
  | succ f ih =>
    intro i h0 h1 hm
    refine s_iload_4 (pc := 55) dX9_sheet_55 ?_
    refine s_iload_3 (pc := 57) dX9_sheet_57 ?_
    refine s_icmp_ge (pc := 58) 80 dX9_sheet_58 rfl (by omega) (by omega) (fun h58 => ?_) (fun h58 => ?_)
    · refine s_iload_3 (pc := 80) dX9_sheet_80 ?_
      refine s_ireturn (pc := 81) dX9_sheet_81 rfl ?_
      cases (show i = n by omega)
      first | exact Or.inl (⟨by omega, by omega, rfl⟩) | exact Or.inr (Or.inl (⟨by omega, by omega, rfl⟩)) | exact Or.inr (Or.inr (⟨by omega, by omega, rfl⟩)) | (exfalso; omega)
    · refine s_aload_0 (pc := 61) dX9_sheet_61 ?_
      refine gfX9_16 (pc := 62) dX9_sheet_62 rfl ?_
      refine s_bipush (pc := 65) (z := 60) dX9_sheet_65 rfl ?_
      refine s_iload_1 (pc := 67) dX9_sheet_67 ?_
      refine s_imul (pc := 68) dX9_sheet_68 ?_
      refine s_iload_4 (pc := 69) dX9_sheet_69 ?_
      refine s_iadd (pc := 71) dX9_sheet_71 ?_
      refine s_iconst_0 (pc := 72) dX9_sheet_72 ?_
      refine z_iastore (pc := 73) dX9_sheet_73 ly_41 ip_41 (by omega) (by omega) ?_
      refine s_iinc_4 (pc := 74) dX9_sheet_74 (Nat.le_of_ble_eq_true rfl) rfl ?_
      refine s_goto (pc := 77) 55 dX9_sheet_77 rfl ?_
      refine s_mem ?_ (ih (i + 1) (by omega) (by omega) (by omega))
      rw [wr_wa]
      refine wa_ext fun j => ?_
      by_cases hj : j = 60 * s + i
      · rw [if_pos hj, if_pos (by omega)]
      · rw [if_neg hj]
        by_cases hj2 : 60 * s ≤ j ∧ j < 60 * s + i
        · rw [if_pos hj2, if_pos (by omega)]
        · rw [if_neg hj2, if_neg (by omega)]
theorem c_X9_sheet {s form n : Int} {μ : Mem} (h_s : -2147483648 ≤ s ∧ s < 2147483648) (h_form : -2147483648 ≤ form ∧ form < 2147483648) (h_n : -2147483648 ≤ n ∧ n < 2147483648) : Mc kX9_sheet [.inr (.inr 9), .inl s, .inl form, .inl n] μ (pI (fun z ν => ((s < 0 ∨ 3 < s ∨ form < 0 ∨ 2 < form ∨ 60 < n) ∧ -2 = z ∧ μ = ν) ∨ ((0 ≤ s ∧ s ≤ 3 ∧ 0 ≤ form ∧ form ≤ 2 ∧ n < 0) ∧ -15 = z ∧ wr μ 121 0 5 = ν) ∨ ((0 ≤ s ∧ s ≤ 3 ∧ 0 ≤ form ∧ form ≤ 2 ∧ 0 ≤ n ∧ n ≤ 60) ∧ n = z ∧ wa (wr (wr μ 39 s form) 40 s n) 41 (fun k => if 60 * s ≤ k ∧ k < 60 * s + n then 0 else μ 41 k) = ν))) := by
  refine Mc_of (by decide +kernel) (fun _ => Nat.le_of_ble_eq_true rfl) ?_
  show AW kX9_sheet 0 [some (.inr (.inr 9)), some (.inl s), some (.inl form), some (.inl n), none] [] μ _
  refine s_iload_1 (pc := 0) dX9_sheet_0 ?_
  refine cS1i (pc := 1) (Ky := kX9_isSheet) dX9_sheet_1 rfl lnX9_99 okX9_isSheet ⟨Nat.le_of_ble_eq_true rfl, Nat.le_of_ble_eq_true rfl⟩ (Nat.le_of_ble_eq_true rfl) (c_X9_isSheet (by omega)) ?_
  rintro _ _ ⟨rfl, rfl⟩
  refine s_if_eq (pc := 4) 25 dX9_sheet_4 rfl (by omega) (fun h4 => ?_) (fun h4 => ?_)
  · refine s_bipush (pc := 25) (z := -2) dX9_sheet_25 rfl ?_
    refine s_ireturn (pc := 27) dX9_sheet_27 rfl ?_
    first | exact Or.inl (⟨by omega, by omega, rfl⟩) | exact Or.inr (Or.inl (⟨by omega, by omega, rfl⟩)) | exact Or.inr (Or.inr (⟨by omega, by omega, rfl⟩)) | (exfalso; omega)
  · refine s_iload_2 (pc := 7) dX9_sheet_7 ?_
    refine s_i2l (pc := 8) dX9_sheet_8 (by omega) ?_
    refine s_lconst_0 (pc := 9) dX9_sheet_9 ?_
    refine s_ldc2_w (pc := 10) dX9_sheet_10 rfl cnX9_103 ?_
    refine cS3i (pc := 13) (Ky := kX9_in) dX9_sheet_13 rfl lnX9_89 okX9_in ⟨Nat.le_of_ble_eq_true rfl, Nat.le_of_ble_eq_true rfl⟩ (Nat.le_of_ble_eq_true rfl) (c_X9_in (by omega) (by omega) (by omega)) ?_
    rintro _ _ ⟨rfl, rfl⟩
    refine s_if_eq (pc := 16) 25 dX9_sheet_16 rfl (by omega) (fun h16 => ?_) (fun h16 => ?_)
    · refine s_bipush (pc := 25) (z := -2) dX9_sheet_25 rfl ?_
      refine s_ireturn (pc := 27) dX9_sheet_27 rfl ?_
      first | exact Or.inl (⟨by omega, by omega, rfl⟩) | exact Or.inr (Or.inl (⟨by omega, by omega, rfl⟩)) | exact Or.inr (Or.inr (⟨by omega, by omega, rfl⟩)) | (exfalso; omega)
    · refine s_iload_3 (pc := 19) dX9_sheet_19 ?_
      refine s_bipush (pc := 20) (z := 60) dX9_sheet_20 rfl ?_
      refine s_icmp_le (pc := 22) 28 dX9_sheet_22 rfl (by omega) (by omega) (fun h22 => ?_) (fun h22 => ?_)
      · refine s_iload_3 (pc := 28) dX9_sheet_28 ?_
        refine s_if_ge (pc := 29) 38 dX9_sheet_29 rfl (by omega) (fun h29 => ?_) (fun h29 => ?_)
        · refine s_aload_0 (pc := 38) dX9_sheet_38 ?_
          refine gfX9_7 (pc := 39) dX9_sheet_39 rfl ?_
          refine s_iload_1 (pc := 42) dX9_sheet_42 ?_
          refine s_iload_2 (pc := 43) dX9_sheet_43 ?_
          refine z_iastore (pc := 44) dX9_sheet_44 ly_39 ip_39 (by omega) (by omega) ?_
          refine s_aload_0 (pc := 45) dX9_sheet_45 ?_
          refine gfX9_13 (pc := 46) dX9_sheet_46 rfl ?_
          refine s_iload_1 (pc := 49) dX9_sheet_49 ?_
          refine s_iload_3 (pc := 50) dX9_sheet_50 ?_
          refine z_iastore (pc := 51) dX9_sheet_51 ly_40 ip_40 (by omega) (by omega) ?_
          refine s_iconst_0 (pc := 52) dX9_sheet_52 ?_
          refine s_istore_4 (pc := 53) dX9_sheet_53 (Nat.le_of_ble_eq_true rfl) rfl ?_
          refine s_mem ?_ (lp_X9_sheet (by omega) (n.toNat + 1) 0 (by omega) (by omega) (by omega))
          refine (wa_self fun j => ?_).symm
          rw [if_neg (by omega), wr_n (by decide), wr_n (by decide)]
        · refine s_aload_0 (pc := 32) dX9_sheet_32 ?_
          refine s_iconst_5 (pc := 33) dX9_sheet_33 ?_
          refine cV1i (pc := 34) (Ky := kX9_met) dX9_sheet_34 rfl lnX9_105 okX9_met ⟨9, TX9, 40, rfl, rfl⟩ ⟨Nat.le_of_ble_eq_true rfl, Nat.le_of_ble_eq_true rfl⟩ (Nat.le_of_ble_eq_true rfl) (c_X9_met (by omega)) ?_
          rintro _ _ ⟨rfl, rfl⟩
          refine s_ireturn (pc := 37) dX9_sheet_37 rfl ?_
          first | exact Or.inl (⟨by omega, by omega, rfl⟩) | exact Or.inr (Or.inl (⟨by omega, by omega, rfl⟩)) | exact Or.inr (Or.inr (⟨by omega, by omega, rfl⟩)) | (exfalso; omega)
      · refine s_bipush (pc := 25) (z := -2) dX9_sheet_25 rfl ?_
        refine s_ireturn (pc := 27) dX9_sheet_27 rfl ?_
        first | exact Or.inl (⟨by omega, by omega, rfl⟩) | exact Or.inr (Or.inl (⟨by omega, by omega, rfl⟩)) | exact Or.inr (Or.inr (⟨by omega, by omega, rfl⟩)) | (exfalso; omega)
theorem c_X9_lay {s form i v : Int} {μ : Mem} (h_s : -2147483648 ≤ s ∧ s < 2147483648) (h_form : -2147483648 ≤ form ∧ form < 2147483648) (h_i : -2147483648 ≤ i ∧ i < 2147483648) (h_v : -2147483648 ≤ v ∧ v < 2147483648) (hS : ∀ s : Int, 0 ≤ s → s < 4 → (μ 39 s = -1 ∨ 0 ≤ μ 39 s ∧ μ 39 s ≤ 2) ∧ 0 ≤ μ 40 s ∧ μ 40 s ≤ 60) : Mc kX9_lay [.inr (.inr 9), .inl s, .inl form, .inl i, .inl v] μ (pI (fun z ν => ((s < 0 ∨ 3 < s ∨ form < 0 ∨ 2 < form) ∧ -2 = z ∧ μ = ν) ∨ ((0 ≤ s ∧ s ≤ 3 ∧ 0 ≤ form ∧ form ≤ 2 ∧ μ 39 s < 0) ∧ -11 = z ∧ wr μ 121 0 1 = ν) ∨ ((0 ≤ s ∧ s ≤ 3 ∧ 0 ≤ form ∧ form ≤ 2 ∧ 0 ≤ μ 39 s ∧ μ 39 s ≠ form) ∧ -13 = z ∧ wr μ 121 0 3 = ν) ∨ ((0 ≤ s ∧ s ≤ 3 ∧ 0 ≤ form ∧ form ≤ 2 ∧ μ 39 s = form ∧ (i < 0 ∨ μ 40 s ≤ i)) ∧ -12 = z ∧ wr μ 121 0 2 = ν) ∨ ((0 ≤ s ∧ s ≤ 3 ∧ 0 ≤ form ∧ form ≤ 2 ∧ μ 39 s = form ∧ 0 ≤ i ∧ i < μ 40 s) ∧ 1 = z ∧ wr μ 41 (60 * s + i) (cutF form v) = ν))) := by
  refine Mc_of (by decide +kernel) (fun _ => Nat.le_of_ble_eq_true rfl) ?_
  show AW kX9_lay 0 [some (.inr (.inr 9)), some (.inl s), some (.inl form), some (.inl i), some (.inl v), none] [] μ _
  refine s_iload_1 (pc := 0) dX9_lay_0 ?_
  refine cS1i (pc := 1) (Ky := kX9_isSheet) dX9_lay_1 rfl lnX9_99 okX9_isSheet ⟨Nat.le_of_ble_eq_true rfl, Nat.le_of_ble_eq_true rfl⟩ (Nat.le_of_ble_eq_true rfl) (c_X9_isSheet (by omega)) ?_
  rintro _ _ ⟨rfl, rfl⟩
  refine s_if_eq (pc := 4) 19 dX9_lay_4 rfl (by omega) (fun h4 => ?_) (fun h4 => ?_)
  · refine s_bipush (pc := 19) (z := -2) dX9_lay_19 rfl ?_
    refine s_ireturn (pc := 21) dX9_lay_21 rfl ?_
    first | exact Or.inl (⟨by omega, by omega, rfl⟩) | exact Or.inr (Or.inl (⟨by omega, by omega, rfl⟩)) | exact Or.inr (Or.inr (Or.inl (⟨by omega, by omega, rfl⟩))) | exact Or.inr (Or.inr (Or.inr (Or.inl (⟨by omega, by omega, rfl⟩)))) | exact Or.inr (Or.inr (Or.inr (Or.inr (⟨by omega, by omega, rfl⟩)))) | (exfalso; omega)
  · refine s_iload_2 (pc := 7) dX9_lay_7 ?_
    refine s_i2l (pc := 8) dX9_lay_8 (by omega) ?_
    refine s_lconst_0 (pc := 9) dX9_lay_9 ?_
    refine s_ldc2_w (pc := 10) dX9_lay_10 rfl cnX9_103 ?_
    refine cS3i (pc := 13) (Ky := kX9_in) dX9_lay_13 rfl lnX9_89 okX9_in ⟨Nat.le_of_ble_eq_true rfl, Nat.le_of_ble_eq_true rfl⟩ (Nat.le_of_ble_eq_true rfl) (c_X9_in (by omega) (by omega) (by omega)) ?_
    rintro _ _ ⟨rfl, rfl⟩
    refine s_if_ne (pc := 16) 22 dX9_lay_16 rfl (by omega) (fun h16 => ?_) (fun h16 => ?_)
    · have hs := hS s (by omega) (by omega)
      refine s_aload_0 (pc := 22) dX9_lay_22 ?_
      refine s_iload_1 (pc := 23) dX9_lay_23 ?_
      refine s_iload_2 (pc := 24) dX9_lay_24 ?_
      refine s_iload_3 (pc := 25) dX9_lay_25 ?_
      refine cV3i (pc := 26) (Ky := kX9_lacks) dX9_lay_26 rfl lnX9_109 okX9_lacks ⟨9, TX9, 40, rfl, rfl⟩ ⟨Nat.le_of_ble_eq_true rfl, Nat.le_of_ble_eq_true rfl⟩ (Nat.le_of_ble_eq_true rfl) (c_X9_lacks (by omega) (by omega) (by omega) (by omega)) ?_
      rintro _ _ (⟨c26, rfl, rfl⟩ | ⟨c26, rfl, rfl⟩ | ⟨c26, rfl, rfl⟩ | ⟨c26, rfl, rfl⟩)
      · refine s_istore_5 (pc := 29) dX9_lay_29 (Nat.le_of_ble_eq_true rfl) rfl ?_
        refine s_iload_5 (pc := 31) dX9_lay_31 ?_
        refine s_if_eq (pc := 33) 39 dX9_lay_33 rfl (by omega) (fun h33 => ?_) (fun h33 => ?_)
        · exact absurd h33 (by decide)
        · refine s_iload_5 (pc := 36) dX9_lay_36 ?_
          refine s_ireturn (pc := 38) dX9_lay_38 rfl ?_
          first | exact Or.inl (⟨by omega, by omega, rfl⟩) | exact Or.inr (Or.inl (⟨by omega, by omega, rfl⟩)) | exact Or.inr (Or.inr (Or.inl (⟨by omega, by omega, rfl⟩))) | exact Or.inr (Or.inr (Or.inr (Or.inl (⟨by omega, by omega, rfl⟩)))) | exact Or.inr (Or.inr (Or.inr (Or.inr (⟨by omega, by omega, rfl⟩)))) | (exfalso; omega)
      · refine s_istore_5 (pc := 29) dX9_lay_29 (Nat.le_of_ble_eq_true rfl) rfl ?_
        refine s_iload_5 (pc := 31) dX9_lay_31 ?_
        refine s_if_eq (pc := 33) 39 dX9_lay_33 rfl (by omega) (fun h33 => ?_) (fun h33 => ?_)
        · exact absurd h33 (by decide)
        · refine s_iload_5 (pc := 36) dX9_lay_36 ?_
          refine s_ireturn (pc := 38) dX9_lay_38 rfl ?_
          first | exact Or.inl (⟨by omega, by omega, rfl⟩) | exact Or.inr (Or.inl (⟨by omega, by omega, rfl⟩)) | exact Or.inr (Or.inr (Or.inl (⟨by omega, by omega, rfl⟩))) | exact Or.inr (Or.inr (Or.inr (Or.inl (⟨by omega, by omega, rfl⟩)))) | exact Or.inr (Or.inr (Or.inr (Or.inr (⟨by omega, by omega, rfl⟩)))) | (exfalso; omega)
      · refine s_istore_5 (pc := 29) dX9_lay_29 (Nat.le_of_ble_eq_true rfl) rfl ?_
        refine s_iload_5 (pc := 31) dX9_lay_31 ?_
        refine s_if_eq (pc := 33) 39 dX9_lay_33 rfl (by omega) (fun h33 => ?_) (fun h33 => ?_)
        · refine s_aload_0 (pc := 39) dX9_lay_39 ?_
          refine gfX9_16 (pc := 40) dX9_lay_40 rfl ?_
          refine s_bipush (pc := 43) (z := 60) dX9_lay_43 rfl ?_
          refine s_iload_1 (pc := 45) dX9_lay_45 ?_
          refine s_imul (pc := 46) dX9_lay_46 ?_
          refine s_iload_3 (pc := 47) dX9_lay_47 ?_
          refine s_iadd (pc := 48) dX9_lay_48 ?_
          refine s_iload_2 (pc := 49) dX9_lay_49 ?_
          refine s_iload_4 (pc := 50) dX9_lay_50 ?_
          refine cS2i (pc := 52) (Ky := kX9_cut) dX9_lay_52 rfl lnX9_113 okX9_cut ⟨Nat.le_of_ble_eq_true rfl, Nat.le_of_ble_eq_true rfl⟩ (Nat.le_of_ble_eq_true rfl) (c_X9_cut (by omega) (by omega)) ?_
          rintro _ _ ⟨rfl, rfl⟩
          refine z_iastore (pc := 55) dX9_lay_55 ly_41 ip_41 (by omega) (by omega) ?_
          refine s_iconst_1 (pc := 56) dX9_lay_56 ?_
          refine s_ireturn (pc := 57) dX9_lay_57 rfl ?_
          first | exact Or.inl (⟨by omega, by omega, rfl⟩) | exact Or.inr (Or.inl (⟨by omega, by omega, rfl⟩)) | exact Or.inr (Or.inr (Or.inl (⟨by omega, by omega, rfl⟩))) | exact Or.inr (Or.inr (Or.inr (Or.inl (⟨by omega, by omega, rfl⟩)))) | exact Or.inr (Or.inr (Or.inr (Or.inr (⟨by omega, by omega, rfl⟩)))) | (exfalso; omega)
        · exact absurd h33 (by decide)
      · refine s_istore_5 (pc := 29) dX9_lay_29 (Nat.le_of_ble_eq_true rfl) rfl ?_
        refine s_iload_5 (pc := 31) dX9_lay_31 ?_
        refine s_if_eq (pc := 33) 39 dX9_lay_33 rfl (by omega) (fun h33 => ?_) (fun h33 => ?_)
        · exact absurd h33 (by decide)
        · refine s_iload_5 (pc := 36) dX9_lay_36 ?_
          refine s_ireturn (pc := 38) dX9_lay_38 rfl ?_
          first | exact Or.inl (⟨by omega, by omega, rfl⟩) | exact Or.inr (Or.inl (⟨by omega, by omega, rfl⟩)) | exact Or.inr (Or.inr (Or.inl (⟨by omega, by omega, rfl⟩))) | exact Or.inr (Or.inr (Or.inr (Or.inl (⟨by omega, by omega, rfl⟩)))) | exact Or.inr (Or.inr (Or.inr (Or.inr (⟨by omega, by omega, rfl⟩)))) | (exfalso; omega)
    · refine s_bipush (pc := 19) (z := -2) dX9_lay_19 rfl ?_
      refine s_ireturn (pc := 21) dX9_lay_21 rfl ?_
      first | exact Or.inl (⟨by omega, by omega, rfl⟩) | exact Or.inr (Or.inl (⟨by omega, by omega, rfl⟩)) | exact Or.inr (Or.inr (Or.inl (⟨by omega, by omega, rfl⟩))) | exact Or.inr (Or.inr (Or.inr (Or.inl (⟨by omega, by omega, rfl⟩)))) | exact Or.inr (Or.inr (Or.inr (Or.inr (⟨by omega, by omega, rfl⟩)))) | (exfalso; omega)
theorem c_X9_get {s form i : Int} {μ : Mem} (h_s : -2147483648 ≤ s ∧ s < 2147483648) (h_form : -2147483648 ≤ form ∧ form < 2147483648) (h_i : -2147483648 ≤ i ∧ i < 2147483648) (hS : ∀ s : Int, 0 ≤ s → s < 4 → (μ 39 s = -1 ∨ 0 ≤ μ 39 s ∧ μ 39 s ≤ 2) ∧ 0 ≤ μ 40 s ∧ μ 40 s ≤ 60) : Mc kX9_get [.inr (.inr 9), .inl s, .inl form, .inl i] μ (pI (fun z ν => ((s < 0 ∨ 3 < s ∨ form < 0 ∨ 2 < form) ∧ -2147483648 = z ∧ μ = ν) ∨ ((0 ≤ s ∧ s ≤ 3 ∧ 0 ≤ form ∧ form ≤ 2 ∧ μ 39 s < 0) ∧ -2147483648 = z ∧ wr μ 121 0 1 = ν) ∨ ((0 ≤ s ∧ s ≤ 3 ∧ 0 ≤ form ∧ form ≤ 2 ∧ 0 ≤ μ 39 s ∧ μ 39 s ≠ form) ∧ -2147483648 = z ∧ wr μ 121 0 3 = ν) ∨ ((0 ≤ s ∧ s ≤ 3 ∧ 0 ≤ form ∧ form ≤ 2 ∧ μ 39 s = form ∧ (i < 0 ∨ μ 40 s ≤ i)) ∧ -2147483648 = z ∧ wr μ 121 0 2 = ν) ∨ ((0 ≤ s ∧ s ≤ 3 ∧ 0 ≤ form ∧ form ≤ 2 ∧ μ 39 s = form ∧ 0 ≤ i ∧ i < μ 40 s) ∧ μ 41 (60 * s + i) = z ∧ μ = ν))) := by
  refine Mc_of (by decide +kernel) (fun _ => Nat.le_of_ble_eq_true rfl) ?_
  show AW kX9_get 0 [some (.inr (.inr 9)), some (.inl s), some (.inl form), some (.inl i)] [] μ _
  refine s_iload_1 (pc := 0) dX9_get_0 ?_
  refine cS1i (pc := 1) (Ky := kX9_isSheet) dX9_get_1 rfl lnX9_99 okX9_isSheet ⟨Nat.le_of_ble_eq_true rfl, Nat.le_of_ble_eq_true rfl⟩ (Nat.le_of_ble_eq_true rfl) (c_X9_isSheet (by omega)) ?_
  rintro _ _ ⟨rfl, rfl⟩
  refine s_if_eq (pc := 4) 29 dX9_get_4 rfl (by omega) (fun h4 => ?_) (fun h4 => ?_)
  · refine s_ldc (pc := 29) dX9_get_29 rfl cnX9_117 ?_
    refine s_ireturn (pc := 31) dX9_get_31 rfl ?_
    first | exact Or.inl (⟨by omega, by omega, rfl⟩) | exact Or.inr (Or.inl (⟨by omega, by omega, rfl⟩)) | exact Or.inr (Or.inr (Or.inl (⟨by omega, by omega, rfl⟩))) | exact Or.inr (Or.inr (Or.inr (Or.inl (⟨by omega, by omega, rfl⟩)))) | exact Or.inr (Or.inr (Or.inr (Or.inr (⟨by omega, by omega, rfl⟩)))) | (exfalso; omega)
  · refine s_iload_2 (pc := 7) dX9_get_7 ?_
    refine s_i2l (pc := 8) dX9_get_8 (by omega) ?_
    refine s_lconst_0 (pc := 9) dX9_get_9 ?_
    refine s_ldc2_w (pc := 10) dX9_get_10 rfl cnX9_103 ?_
    refine cS3i (pc := 13) (Ky := kX9_in) dX9_get_13 rfl lnX9_89 okX9_in ⟨Nat.le_of_ble_eq_true rfl, Nat.le_of_ble_eq_true rfl⟩ (Nat.le_of_ble_eq_true rfl) (c_X9_in (by omega) (by omega) (by omega)) ?_
    rintro _ _ ⟨rfl, rfl⟩
    refine s_if_eq (pc := 16) 29 dX9_get_16 rfl (by omega) (fun h16 => ?_) (fun h16 => ?_)
    · refine s_ldc (pc := 29) dX9_get_29 rfl cnX9_117 ?_
      refine s_ireturn (pc := 31) dX9_get_31 rfl ?_
      first | exact Or.inl (⟨by omega, by omega, rfl⟩) | exact Or.inr (Or.inl (⟨by omega, by omega, rfl⟩)) | exact Or.inr (Or.inr (Or.inl (⟨by omega, by omega, rfl⟩))) | exact Or.inr (Or.inr (Or.inr (Or.inl (⟨by omega, by omega, rfl⟩)))) | exact Or.inr (Or.inr (Or.inr (Or.inr (⟨by omega, by omega, rfl⟩)))) | (exfalso; omega)
    · have hs := hS s (by omega) (by omega)
      refine s_aload_0 (pc := 19) dX9_get_19 ?_
      refine s_iload_1 (pc := 20) dX9_get_20 ?_
      refine s_iload_2 (pc := 21) dX9_get_21 ?_
      refine s_iload_3 (pc := 22) dX9_get_22 ?_
      refine cV3i (pc := 23) (Ky := kX9_lacks) dX9_get_23 rfl lnX9_109 okX9_lacks ⟨9, TX9, 40, rfl, rfl⟩ ⟨Nat.le_of_ble_eq_true rfl, Nat.le_of_ble_eq_true rfl⟩ (Nat.le_of_ble_eq_true rfl) (c_X9_lacks (by omega) (by omega) (by omega) (by omega)) ?_
      rintro _ _ (⟨c23, rfl, rfl⟩ | ⟨c23, rfl, rfl⟩ | ⟨c23, rfl, rfl⟩ | ⟨c23, rfl, rfl⟩)
      · refine s_if_eq (pc := 26) 32 dX9_get_26 rfl (by omega) (fun h26 => ?_) (fun h26 => ?_)
        · exact absurd h26 (by decide)
        · refine s_ldc (pc := 29) dX9_get_29 rfl cnX9_117 ?_
          refine s_ireturn (pc := 31) dX9_get_31 rfl ?_
          first | exact Or.inl (⟨by omega, by omega, rfl⟩) | exact Or.inr (Or.inl (⟨by omega, by omega, rfl⟩)) | exact Or.inr (Or.inr (Or.inl (⟨by omega, by omega, rfl⟩))) | exact Or.inr (Or.inr (Or.inr (Or.inl (⟨by omega, by omega, rfl⟩)))) | exact Or.inr (Or.inr (Or.inr (Or.inr (⟨by omega, by omega, rfl⟩)))) | (exfalso; omega)
      · refine s_if_eq (pc := 26) 32 dX9_get_26 rfl (by omega) (fun h26 => ?_) (fun h26 => ?_)
        · exact absurd h26 (by decide)
        · refine s_ldc (pc := 29) dX9_get_29 rfl cnX9_117 ?_
          refine s_ireturn (pc := 31) dX9_get_31 rfl ?_
          first | exact Or.inl (⟨by omega, by omega, rfl⟩) | exact Or.inr (Or.inl (⟨by omega, by omega, rfl⟩)) | exact Or.inr (Or.inr (Or.inl (⟨by omega, by omega, rfl⟩))) | exact Or.inr (Or.inr (Or.inr (Or.inl (⟨by omega, by omega, rfl⟩)))) | exact Or.inr (Or.inr (Or.inr (Or.inr (⟨by omega, by omega, rfl⟩)))) | (exfalso; omega)
      · refine s_if_eq (pc := 26) 32 dX9_get_26 rfl (by omega) (fun h26 => ?_) (fun h26 => ?_)
        · refine s_aload_0 (pc := 32) dX9_get_32 ?_
          refine gfX9_16 (pc := 33) dX9_get_33 rfl ?_
          refine s_bipush (pc := 36) (z := 60) dX9_get_36 rfl ?_
          refine s_iload_1 (pc := 38) dX9_get_38 ?_
          refine s_imul (pc := 39) dX9_get_39 ?_
          refine s_iload_3 (pc := 40) dX9_get_40 ?_
          refine s_iadd (pc := 41) dX9_get_41 ?_
          refine z_iaload (pc := 42) dX9_get_42 ly_41 (by omega) (by omega) ?_
          refine s_ireturn (pc := 43) dX9_get_43 rfl ?_
          first | exact Or.inl (⟨by omega, by omega, rfl⟩) | exact Or.inr (Or.inl (⟨by omega, by omega, rfl⟩)) | exact Or.inr (Or.inr (Or.inl (⟨by omega, by omega, rfl⟩))) | exact Or.inr (Or.inr (Or.inr (Or.inl (⟨by omega, by omega, rfl⟩)))) | exact Or.inr (Or.inr (Or.inr (Or.inr (⟨by omega, by omega, rfl⟩)))) | (exfalso; omega)
        · exact absurd h26 (by decide)
      · refine s_if_eq (pc := 26) 32 dX9_get_26 rfl (by omega) (fun h26 => ?_) (fun h26 => ?_)
        · exact absurd h26 (by decide)
        · refine s_ldc (pc := 29) dX9_get_29 rfl cnX9_117 ?_
          refine s_ireturn (pc := 31) dX9_get_31 rfl ?_
          first | exact Or.inl (⟨by omega, by omega, rfl⟩) | exact Or.inr (Or.inl (⟨by omega, by omega, rfl⟩)) | exact Or.inr (Or.inr (Or.inl (⟨by omega, by omega, rfl⟩))) | exact Or.inr (Or.inr (Or.inr (Or.inl (⟨by omega, by omega, rfl⟩)))) | exact Or.inr (Or.inr (Or.inr (Or.inr (⟨by omega, by omega, rfl⟩)))) | (exfalso; omega)
theorem lp_X9_copy2 {s i t j n : Int} {μ : Mem} (hg : 0 ≤ s ∧ s ≤ 3 ∧ 0 ≤ t ∧ t ≤ 3 ∧ 0 ≤ μ 39 s ∧ μ 39 s = μ 39 t ∧ 0 ≤ i ∧ 0 ≤ j ∧ 0 ≤ n ∧ i + n ≤ μ 40 s ∧ j + n ≤ μ 40 t) (hz : μ 40 s ≤ 60 ∧ μ 40 t ≤ 60) : ∀ (f : Nat) (a : Int), (0 ≤ a) → (a ≤ n) → n - a < (f : Int) → AW kX9_copy 157 [some (.inr (.inr 9)), some (.inl s), some (.inl i), some (.inl t), some (.inl j), some (.inl n), some (.inl a)] [] (wa (wa μ 42 (fun k => if 0 ≤ k ∧ k < n then μ 41 (60 * s + i + k) else μ 42 k)) 41 (cpy (μ 41) (μ 41) (60 * s + i) (60 * t + j) a)) (pI (fun z ν => ((s < 0 ∨ 3 < s ∨ t < 0 ∨ 3 < t) ∧ -2 = z ∧ μ = ν) ∨ ((0 ≤ s ∧ s ≤ 3 ∧ 0 ≤ t ∧ t ≤ 3 ∧ (μ 39 s < 0 ∨ μ 39 t < 0)) ∧ -11 = z ∧ wr μ 121 0 1 = ν) ∨ ((0 ≤ s ∧ s ≤ 3 ∧ 0 ≤ t ∧ t ≤ 3 ∧ 0 ≤ μ 39 s ∧ 0 ≤ μ 39 t ∧ μ 39 s ≠ μ 39 t) ∧ -14 = z ∧ wr μ 121 0 4 = ν) ∨ ((0 ≤ s ∧ s ≤ 3 ∧ 0 ≤ t ∧ t ≤ 3 ∧ 0 ≤ μ 39 s ∧ μ 39 s = μ 39 t ∧ (i < 0 ∨ j < 0 ∨ n < 0 ∨ μ 40 s < i + n ∨ μ 40 t < j + n)) ∧ -12 = z ∧ wr μ 121 0 2 = ν) ∨ ((0 ≤ s ∧ s ≤ 3 ∧ 0 ≤ t ∧ t ≤ 3 ∧ 0 ≤ μ 39 s ∧ μ 39 s = μ 39 t ∧ 0 ≤ i ∧ 0 ≤ j ∧ 0 ≤ n ∧ i + n ≤ μ 40 s ∧ j + n ≤ μ 40 t) ∧ 1 = z ∧ wa (wa μ 42 (fun k => if 0 ≤ k ∧ k < n then μ 41 (60 * s + i + k) else μ 42 k)) 41 (cpy (μ 41) (μ 41) (60 * s + i) (60 * t + j) n) = ν))) := by
  intro f
  induction f with
  | zero =>
    intro a h0 h1 hm
    exfalso; omega
  | succ f ih =>
    intro a h0 h1 hm
    refine s_iload_6 (pc := 157) dX9_copy_157 ?_
    refine s_iload_5 (pc := 159) dX9_copy_159 ?_
    refine s_icmp_ge (pc := 161) 192 dX9_copy_161 rfl (by omega) (by omega) (fun h161 => ?_) (fun h161 => ?_)
    · refine s_iconst_1 (pc := 192) dX9_copy_192 ?_
      refine s_ireturn (pc := 193) dX9_copy_193 rfl ?_
      cases (show a = n by omega)
      first | exact Or.inl (⟨by omega, by omega, rfl⟩) | exact Or.inr (Or.inl (⟨by omega, by omega, rfl⟩)) | exact Or.inr (Or.inr (Or.inl (⟨by omega, by omega, rfl⟩))) | exact Or.inr (Or.inr (Or.inr (Or.inl (⟨by omega, by omega, rfl⟩)))) | exact Or.inr (Or.inr (Or.inr (Or.inr (⟨by omega, by omega, rfl⟩)))) | (exfalso; omega)
    · refine s_aload_0 (pc := 164) dX9_copy_164 ?_
      refine gfX9_16 (pc := 165) dX9_copy_165 rfl ?_
      refine s_bipush (pc := 168) (z := 60) dX9_copy_168 rfl ?_
      refine s_iload_3 (pc := 170) dX9_copy_170 ?_
      refine s_imul (pc := 171) dX9_copy_171 ?_
      refine s_iload_4 (pc := 172) dX9_copy_172 ?_
      refine s_iadd (pc := 174) dX9_copy_174 ?_
      refine s_iload_6 (pc := 175) dX9_copy_175 ?_
      refine s_iadd (pc := 177) dX9_copy_177 ?_
      refine s_aload_0 (pc := 178) dX9_copy_178 ?_
      refine gfX9_19 (pc := 179) dX9_copy_179 rfl ?_
      refine s_iload_6 (pc := 182) dX9_copy_182 ?_
      refine z_iaload (pc := 184) dX9_copy_184 ly_42 (by omega) (by omega) ?_
      refine z_iastore (pc := 185) dX9_copy_185 ly_41 ip_41 (by omega) (by omega) ?_
      refine s_iinc_6 (pc := 186) dX9_copy_186 (Nat.le_of_ble_eq_true rfl) rfl ?_
      refine s_goto (pc := 189) 157 dX9_copy_189 rfl ?_
      refine s_mem ?_ (ih (a + 1) (by omega) (by omega) (by omega))
      rw [wr_wa, wa_n (by decide), wa_s, if_pos (by omega)]
      refine wa_ext fun k => ?_
      unfold cpy
      by_cases hj : k = 60 * t + j + a
      · rw [if_pos hj, if_pos (by omega)]
        congr 1
        omega
      · rw [if_neg hj]
        by_cases hj2 : 60 * t + j ≤ k ∧ k < 60 * t + j + a
        · rw [if_pos hj2, if_pos (by omega)]
        · rw [if_neg hj2, if_neg (by omega)]
theorem lp_X9_copy1 {s i t j n : Int} {μ : Mem} (hg : 0 ≤ s ∧ s ≤ 3 ∧ 0 ≤ t ∧ t ≤ 3 ∧ 0 ≤ μ 39 s ∧ μ 39 s = μ 39 t ∧ 0 ≤ i ∧ 0 ≤ j ∧ 0 ≤ n ∧ i + n ≤ μ 40 s ∧ j + n ≤ μ 40 t) (hz : μ 40 s ≤ 60 ∧ μ 40 t ≤ 60) : ∀ (f : Nat) (a : Int), (0 ≤ a) → (a ≤ n) → n - a < (f : Int) → AW kX9_copy 120 [some (.inr (.inr 9)), some (.inl s), some (.inl i), some (.inl t), some (.inl j), some (.inl n), some (.inl a)] [] (wa μ 42 (fun k => if 0 ≤ k ∧ k < a then μ 41 (60 * s + i + k) else μ 42 k)) (pI (fun z ν => ((s < 0 ∨ 3 < s ∨ t < 0 ∨ 3 < t) ∧ -2 = z ∧ μ = ν) ∨ ((0 ≤ s ∧ s ≤ 3 ∧ 0 ≤ t ∧ t ≤ 3 ∧ (μ 39 s < 0 ∨ μ 39 t < 0)) ∧ -11 = z ∧ wr μ 121 0 1 = ν) ∨ ((0 ≤ s ∧ s ≤ 3 ∧ 0 ≤ t ∧ t ≤ 3 ∧ 0 ≤ μ 39 s ∧ 0 ≤ μ 39 t ∧ μ 39 s ≠ μ 39 t) ∧ -14 = z ∧ wr μ 121 0 4 = ν) ∨ ((0 ≤ s ∧ s ≤ 3 ∧ 0 ≤ t ∧ t ≤ 3 ∧ 0 ≤ μ 39 s ∧ μ 39 s = μ 39 t ∧ (i < 0 ∨ j < 0 ∨ n < 0 ∨ μ 40 s < i + n ∨ μ 40 t < j + n)) ∧ -12 = z ∧ wr μ 121 0 2 = ν) ∨ ((0 ≤ s ∧ s ≤ 3 ∧ 0 ≤ t ∧ t ≤ 3 ∧ 0 ≤ μ 39 s ∧ μ 39 s = μ 39 t ∧ 0 ≤ i ∧ 0 ≤ j ∧ 0 ≤ n ∧ i + n ≤ μ 40 s ∧ j + n ≤ μ 40 t) ∧ 1 = z ∧ wa (wa μ 42 (fun k => if 0 ≤ k ∧ k < n then μ 41 (60 * s + i + k) else μ 42 k)) 41 (cpy (μ 41) (μ 41) (60 * s + i) (60 * t + j) n) = ν))) := by
  intro f
  induction f with
  | zero =>
    intro a h0 h1 hm
    exfalso; omega
  | succ f ih =>
    intro a h0 h1 hm
    refine s_iload_6 (pc := 120) dX9_copy_120 ?_
    refine s_iload_5 (pc := 122) dX9_copy_122 ?_
    refine s_icmp_ge (pc := 124) 154 dX9_copy_124 rfl (by omega) (by omega) (fun h124 => ?_) (fun h124 => ?_)
    · refine s_iconst_0 (pc := 154) dX9_copy_154 ?_
      refine s_istore_6 (pc := 155) dX9_copy_155 (Nat.le_of_ble_eq_true rfl) rfl ?_
      cases (show a = n by omega)
      refine s_mem ?_ (lp_X9_copy2 hg hz (n.toNat + 1) 0 (by omega) (by omega) (by omega))
      refine (wa_self fun k => ?_).symm
      rw [wa_n (by decide), cpy, if_neg (by omega)]
    · refine s_aload_0 (pc := 127) dX9_copy_127 ?_
      refine gfX9_19 (pc := 128) dX9_copy_128 rfl ?_
      refine s_iload_6 (pc := 131) dX9_copy_131 ?_
      refine s_aload_0 (pc := 133) dX9_copy_133 ?_
      refine gfX9_16 (pc := 134) dX9_copy_134 rfl ?_
      refine s_bipush (pc := 137) (z := 60) dX9_copy_137 rfl ?_
      refine s_iload_1 (pc := 139) dX9_copy_139 ?_
      refine s_imul (pc := 140) dX9_copy_140 ?_
      refine s_iload_2 (pc := 141) dX9_copy_141 ?_
      refine s_iadd (pc := 142) dX9_copy_142 ?_
      refine s_iload_6 (pc := 143) dX9_copy_143 ?_
      refine s_iadd (pc := 145) dX9_copy_145 ?_
      refine z_iaload (pc := 146) dX9_copy_146 ly_41 (by omega) (by omega) ?_
      refine z_iastore (pc := 147) dX9_copy_147 ly_42 ip_42 (by omega) (by omega) ?_
      refine s_iinc_6 (pc := 148) dX9_copy_148 (Nat.le_of_ble_eq_true rfl) rfl ?_
      refine s_goto (pc := 151) 120 dX9_copy_151 rfl ?_
      refine s_mem ?_ (ih (a + 1) (by omega) (by omega) (by omega))
      rw [wr_wa, wa_n (by decide)]
      refine wa_ext fun k => ?_
      by_cases hj : k = a
      · subst hj
        rw [if_pos rfl, if_pos (by omega)]
      · rw [if_neg hj]
        by_cases hj2 : 0 ≤ k ∧ k < a
        · rw [if_pos hj2, if_pos (by omega)]
        · rw [if_neg hj2, if_neg (by omega)]
theorem c_X9_copy {s i t j n : Int} {μ : Mem} (h_s : -2147483648 ≤ s ∧ s < 2147483648) (h_i : -2147483648 ≤ i ∧ i < 2147483648) (h_t : -2147483648 ≤ t ∧ t < 2147483648) (h_j : -2147483648 ≤ j ∧ j < 2147483648) (h_n : -2147483648 ≤ n ∧ n < 2147483648) (hS : ∀ s : Int, 0 ≤ s → s < 4 → (μ 39 s = -1 ∨ 0 ≤ μ 39 s ∧ μ 39 s ≤ 2) ∧ 0 ≤ μ 40 s ∧ μ 40 s ≤ 60) : Mc kX9_copy [.inr (.inr 9), .inl s, .inl i, .inl t, .inl j, .inl n] μ (pI (fun z ν => ((s < 0 ∨ 3 < s ∨ t < 0 ∨ 3 < t) ∧ -2 = z ∧ μ = ν) ∨ ((0 ≤ s ∧ s ≤ 3 ∧ 0 ≤ t ∧ t ≤ 3 ∧ (μ 39 s < 0 ∨ μ 39 t < 0)) ∧ -11 = z ∧ wr μ 121 0 1 = ν) ∨ ((0 ≤ s ∧ s ≤ 3 ∧ 0 ≤ t ∧ t ≤ 3 ∧ 0 ≤ μ 39 s ∧ 0 ≤ μ 39 t ∧ μ 39 s ≠ μ 39 t) ∧ -14 = z ∧ wr μ 121 0 4 = ν) ∨ ((0 ≤ s ∧ s ≤ 3 ∧ 0 ≤ t ∧ t ≤ 3 ∧ 0 ≤ μ 39 s ∧ μ 39 s = μ 39 t ∧ (i < 0 ∨ j < 0 ∨ n < 0 ∨ μ 40 s < i + n ∨ μ 40 t < j + n)) ∧ -12 = z ∧ wr μ 121 0 2 = ν) ∨ ((0 ≤ s ∧ s ≤ 3 ∧ 0 ≤ t ∧ t ≤ 3 ∧ 0 ≤ μ 39 s ∧ μ 39 s = μ 39 t ∧ 0 ≤ i ∧ 0 ≤ j ∧ 0 ≤ n ∧ i + n ≤ μ 40 s ∧ j + n ≤ μ 40 t) ∧ 1 = z ∧ wa (wa μ 42 (fun k => if 0 ≤ k ∧ k < n then μ 41 (60 * s + i + k) else μ 42 k)) 41 (cpy (μ 41) (μ 41) (60 * s + i) (60 * t + j) n) = ν))) := by
  refine Mc_of (by decide +kernel) (fun _ => Nat.le_of_ble_eq_true rfl) ?_
  show AW kX9_copy 0 [some (.inr (.inr 9)), some (.inl s), some (.inl i), some (.inl t), some (.inl j), some (.inl n), none] [] μ _
  refine s_iload_1 (pc := 0) dX9_copy_0 ?_
  refine cS1i (pc := 1) (Ky := kX9_isSheet) dX9_copy_1 rfl lnX9_99 okX9_isSheet ⟨Nat.le_of_ble_eq_true rfl, Nat.le_of_ble_eq_true rfl⟩ (Nat.le_of_ble_eq_true rfl) (c_X9_isSheet (by omega)) ?_
  rintro _ _ ⟨rfl, rfl⟩
  refine s_if_eq (pc := 4) 14 dX9_copy_4 rfl (by omega) (fun h4 => ?_) (fun h4 => ?_)
  · refine s_bipush (pc := 14) (z := -2) dX9_copy_14 rfl ?_
    refine s_ireturn (pc := 16) dX9_copy_16 rfl ?_
    first | exact Or.inl (⟨by omega, by omega, rfl⟩) | exact Or.inr (Or.inl (⟨by omega, by omega, rfl⟩)) | exact Or.inr (Or.inr (Or.inl (⟨by omega, by omega, rfl⟩))) | exact Or.inr (Or.inr (Or.inr (Or.inl (⟨by omega, by omega, rfl⟩)))) | exact Or.inr (Or.inr (Or.inr (Or.inr (⟨by omega, by omega, rfl⟩)))) | (exfalso; omega)
  · refine s_iload_3 (pc := 7) dX9_copy_7 ?_
    refine cS1i (pc := 8) (Ky := kX9_isSheet) dX9_copy_8 rfl lnX9_99 okX9_isSheet ⟨Nat.le_of_ble_eq_true rfl, Nat.le_of_ble_eq_true rfl⟩ (Nat.le_of_ble_eq_true rfl) (c_X9_isSheet (by omega)) ?_
    rintro _ _ ⟨rfl, rfl⟩
    refine s_if_ne (pc := 11) 17 dX9_copy_11 rfl (by omega) (fun h11 => ?_) (fun h11 => ?_)
    · have hs := hS s (by omega) (by omega)
      have ht := hS t (by omega) (by omega)
      refine s_aload_0 (pc := 17) dX9_copy_17 ?_
      refine gfX9_7 (pc := 18) dX9_copy_18 rfl ?_
      refine s_iload_1 (pc := 21) dX9_copy_21 ?_
      refine z_iaload (pc := 22) dX9_copy_22 ly_39 (by omega) (by omega) ?_
      refine s_if_lt (pc := 23) 35 dX9_copy_23 rfl (by omega) (fun h23 => ?_) (fun h23 => ?_)
      · refine s_aload_0 (pc := 35) dX9_copy_35 ?_
        refine s_iconst_1 (pc := 36) dX9_copy_36 ?_
        refine cV1i (pc := 37) (Ky := kX9_met) dX9_copy_37 rfl lnX9_105 okX9_met ⟨9, TX9, 40, rfl, rfl⟩ ⟨Nat.le_of_ble_eq_true rfl, Nat.le_of_ble_eq_true rfl⟩ (Nat.le_of_ble_eq_true rfl) (c_X9_met (by omega)) ?_
        rintro _ _ ⟨rfl, rfl⟩
        refine s_ireturn (pc := 40) dX9_copy_40 rfl ?_
        first | exact Or.inl (⟨by omega, by omega, rfl⟩) | exact Or.inr (Or.inl (⟨by omega, by omega, rfl⟩)) | exact Or.inr (Or.inr (Or.inl (⟨by omega, by omega, rfl⟩))) | exact Or.inr (Or.inr (Or.inr (Or.inl (⟨by omega, by omega, rfl⟩)))) | exact Or.inr (Or.inr (Or.inr (Or.inr (⟨by omega, by omega, rfl⟩)))) | (exfalso; omega)
      · refine s_aload_0 (pc := 26) dX9_copy_26 ?_
        refine gfX9_7 (pc := 27) dX9_copy_27 rfl ?_
        refine s_iload_3 (pc := 30) dX9_copy_30 ?_
        refine z_iaload (pc := 31) dX9_copy_31 ly_39 (by omega) (by omega) ?_
        refine s_if_ge (pc := 32) 41 dX9_copy_32 rfl (by omega) (fun h32 => ?_) (fun h32 => ?_)
        · refine s_aload_0 (pc := 41) dX9_copy_41 ?_
          refine gfX9_7 (pc := 42) dX9_copy_42 rfl ?_
          refine s_iload_1 (pc := 45) dX9_copy_45 ?_
          refine z_iaload (pc := 46) dX9_copy_46 ly_39 (by omega) (by omega) ?_
          refine s_aload_0 (pc := 47) dX9_copy_47 ?_
          refine gfX9_7 (pc := 48) dX9_copy_48 rfl ?_
          refine s_iload_3 (pc := 51) dX9_copy_51 ?_
          refine z_iaload (pc := 52) dX9_copy_52 ly_39 (by omega) (by omega) ?_
          refine s_icmp_eq (pc := 53) 62 dX9_copy_53 rfl (by omega) (by omega) (fun h53 => ?_) (fun h53 => ?_)
          · refine s_iload_2 (pc := 62) dX9_copy_62 ?_
            refine s_if_lt (pc := 63) 111 dX9_copy_63 rfl (by omega) (fun h63 => ?_) (fun h63 => ?_)
            · refine s_aload_0 (pc := 111) dX9_copy_111 ?_
              refine s_iconst_2 (pc := 112) dX9_copy_112 ?_
              refine cV1i (pc := 113) (Ky := kX9_met) dX9_copy_113 rfl lnX9_105 okX9_met ⟨9, TX9, 40, rfl, rfl⟩ ⟨Nat.le_of_ble_eq_true rfl, Nat.le_of_ble_eq_true rfl⟩ (Nat.le_of_ble_eq_true rfl) (c_X9_met (by omega)) ?_
              rintro _ _ ⟨rfl, rfl⟩
              refine s_ireturn (pc := 116) dX9_copy_116 rfl ?_
              first | exact Or.inl (⟨by omega, by omega, rfl⟩) | exact Or.inr (Or.inl (⟨by omega, by omega, rfl⟩)) | exact Or.inr (Or.inr (Or.inl (⟨by omega, by omega, rfl⟩))) | exact Or.inr (Or.inr (Or.inr (Or.inl (⟨by omega, by omega, rfl⟩)))) | exact Or.inr (Or.inr (Or.inr (Or.inr (⟨by omega, by omega, rfl⟩)))) | (exfalso; omega)
            · refine s_iload_4 (pc := 66) dX9_copy_66 ?_
              refine s_if_lt (pc := 68) 111 dX9_copy_68 rfl (by omega) (fun h68 => ?_) (fun h68 => ?_)
              · refine s_aload_0 (pc := 111) dX9_copy_111 ?_
                refine s_iconst_2 (pc := 112) dX9_copy_112 ?_
                refine cV1i (pc := 113) (Ky := kX9_met) dX9_copy_113 rfl lnX9_105 okX9_met ⟨9, TX9, 40, rfl, rfl⟩ ⟨Nat.le_of_ble_eq_true rfl, Nat.le_of_ble_eq_true rfl⟩ (Nat.le_of_ble_eq_true rfl) (c_X9_met (by omega)) ?_
                rintro _ _ ⟨rfl, rfl⟩
                refine s_ireturn (pc := 116) dX9_copy_116 rfl ?_
                first | exact Or.inl (⟨by omega, by omega, rfl⟩) | exact Or.inr (Or.inl (⟨by omega, by omega, rfl⟩)) | exact Or.inr (Or.inr (Or.inl (⟨by omega, by omega, rfl⟩))) | exact Or.inr (Or.inr (Or.inr (Or.inl (⟨by omega, by omega, rfl⟩)))) | exact Or.inr (Or.inr (Or.inr (Or.inr (⟨by omega, by omega, rfl⟩)))) | (exfalso; omega)
              · refine s_iload_5 (pc := 71) dX9_copy_71 ?_
                refine s_if_lt (pc := 73) 111 dX9_copy_73 rfl (by omega) (fun h73 => ?_) (fun h73 => ?_)
                · refine s_aload_0 (pc := 111) dX9_copy_111 ?_
                  refine s_iconst_2 (pc := 112) dX9_copy_112 ?_
                  refine cV1i (pc := 113) (Ky := kX9_met) dX9_copy_113 rfl lnX9_105 okX9_met ⟨9, TX9, 40, rfl, rfl⟩ ⟨Nat.le_of_ble_eq_true rfl, Nat.le_of_ble_eq_true rfl⟩ (Nat.le_of_ble_eq_true rfl) (c_X9_met (by omega)) ?_
                  rintro _ _ ⟨rfl, rfl⟩
                  refine s_ireturn (pc := 116) dX9_copy_116 rfl ?_
                  first | exact Or.inl (⟨by omega, by omega, rfl⟩) | exact Or.inr (Or.inl (⟨by omega, by omega, rfl⟩)) | exact Or.inr (Or.inr (Or.inl (⟨by omega, by omega, rfl⟩))) | exact Or.inr (Or.inr (Or.inr (Or.inl (⟨by omega, by omega, rfl⟩)))) | exact Or.inr (Or.inr (Or.inr (Or.inr (⟨by omega, by omega, rfl⟩)))) | (exfalso; omega)
                · refine s_iload_2 (pc := 76) dX9_copy_76 ?_
                  refine s_i2l (pc := 77) dX9_copy_77 (by omega) ?_
                  refine s_iload_5 (pc := 78) dX9_copy_78 ?_
                  refine s_i2l (pc := 80) dX9_copy_80 (by omega) ?_
                  refine s_ladd (pc := 81) dX9_copy_81 ?_
                  refine s_aload_0 (pc := 82) dX9_copy_82 ?_
                  refine gfX9_13 (pc := 83) dX9_copy_83 rfl ?_
                  refine s_iload_1 (pc := 86) dX9_copy_86 ?_
                  refine z_iaload (pc := 87) dX9_copy_87 ly_40 (by omega) (by omega) ?_
                  refine s_i2l (pc := 88) dX9_copy_88 (by omega) ?_
                  refine s_lif_gt (pc := 89) 111 dX9_copy_89 dX9_copy_90 rfl (by omega) (by omega) (fun h90 => ?_) (fun h90 => ?_)
                  · refine s_aload_0 (pc := 111) dX9_copy_111 ?_
                    refine s_iconst_2 (pc := 112) dX9_copy_112 ?_
                    refine cV1i (pc := 113) (Ky := kX9_met) dX9_copy_113 rfl lnX9_105 okX9_met ⟨9, TX9, 40, rfl, rfl⟩ ⟨Nat.le_of_ble_eq_true rfl, Nat.le_of_ble_eq_true rfl⟩ (Nat.le_of_ble_eq_true rfl) (c_X9_met (by omega)) ?_
                    rintro _ _ ⟨rfl, rfl⟩
                    refine s_ireturn (pc := 116) dX9_copy_116 rfl ?_
                    first | exact Or.inl (⟨by omega, by omega, rfl⟩) | exact Or.inr (Or.inl (⟨by omega, by omega, rfl⟩)) | exact Or.inr (Or.inr (Or.inl (⟨by omega, by omega, rfl⟩))) | exact Or.inr (Or.inr (Or.inr (Or.inl (⟨by omega, by omega, rfl⟩)))) | exact Or.inr (Or.inr (Or.inr (Or.inr (⟨by omega, by omega, rfl⟩)))) | (exfalso; omega)
                  · refine s_iload_4 (pc := 93) dX9_copy_93 ?_
                    refine s_i2l (pc := 95) dX9_copy_95 (by omega) ?_
                    refine s_iload_5 (pc := 96) dX9_copy_96 ?_
                    refine s_i2l (pc := 98) dX9_copy_98 (by omega) ?_
                    refine s_ladd (pc := 99) dX9_copy_99 ?_
                    refine s_aload_0 (pc := 100) dX9_copy_100 ?_
                    refine gfX9_13 (pc := 101) dX9_copy_101 rfl ?_
                    refine s_iload_3 (pc := 104) dX9_copy_104 ?_
                    refine z_iaload (pc := 105) dX9_copy_105 ly_40 (by omega) (by omega) ?_
                    refine s_i2l (pc := 106) dX9_copy_106 (by omega) ?_
                    refine s_lif_le (pc := 107) 117 dX9_copy_107 dX9_copy_108 rfl (by omega) (by omega) (fun h108 => ?_) (fun h108 => ?_)
                    · refine s_iconst_0 (pc := 117) dX9_copy_117 ?_
                      refine s_istore_6 (pc := 118) dX9_copy_118 (Nat.le_of_ble_eq_true rfl) rfl ?_
                      refine s_mem ?_ (lp_X9_copy1 (by omega) (by omega) (n.toNat + 1) 0 (by omega) (by omega) (by omega))
                      refine (wa_self fun k => ?_).symm
                      rw [if_neg (by omega)]
                    · refine s_aload_0 (pc := 111) dX9_copy_111 ?_
                      refine s_iconst_2 (pc := 112) dX9_copy_112 ?_
                      refine cV1i (pc := 113) (Ky := kX9_met) dX9_copy_113 rfl lnX9_105 okX9_met ⟨9, TX9, 40, rfl, rfl⟩ ⟨Nat.le_of_ble_eq_true rfl, Nat.le_of_ble_eq_true rfl⟩ (Nat.le_of_ble_eq_true rfl) (c_X9_met (by omega)) ?_
                      rintro _ _ ⟨rfl, rfl⟩
                      refine s_ireturn (pc := 116) dX9_copy_116 rfl ?_
                      first | exact Or.inl (⟨by omega, by omega, rfl⟩) | exact Or.inr (Or.inl (⟨by omega, by omega, rfl⟩)) | exact Or.inr (Or.inr (Or.inl (⟨by omega, by omega, rfl⟩))) | exact Or.inr (Or.inr (Or.inr (Or.inl (⟨by omega, by omega, rfl⟩)))) | exact Or.inr (Or.inr (Or.inr (Or.inr (⟨by omega, by omega, rfl⟩)))) | (exfalso; omega)
          · refine s_aload_0 (pc := 56) dX9_copy_56 ?_
            refine s_iconst_4 (pc := 57) dX9_copy_57 ?_
            refine cV1i (pc := 58) (Ky := kX9_met) dX9_copy_58 rfl lnX9_105 okX9_met ⟨9, TX9, 40, rfl, rfl⟩ ⟨Nat.le_of_ble_eq_true rfl, Nat.le_of_ble_eq_true rfl⟩ (Nat.le_of_ble_eq_true rfl) (c_X9_met (by omega)) ?_
            rintro _ _ ⟨rfl, rfl⟩
            refine s_ireturn (pc := 61) dX9_copy_61 rfl ?_
            first | exact Or.inl (⟨by omega, by omega, rfl⟩) | exact Or.inr (Or.inl (⟨by omega, by omega, rfl⟩)) | exact Or.inr (Or.inr (Or.inl (⟨by omega, by omega, rfl⟩))) | exact Or.inr (Or.inr (Or.inr (Or.inl (⟨by omega, by omega, rfl⟩)))) | exact Or.inr (Or.inr (Or.inr (Or.inr (⟨by omega, by omega, rfl⟩)))) | (exfalso; omega)
        · refine s_aload_0 (pc := 35) dX9_copy_35 ?_
          refine s_iconst_1 (pc := 36) dX9_copy_36 ?_
          refine cV1i (pc := 37) (Ky := kX9_met) dX9_copy_37 rfl lnX9_105 okX9_met ⟨9, TX9, 40, rfl, rfl⟩ ⟨Nat.le_of_ble_eq_true rfl, Nat.le_of_ble_eq_true rfl⟩ (Nat.le_of_ble_eq_true rfl) (c_X9_met (by omega)) ?_
          rintro _ _ ⟨rfl, rfl⟩
          refine s_ireturn (pc := 40) dX9_copy_40 rfl ?_
          first | exact Or.inl (⟨by omega, by omega, rfl⟩) | exact Or.inr (Or.inl (⟨by omega, by omega, rfl⟩)) | exact Or.inr (Or.inr (Or.inl (⟨by omega, by omega, rfl⟩))) | exact Or.inr (Or.inr (Or.inr (Or.inl (⟨by omega, by omega, rfl⟩)))) | exact Or.inr (Or.inr (Or.inr (Or.inr (⟨by omega, by omega, rfl⟩)))) | (exfalso; omega)
    · refine s_bipush (pc := 14) (z := -2) dX9_copy_14 rfl ?_
      refine s_ireturn (pc := 16) dX9_copy_16 rfl ?_
      first | exact Or.inl (⟨by omega, by omega, rfl⟩) | exact Or.inr (Or.inl (⟨by omega, by omega, rfl⟩)) | exact Or.inr (Or.inr (Or.inl (⟨by omega, by omega, rfl⟩))) | exact Or.inr (Or.inr (Or.inr (Or.inl (⟨by omega, by omega, rfl⟩)))) | exact Or.inr (Or.inr (Or.inr (Or.inr (⟨by omega, by omega, rfl⟩)))) | (exfalso; omega)
