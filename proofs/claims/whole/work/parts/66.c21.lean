theorem c_X8_saw {κ : Mem} {a b c d e : Int} {μ : Mem} (hS : SQ κ μ) (h_a : -2147483648 ≤ a ∧ a < 2147483648) (h_b : -2147483648 ≤ b ∧ b < 2147483648) (h_c : -2147483648 ≤ c ∧ c < 2147483648) (h_d : -2147483648 ≤ d ∧ d < 2147483648) (h_e : -2147483648 ≤ e ∧ e < 2147483648) : Mc kX8_saw [.inr (.inr 0), .inl a, .inl b, .inl c, .inl d, .inl e] μ (pI (fun z ν => (sawF κ a b c d e).2 = z ∧ SQ (sawF κ a b c d e).1 ν ∧ Fr [31, 32, 33, 34, 35, 119] μ ν)) := by
  refine Mc_of (by decide +kernel) (fun _ => Nat.le_of_ble_eq_true rfl) ?_
  show AW kX8_saw 0 [some (.inr (.inr 0)), some (.inl a), some (.inl b), some (.inl c), some (.inl d), some (.inl e)] [] μ _
  have h60 := hS.1.1
  refine s_iload_1 (pc := 0) dX8_saw_0 ?_
  refine s_iconst_3 (pc := 1) dX8_saw_1 ?_
  refine cS2i (pc := 2) (Ky := kX8_within) dX8_saw_2 rfl lnX8_81 okX8_within ⟨Nat.le_of_ble_eq_true rfl, Nat.le_of_ble_eq_true rfl⟩ (Nat.le_of_ble_eq_true rfl) (c_X8_within (by omega) (by omega)) ?_
  rintro _ _ ⟨rfl, rfl⟩
  refine s_if_eq (pc := 5) 27 dX8_saw_5 rfl (by omega) (fun h5 => ?_) (fun h5 => ?_)
  · refine s_bipush (pc := 27) (z := -2) dX8_saw_27 rfl ?_
    refine s_ireturn (pc := 29) dX8_saw_29 rfl ?_
    first
      | (have _ := hnf
         exact ⟨by rw [sawF, if_pos (by omega), if_neg hnf], hS41, hF41⟩)
      | (have _ := hfu
         exact ⟨by rw [sawF, if_pos (by omega), if_pos hfu], hS41, hF41⟩)
      | (refine ⟨by rw [sawF, if_neg (by omega)], ?_, Fr.rf⟩
         rw [sawF, if_neg (by omega)]
         exact hS)
  · refine s_iload_2 (pc := 8) dX8_saw_8 ?_
    refine s_iload_3 (pc := 9) dX8_saw_9 ?_
    refine s_iload_5 (pc := 10) dX8_saw_10 ?_
    refine cS3i (pc := 12) (Ky := kX8_mayBeSeen) dX8_saw_12 rfl lnX8_231 okX8_mayBeSeen ⟨Nat.le_of_ble_eq_true rfl, Nat.le_of_ble_eq_true rfl⟩ (Nat.le_of_ble_eq_true rfl) (c_X8_mayBeSeen (by omega) (by omega) (by omega)) ?_
    rintro _ _ ⟨rfl, rfl⟩
    refine s_if_eq (pc := 15) 27 dX8_saw_15 rfl (by omega) (fun h15 => ?_) (fun h15 => ?_)
    · refine s_bipush (pc := 27) (z := -2) dX8_saw_27 rfl ?_
      refine s_ireturn (pc := 29) dX8_saw_29 rfl ?_
      first
        | (have _ := hnf
           exact ⟨by rw [sawF, if_pos (by omega), if_neg hnf], hS41, hF41⟩)
        | (have _ := hfu
           exact ⟨by rw [sawF, if_pos (by omega), if_pos hfu], hS41, hF41⟩)
        | (refine ⟨by rw [sawF, if_neg (by omega)], ?_, Fr.rf⟩
           rw [sawF, if_neg (by omega)]
           exact hS)
    · refine s_iload_4 (pc := 18) dX8_saw_18 ?_
      refine s_iconst_1 (pc := 20) dX8_saw_20 ?_
      refine cS2i (pc := 21) (Ky := kX8_within) dX8_saw_21 rfl lnX8_81 okX8_within ⟨Nat.le_of_ble_eq_true rfl, Nat.le_of_ble_eq_true rfl⟩ (Nat.le_of_ble_eq_true rfl) (c_X8_within (by omega) (by omega)) ?_
      rintro _ _ ⟨rfl, rfl⟩
      refine s_if_ne (pc := 24) 30 dX8_saw_24 rfl (by omega) (fun h24 => ?_) (fun h24 => ?_)
      · refine s_aload_0 (pc := 30) dX8_saw_30 ?_
        refine gfX8_70 (pc := 31) dX8_saw_31 rfl ?_
        refine s_iload_1 (pc := 34) dX8_saw_34 ?_
        refine s_iload_2 (pc := 35) dX8_saw_35 ?_
        refine s_iload_3 (pc := 36) dX8_saw_36 ?_
        refine s_iload_4 (pc := 37) dX8_saw_37 ?_
        refine s_iload_5 (pc := 39) dX8_saw_39 ?_
        refine cV5i (pc := 41) (Ky := kX5_add) dX8_saw_41 rfl lnX8_235 okX5_add ⟨5, TX5, 6, rfl, rfl⟩ ⟨Nat.le_of_ble_eq_true rfl, Nat.le_of_ble_eq_true rfl⟩ (Nat.le_of_ble_eq_true rfl) (c_X5_add hS (by omega)) ?_
        rintro _ ν41 ⟨rfl, hS41, hF41⟩
        refine s_if_eq (pc := 44) 57 dX8_saw_44 rfl (by omega) (fun h44 => ?_) (fun h44 => ?_)
        · have hfu : κ 135 0 = 60 := Decidable.byContradiction fun q => by rw [if_neg q] at h44; exact absurd h44 (by decide)
          refine s_bipush (pc := 57) (z := -4) dX8_saw_57 rfl ?_
          refine s_ireturn (pc := 59) dX8_saw_59 rfl ?_
          first
            | (have _ := hnf
               exact ⟨by rw [sawF, if_pos (by omega), if_neg hnf], hS41, hF41⟩)
            | (have _ := hfu
               exact ⟨by rw [sawF, if_pos (by omega), if_pos hfu], hS41, hF41⟩)
            | (refine ⟨by rw [sawF, if_neg (by omega)], ?_, Fr.rf⟩
               rw [sawF, if_neg (by omega)]
               exact hS)
        · have hnf : κ 135 0 ≠ 60 := fun q => by rw [if_pos q] at h44; exact h44 rfl
          have h119 := hS41.2.1
          rw [sawF, if_pos (by omega), if_neg hnf] at h119
          have hv : (sawM κ a b c d e) 135 0 = κ 135 0 + 1 := by unfold sawM; rw [wr_s, if_pos rfl]
          dsimp only at h119
          rw [hv] at h119
          refine s_aload_0 (pc := 47) dX8_saw_47 ?_
          refine gfX8_70 (pc := 48) dX8_saw_48 rfl ?_
          refine gfX8_239 (pc := 51) dX8_saw_51 rfl ?_
          try rw [h119]
          refine s_goto (pc := 54) 59 dX8_saw_54 rfl ?_
          refine s_ireturn (pc := 59) dX8_saw_59 rfl ?_
          first
            | (have _ := hnf
               exact ⟨by rw [sawF, if_pos (by omega), if_neg hnf], hS41, hF41⟩)
            | (have _ := hfu
               exact ⟨by rw [sawF, if_pos (by omega), if_pos hfu], hS41, hF41⟩)
            | (refine ⟨by rw [sawF, if_neg (by omega)], ?_, Fr.rf⟩
               rw [sawF, if_neg (by omega)]
               exact hS)
      · refine s_bipush (pc := 27) (z := -2) dX8_saw_27 rfl ?_
        refine s_ireturn (pc := 29) dX8_saw_29 rfl ?_
        first
          | (have _ := hnf
             exact ⟨by rw [sawF, if_pos (by omega), if_neg hnf], hS41, hF41⟩)
          | (have _ := hfu
             exact ⟨by rw [sawF, if_pos (by omega), if_pos hfu], hS41, hF41⟩)
          | (refine ⟨by rw [sawF, if_neg (by omega)], ?_, Fr.rf⟩
             rw [sawF, if_neg (by omega)]
             exact hS)
theorem c_X8_off {κ : Mem} {a t : Int} {μ : Mem} (hS : SQ κ μ) (h_a : -2147483648 ≤ a ∧ a < 2147483648) (h_t : -2147483648 ≤ t ∧ t < 2147483648) : Mc kX8_off [.inr (.inr 0), .inl a, .inl t] μ (pI (fun z ν => (if (0 ≤ a ∧ a ≤ 3) ∧ (0 ≤ t ∧ t ≤ 9) then ofs κ a t else -2) = z ∧ μ = ν)) := by
  refine Mc_of (by decide +kernel) (fun _ => Nat.le_of_ble_eq_true rfl) ?_
  show AW kX8_off 0 [some (.inr (.inr 0)), some (.inl a), some (.inl t)] [] μ _
  refine s_iload_1 (pc := 0) dX8_off_0 ?_
  refine s_iconst_3 (pc := 1) dX8_off_1 ?_
  refine cS2i (pc := 2) (Ky := kX8_within) dX8_off_2 rfl lnX8_81 okX8_within ⟨Nat.le_of_ble_eq_true rfl, Nat.le_of_ble_eq_true rfl⟩ (Nat.le_of_ble_eq_true rfl) (c_X8_within (by omega) (by omega)) ?_
  rintro _ _ ⟨rfl, rfl⟩
  refine s_if_eq (pc := 5) 17 dX8_off_5 rfl (by omega) (fun h5 => ?_) (fun h5 => ?_)
  · refine s_bipush (pc := 17) (z := -2) dX8_off_17 rfl ?_
    refine s_ireturn (pc := 19) dX8_off_19 rfl ?_
    first | exact ⟨by rw [if_neg (by omega)], rfl⟩ | exact ⟨by rw [if_pos (by omega)], rfl⟩
  · refine s_iload_2 (pc := 8) dX8_off_8 ?_
    refine s_bipush (pc := 9) (z := 9) dX8_off_9 rfl ?_
    refine cS2i (pc := 11) (Ky := kX8_within) dX8_off_11 rfl lnX8_81 okX8_within ⟨Nat.le_of_ble_eq_true rfl, Nat.le_of_ble_eq_true rfl⟩ (Nat.le_of_ble_eq_true rfl) (c_X8_within (by omega) (by omega)) ?_
    rintro _ _ ⟨rfl, rfl⟩
    refine s_if_ne (pc := 14) 20 dX8_off_14 rfl (by omega) (fun h14 => ?_) (fun h14 => ?_)
    · refine s_aload_0 (pc := 20) dX8_off_20 ?_
      refine gfX8_70 (pc := 21) dX8_off_21 rfl ?_
      refine s_iload_1 (pc := 24) dX8_off_24 ?_
      refine s_iload_2 (pc := 25) dX8_off_25 ?_
      refine cV2i (pc := 26) (Ky := kX5_offBy) dX8_off_26 rfl lnX8_257 okX5_offBy ⟨5, TX5, 6, rfl, rfl⟩ ⟨Nat.le_of_ble_eq_true rfl, Nat.le_of_ble_eq_true rfl⟩ (Nat.le_of_ble_eq_true rfl) (c_X5_offBy hS (by omega) (by omega)) ?_
      rintro _ _ ⟨rfl, rfl⟩
      refine s_ireturn (pc := 29) dX8_off_29 rfl ?_
      first | exact ⟨by rw [if_neg (by omega)], rfl⟩ | exact ⟨by rw [if_pos (by omega)], rfl⟩
    · refine s_bipush (pc := 17) (z := -2) dX8_off_17 rfl ?_
      refine s_ireturn (pc := 19) dX8_off_19 rfl ?_
      first | exact ⟨by rw [if_neg (by omega)], rfl⟩ | exact ⟨by rw [if_pos (by omega)], rfl⟩
theorem c_X8_guess {κ : Mem} {a : Int} {μ : Mem} (hS : SQ κ μ) (h_a : -2147483648 ≤ a ∧ a < 2147483648) : Mc kX8_guess [.inr (.inr 0), .inl a] μ (pI (fun z ν => (if 0 ≤ a ∧ a ≤ 3 then gss κ a else -2) = z ∧ μ = ν)) := by
  refine Mc_of (by decide +kernel) (fun _ => Nat.le_of_ble_eq_true rfl) ?_
  show AW kX8_guess 0 [some (.inr (.inr 0)), some (.inl a)] [] μ _
  refine s_iload_1 (pc := 0) dX8_guess_0 ?_
  refine s_iconst_3 (pc := 1) dX8_guess_1 ?_
  refine cS2i (pc := 2) (Ky := kX8_within) dX8_guess_2 rfl lnX8_81 okX8_within ⟨Nat.le_of_ble_eq_true rfl, Nat.le_of_ble_eq_true rfl⟩ (Nat.le_of_ble_eq_true rfl) (c_X8_within (by omega) (by omega)) ?_
  rintro _ _ ⟨rfl, rfl⟩
  refine s_if_ne (pc := 5) 11 dX8_guess_5 rfl (by omega) (fun h5 => ?_) (fun h5 => ?_)
  · refine s_aload_0 (pc := 11) dX8_guess_11 ?_
    refine gfX8_70 (pc := 12) dX8_guess_12 rfl ?_
    refine s_iload_1 (pc := 15) dX8_guess_15 ?_
    refine cV1i (pc := 16) (Ky := kX5_likeliest) dX8_guess_16 rfl lnX8_260 okX5_likeliest ⟨5, TX5, 6, rfl, rfl⟩ ⟨Nat.le_of_ble_eq_true rfl, Nat.le_of_ble_eq_true rfl⟩ (Nat.le_of_ble_eq_true rfl) (c_X5_likeliest hS (by omega)) ?_
    rintro _ _ ⟨rfl, rfl⟩
    refine s_ireturn (pc := 19) dX8_guess_19 rfl ?_
    first | exact ⟨by rw [if_neg (by omega)], rfl⟩ | exact ⟨by rw [if_pos (by omega)], rfl⟩
  · refine s_bipush (pc := 8) (z := -2) dX8_guess_8 rfl ?_
    refine s_ireturn (pc := 10) dX8_guess_10 rfl ?_
    first | exact ⟨by rw [if_neg (by omega)], rfl⟩ | exact ⟨by rw [if_pos (by omega)], rfl⟩
theorem c_X8_laughs {κ : Mem} {a b w : Int} {μ : Mem} (hS : SQ κ μ) (h_a : -2147483648 ≤ a ∧ a < 2147483648) (h_b : -2147483648 ≤ b ∧ b < 2147483648) (h_w : -2147483648 ≤ w ∧ w < 2147483648) : Mc kX8_laughs [.inr (.inr 0), .inl a, .inl b, .inl w] μ (pI (fun z ν => (if (0 ≤ a ∧ a ≤ 3) ∧ (0 ≤ b ∧ b ≤ 9) ∧ (0 ≤ w ∧ w ≤ 1) then sm (lhF κ a b w) (κ 135 0).toNat else -2) = z ∧ μ = ν)) := by
  refine Mc_of (by decide +kernel) (fun _ => Nat.le_of_ble_eq_true rfl) ?_
  show AW kX8_laughs 0 [some (.inr (.inr 0)), some (.inl a), some (.inl b), some (.inl w)] [] μ _
  refine s_iload_1 (pc := 0) dX8_laughs_0 ?_
  refine s_iconst_3 (pc := 1) dX8_laughs_1 ?_
  refine cS2i (pc := 2) (Ky := kX8_within) dX8_laughs_2 rfl lnX8_81 okX8_within ⟨Nat.le_of_ble_eq_true rfl, Nat.le_of_ble_eq_true rfl⟩ (Nat.le_of_ble_eq_true rfl) (c_X8_within (by omega) (by omega)) ?_
  rintro _ _ ⟨rfl, rfl⟩
  refine s_if_eq (pc := 5) 24 dX8_laughs_5 rfl (by omega) (fun h5 => ?_) (fun h5 => ?_)
  · refine s_bipush (pc := 24) (z := -2) dX8_laughs_24 rfl ?_
    refine s_ireturn (pc := 26) dX8_laughs_26 rfl ?_
    first | exact ⟨by rw [if_neg (by omega)], rfl⟩ | exact ⟨by rw [if_pos (by omega)], rfl⟩
  · refine s_iload_2 (pc := 8) dX8_laughs_8 ?_
    refine s_bipush (pc := 9) (z := 9) dX8_laughs_9 rfl ?_
    refine cS2i (pc := 11) (Ky := kX8_within) dX8_laughs_11 rfl lnX8_81 okX8_within ⟨Nat.le_of_ble_eq_true rfl, Nat.le_of_ble_eq_true rfl⟩ (Nat.le_of_ble_eq_true rfl) (c_X8_within (by omega) (by omega)) ?_
    rintro _ _ ⟨rfl, rfl⟩
    refine s_if_eq (pc := 14) 24 dX8_laughs_14 rfl (by omega) (fun h14 => ?_) (fun h14 => ?_)
    · refine s_bipush (pc := 24) (z := -2) dX8_laughs_24 rfl ?_
      refine s_ireturn (pc := 26) dX8_laughs_26 rfl ?_
      first | exact ⟨by rw [if_neg (by omega)], rfl⟩ | exact ⟨by rw [if_pos (by omega)], rfl⟩
    · refine s_iload_3 (pc := 17) dX8_laughs_17 ?_
      refine cS1i (pc := 18) (Ky := kX8_isPart) dX8_laughs_18 rfl lnX8_124 okX8_isPart ⟨Nat.le_of_ble_eq_true rfl, Nat.le_of_ble_eq_true rfl⟩ (Nat.le_of_ble_eq_true rfl) (c_X8_isPart (by omega)) ?_
      rintro _ _ ⟨rfl, rfl⟩
      refine s_if_ne (pc := 21) 27 dX8_laughs_21 rfl (by omega) (fun h21 => ?_) (fun h21 => ?_)
      · refine s_aload_0 (pc := 27) dX8_laughs_27 ?_
        refine gfX8_70 (pc := 28) dX8_laughs_28 rfl ?_
        refine s_iload_1 (pc := 31) dX8_laughs_31 ?_
        refine s_iload_2 (pc := 32) dX8_laughs_32 ?_
        refine s_iload_3 (pc := 33) dX8_laughs_33 ?_
        refine s_iconst_1 (pc := 34) dX8_laughs_34 ?_
        refine s_icmp_ne (pc := 35) 42 dX8_laughs_35 rfl (by omega) (by omega) (fun h35 => ?_) (fun h35 => ?_)
        · refine s_iconst_0 (pc := 42) dX8_laughs_42 ?_
          refine s_valI (y := w) (by omega) ?_
          refine cV3i (pc := 43) (Ky := kX5_howMany) dX8_laughs_43 rfl lnX8_263 okX5_howMany ⟨5, TX5, 6, rfl, rfl⟩ ⟨Nat.le_of_ble_eq_true rfl, Nat.le_of_ble_eq_true rfl⟩ (Nat.le_of_ble_eq_true rfl) (c_X5_howMany hS (by omega) (by omega) (by omega)) ?_
          rintro _ _ ⟨rfl, rfl⟩
          refine s_ireturn (pc := 46) dX8_laughs_46 rfl ?_
          first | exact ⟨by rw [if_neg (by omega)], rfl⟩ | exact ⟨by rw [if_pos (by omega)], rfl⟩
        · refine s_iconst_1 (pc := 38) dX8_laughs_38 ?_
          refine s_goto (pc := 39) 43 dX8_laughs_39 rfl ?_
          refine s_valI (y := w) (by omega) ?_
          refine cV3i (pc := 43) (Ky := kX5_howMany) dX8_laughs_43 rfl lnX8_263 okX5_howMany ⟨5, TX5, 6, rfl, rfl⟩ ⟨Nat.le_of_ble_eq_true rfl, Nat.le_of_ble_eq_true rfl⟩ (Nat.le_of_ble_eq_true rfl) (c_X5_howMany hS (by omega) (by omega) (by omega)) ?_
          rintro _ _ ⟨rfl, rfl⟩
          refine s_ireturn (pc := 46) dX8_laughs_46 rfl ?_
          first | exact ⟨by rw [if_neg (by omega)], rfl⟩ | exact ⟨by rw [if_pos (by omega)], rfl⟩
      · refine s_bipush (pc := 24) (z := -2) dX8_laughs_24 rfl ?_
        refine s_ireturn (pc := 26) dX8_laughs_26 rfl ?_
        first | exact ⟨by rw [if_neg (by omega)], rfl⟩ | exact ⟨by rw [if_pos (by omega)], rfl⟩
theorem c_X8_sheet {s form n : Int} {μ : Mem} (h_s : -2147483648 ≤ s ∧ s < 2147483648) (h_form : -2147483648 ≤ form ∧ form < 2147483648) (h_n : -2147483648 ≤ n ∧ n < 2147483648) : Mc kX8_sheet [.inr (.inr 0), .inl s, .inl form, .inl n] μ (pI (fun z ν => ((s < 0 ∨ 3 < s ∨ form < 0 ∨ 2 < form ∨ 60 < n) ∧ -2 = z ∧ μ = ν) ∨ ((0 ≤ s ∧ s ≤ 3 ∧ 0 ≤ form ∧ form ≤ 2 ∧ n < 0) ∧ -15 = z ∧ wr μ 120 0 5 = ν) ∨ ((0 ≤ s ∧ s ≤ 3 ∧ 0 ≤ form ∧ form ≤ 2 ∧ 0 ≤ n ∧ n ≤ 60) ∧ n = z ∧ wa (wr (wr μ 37 s form) 36 s n) 38 (fun k => if 60 * s ≤ k ∧ k < 60 * s + 60 then 0 else μ 38 k) = ν))) := by
  refine Mc_of (by decide +kernel) (fun _ => Nat.le_of_ble_eq_true rfl) ?_
  show AW kX8_sheet 0 [some (.inr (.inr 0)), some (.inl s), some (.inl form), some (.inl n)] [] μ _
  refine s_iload_1 (pc := 0) dX8_sheet_0 ?_
  refine cS1i (pc := 1) (Ky := kX8_isSheet) dX8_sheet_1 rfl lnX8_242 okX8_isSheet ⟨Nat.le_of_ble_eq_true rfl, Nat.le_of_ble_eq_true rfl⟩ (Nat.le_of_ble_eq_true rfl) (c_X8_isSheet (by omega)) ?_
  rintro _ _ ⟨rfl, rfl⟩
  refine s_if_eq (pc := 4) 20 dX8_sheet_4 rfl (by omega) (fun h4 => ?_) (fun h4 => ?_)
  · refine s_bipush (pc := 20) (z := -2) dX8_sheet_20 rfl ?_
    refine s_ireturn (pc := 22) dX8_sheet_22 rfl ?_
    first | exact Or.inl (⟨by omega, by omega, rfl⟩) | exact Or.inr (Or.inl (⟨by omega, by omega, rfl⟩)) | exact Or.inr (Or.inr (⟨by omega, by omega, rfl⟩)) | (exfalso; omega)
  · refine s_iload_2 (pc := 7) dX8_sheet_7 ?_
    refine cS1i (pc := 8) (Ky := kX8_isForm) dX8_sheet_8 rfl lnX8_267 okX8_isForm ⟨Nat.le_of_ble_eq_true rfl, Nat.le_of_ble_eq_true rfl⟩ (Nat.le_of_ble_eq_true rfl) (c_X8_isForm (by omega)) ?_
    rintro _ _ ⟨rfl, rfl⟩
    refine s_if_eq (pc := 11) 20 dX8_sheet_11 rfl (by omega) (fun h11 => ?_) (fun h11 => ?_)
    · refine s_bipush (pc := 20) (z := -2) dX8_sheet_20 rfl ?_
      refine s_ireturn (pc := 22) dX8_sheet_22 rfl ?_
      first | exact Or.inl (⟨by omega, by omega, rfl⟩) | exact Or.inr (Or.inl (⟨by omega, by omega, rfl⟩)) | exact Or.inr (Or.inr (⟨by omega, by omega, rfl⟩)) | (exfalso; omega)
    · refine s_iload_3 (pc := 14) dX8_sheet_14 ?_
      refine s_bipush (pc := 15) (z := 60) dX8_sheet_15 rfl ?_
      refine s_icmp_le (pc := 17) 23 dX8_sheet_17 rfl (by omega) (by omega) (fun h17 => ?_) (fun h17 => ?_)
      · refine s_iload_3 (pc := 23) dX8_sheet_23 ?_
        refine s_if_ge (pc := 24) 36 dX8_sheet_24 rfl (by omega) (fun h24 => ?_) (fun h24 => ?_)
        · refine s_aload_0 (pc := 36) dX8_sheet_36 ?_
          refine gfX8_77 (pc := 37) dX8_sheet_37 rfl ?_
          refine s_iload_1 (pc := 40) dX8_sheet_40 ?_
          refine s_iload_2 (pc := 41) dX8_sheet_41 ?_
          refine s_iload_3 (pc := 42) dX8_sheet_42 ?_
          refine cV3v (pc := 43) (Ky := kX7_renew) dX8_sheet_43 rfl lnX8_270 okX7_renew ⟨7, TX7, 4, rfl, rfl⟩ ⟨Nat.le_of_ble_eq_true rfl, Nat.le_of_ble_eq_true rfl⟩ (Nat.le_of_ble_eq_true rfl) (c_X7_renew (by omega)) ?_
          rintro _ rfl
          refine s_iload_3 (pc := 46) dX8_sheet_46 ?_
          refine s_ireturn (pc := 47) dX8_sheet_47 rfl ?_
          first | exact Or.inl (⟨by omega, by omega, rfl⟩) | exact Or.inr (Or.inl (⟨by omega, by omega, rfl⟩)) | exact Or.inr (Or.inr (⟨by omega, by omega, rfl⟩)) | (exfalso; omega)
        · refine s_aload_0 (pc := 27) dX8_sheet_27 ?_
          refine gfX8_77 (pc := 28) dX8_sheet_28 rfl ?_
          refine s_iconst_5 (pc := 31) dX8_sheet_31 ?_
          refine cV1i (pc := 32) (Ky := kX7_find) dX8_sheet_32 rfl lnX8_248 okX7_find ⟨7, TX7, 4, rfl, rfl⟩ ⟨Nat.le_of_ble_eq_true rfl, Nat.le_of_ble_eq_true rfl⟩ (Nat.le_of_ble_eq_true rfl) (c_X7_find (by omega)) ?_
          rintro _ _ ⟨rfl, rfl⟩
          refine s_ireturn (pc := 35) dX8_sheet_35 rfl ?_
          first | exact Or.inl (⟨by omega, by omega, rfl⟩) | exact Or.inr (Or.inl (⟨by omega, by omega, rfl⟩)) | exact Or.inr (Or.inr (⟨by omega, by omega, rfl⟩)) | (exfalso; omega)
      · refine s_bipush (pc := 20) (z := -2) dX8_sheet_20 rfl ?_
        refine s_ireturn (pc := 22) dX8_sheet_22 rfl ?_
        first | exact Or.inl (⟨by omega, by omega, rfl⟩) | exact Or.inr (Or.inl (⟨by omega, by omega, rfl⟩)) | exact Or.inr (Or.inr (⟨by omega, by omega, rfl⟩)) | (exfalso; omega)
theorem c_X8_lose {s : Int} {μ : Mem} (h_s : -2147483648 ≤ s ∧ s < 2147483648) (hza : ∀ s : Int, 0 ≤ s → s < 4 → -1 ≤ μ 36 s ∧ μ 36 s ≤ 60) : Mc kX8_lose [.inr (.inr 0), .inl s] μ (pI (fun z ν => ((s < 0 ∨ 3 < s) ∧ -2 = z ∧ μ = ν) ∨ ((0 ≤ s ∧ s ≤ 3 ∧ μ 36 s = -1) ∧ -11 = z ∧ wr μ 120 0 1 = ν) ∨ ((0 ≤ s ∧ s ≤ 3 ∧ μ 36 s ≠ -1) ∧ μ 36 s = z ∧ wr μ 36 s (-1) = ν))) := by
  refine Mc_of (by decide +kernel) (fun _ => Nat.le_of_ble_eq_true rfl) ?_
  show AW kX8_lose 0 [some (.inr (.inr 0)), some (.inl s)] [] μ _
  refine s_iload_1 (pc := 0) dX8_lose_0 ?_
  refine cS1i (pc := 1) (Ky := kX8_isSheet) dX8_lose_1 rfl lnX8_242 okX8_isSheet ⟨Nat.le_of_ble_eq_true rfl, Nat.le_of_ble_eq_true rfl⟩ (Nat.le_of_ble_eq_true rfl) (c_X8_isSheet (by omega)) ?_
  rintro _ _ ⟨rfl, rfl⟩
  refine s_if_ne (pc := 4) 10 dX8_lose_4 rfl (by omega) (fun h4 => ?_) (fun h4 => ?_)
  · have hz := hza s (by omega) (by omega)
    refine s_aload_0 (pc := 10) dX8_lose_10 ?_
    refine gfX8_77 (pc := 11) dX8_lose_11 rfl ?_
    refine s_iload_1 (pc := 14) dX8_lose_14 ?_
    refine cV1i (pc := 15) (Ky := kX7_isLost) dX8_lose_15 rfl lnX8_245 okX7_isLost ⟨7, TX7, 4, rfl, rfl⟩ ⟨Nat.le_of_ble_eq_true rfl, Nat.le_of_ble_eq_true rfl⟩ (Nat.le_of_ble_eq_true rfl) (c_X7_isLost (by omega) hz) ?_
    rintro _ _ ⟨rfl, rfl⟩
    refine s_if_eq (pc := 18) 30 dX8_lose_18 rfl (by omega) (fun h18 => ?_) (fun h18 => ?_)
    · refine s_aload_0 (pc := 30) dX8_lose_30 ?_
      refine gfX8_77 (pc := 31) dX8_lose_31 rfl ?_
      refine s_iload_1 (pc := 34) dX8_lose_34 ?_
      refine cV1i (pc := 35) (Ky := kX7_drop) dX8_lose_35 rfl lnX8_274 okX7_drop ⟨7, TX7, 4, rfl, rfl⟩ ⟨Nat.le_of_ble_eq_true rfl, Nat.le_of_ble_eq_true rfl⟩ (Nat.le_of_ble_eq_true rfl) (c_X7_drop (by omega)) ?_
      rintro _ _ ⟨rfl, rfl⟩
      refine s_ireturn (pc := 38) dX8_lose_38 rfl ?_
      first | exact Or.inl (⟨by omega, by omega, rfl⟩) | exact Or.inr (Or.inl (⟨by omega, by omega, rfl⟩)) | exact Or.inr (Or.inr (⟨by omega, by omega, rfl⟩)) | (exfalso; omega)
    · refine s_aload_0 (pc := 21) dX8_lose_21 ?_
      refine gfX8_77 (pc := 22) dX8_lose_22 rfl ?_
      refine s_iconst_1 (pc := 25) dX8_lose_25 ?_
      refine cV1i (pc := 26) (Ky := kX7_find) dX8_lose_26 rfl lnX8_248 okX7_find ⟨7, TX7, 4, rfl, rfl⟩ ⟨Nat.le_of_ble_eq_true rfl, Nat.le_of_ble_eq_true rfl⟩ (Nat.le_of_ble_eq_true rfl) (c_X7_find (by omega)) ?_
      rintro _ _ ⟨rfl, rfl⟩
      refine s_ireturn (pc := 29) dX8_lose_29 rfl ?_
      first | exact Or.inl (⟨by omega, by omega, rfl⟩) | exact Or.inr (Or.inl (⟨by omega, by omega, rfl⟩)) | exact Or.inr (Or.inr (⟨by omega, by omega, rfl⟩)) | (exfalso; omega)
  · refine s_bipush (pc := 7) (z := -2) dX8_lose_7 rfl ?_
    refine s_ireturn (pc := 9) dX8_lose_9 rfl ?_
    first | exact Or.inl (⟨by omega, by omega, rfl⟩) | exact Or.inr (Or.inl (⟨by omega, by omega, rfl⟩)) | exact Or.inr (Or.inr (⟨by omega, by omega, rfl⟩)) | (exfalso; omega)
theorem c_X8_lay {s form i v : Int} {μ : Mem} (h_s : -2147483648 ≤ s ∧ s < 2147483648) (h_form : -2147483648 ≤ form ∧ form < 2147483648) (h_i : -2147483648 ≤ i ∧ i < 2147483648) (h_v : -2147483648 ≤ v ∧ v < 2147483648) (hza : ∀ s : Int, 0 ≤ s → s < 4 → -1 ≤ μ 36 s ∧ μ 36 s ≤ 60) (hfa : ∀ s : Int, 0 ≤ s → s < 4 → -2147483648 ≤ μ 37 s ∧ μ 37 s < 2147483648) : Mc kX8_lay [.inr (.inr 0), .inl s, .inl form, .inl i, .inl v] μ (pI (fun z ν => ((s < 0 ∨ 3 < s ∨ form < 0 ∨ 2 < form) ∧ -2 = z ∧ μ = ν) ∨ ((0 ≤ s ∧ s ≤ 3 ∧ 0 ≤ form ∧ form ≤ 2 ∧ μ 36 s = -1) ∧ -11 = z ∧ wr μ 120 0 1 = ν) ∨ ((0 ≤ s ∧ s ≤ 3 ∧ 0 ≤ form ∧ form ≤ 2 ∧ μ 36 s ≠ -1 ∧ μ 37 s ≠ form) ∧ -13 = z ∧ wr μ 120 0 3 = ν) ∨ ((0 ≤ s ∧ s ≤ 3 ∧ 0 ≤ form ∧ form ≤ 2 ∧ μ 36 s ≠ -1 ∧ μ 37 s = form ∧ (i < 0 ∨ μ 36 s ≤ i)) ∧ -12 = z ∧ wr μ 120 0 2 = ν) ∨ ((0 ≤ s ∧ s ≤ 3 ∧ 0 ≤ form ∧ form ≤ 2 ∧ μ 36 s ≠ -1 ∧ μ 37 s = form ∧ 0 ≤ i ∧ i < μ 36 s) ∧ 1 = z ∧ wr μ 38 (60 * s + i) (cutF (μ 37 s) v) = ν))) := by
  refine Mc_of (by decide +kernel) (fun _ => Nat.le_of_ble_eq_true rfl) ?_
  show AW kX8_lay 0 [some (.inr (.inr 0)), some (.inl s), some (.inl form), some (.inl i), some (.inl v), none] [] μ _
  refine s_iload_1 (pc := 0) dX8_lay_0 ?_
  refine cS1i (pc := 1) (Ky := kX8_isSheet) dX8_lay_1 rfl lnX8_242 okX8_isSheet ⟨Nat.le_of_ble_eq_true rfl, Nat.le_of_ble_eq_true rfl⟩ (Nat.le_of_ble_eq_true rfl) (c_X8_isSheet (by omega)) ?_
  rintro _ _ ⟨rfl, rfl⟩
  refine s_if_eq (pc := 4) 14 dX8_lay_4 rfl (by omega) (fun h4 => ?_) (fun h4 => ?_)
  · refine s_bipush (pc := 14) (z := -2) dX8_lay_14 rfl ?_
    refine s_ireturn (pc := 16) dX8_lay_16 rfl ?_
    first | exact Or.inl (⟨by omega, by omega, rfl⟩) | exact Or.inr (Or.inl (⟨by omega, by omega, rfl⟩)) | exact Or.inr (Or.inr (Or.inl (⟨by omega, by omega, rfl⟩))) | exact Or.inr (Or.inr (Or.inr (Or.inl (⟨by omega, by omega, rfl⟩)))) | exact Or.inr (Or.inr (Or.inr (Or.inr (⟨by omega, by omega, rfl⟩)))) | (exfalso; omega)
  · refine s_iload_2 (pc := 7) dX8_lay_7 ?_
    refine cS1i (pc := 8) (Ky := kX8_isForm) dX8_lay_8 rfl lnX8_267 okX8_isForm ⟨Nat.le_of_ble_eq_true rfl, Nat.le_of_ble_eq_true rfl⟩ (Nat.le_of_ble_eq_true rfl) (c_X8_isForm (by omega)) ?_
    rintro _ _ ⟨rfl, rfl⟩
    refine s_if_ne (pc := 11) 17 dX8_lay_11 rfl (by omega) (fun h11 => ?_) (fun h11 => ?_)
    · have hz := hza s (by omega) (by omega)
      have hf7 := hfa s (by omega) (by omega)
      refine s_aload_0 (pc := 17) dX8_lay_17 ?_
      refine gfX8_77 (pc := 18) dX8_lay_18 rfl ?_
      refine s_iload_1 (pc := 21) dX8_lay_21 ?_
      refine s_iload_2 (pc := 22) dX8_lay_22 ?_
      refine s_iload_3 (pc := 23) dX8_lay_23 ?_
      refine cV3i (pc := 24) (Ky := kX7_lookUp) dX8_lay_24 rfl lnX8_277 okX7_lookUp ⟨7, TX7, 4, rfl, rfl⟩ ⟨Nat.le_of_ble_eq_true rfl, Nat.le_of_ble_eq_true rfl⟩ (Nat.le_of_ble_eq_true rfl) (c_X7_lookUp (by omega) hz (by omega) hf7 (by omega)) ?_
      rintro _ _ (⟨c24, rfl, rfl⟩ | ⟨c24, rfl, rfl⟩ | ⟨c24, rfl, rfl⟩ | ⟨c24, rfl, rfl⟩)
      · refine s_istore_5 (pc := 27) dX8_lay_27 (Nat.le_of_ble_eq_true rfl) rfl ?_
        refine s_iload_5 (pc := 29) dX8_lay_29 ?_
        refine s_if_eq (pc := 31) 44 dX8_lay_31 rfl (by omega) (fun h31 => ?_) (fun h31 => ?_)
        · exact absurd h31 (by decide)
        · refine s_aload_0 (pc := 34) dX8_lay_34 ?_
          refine gfX8_77 (pc := 35) dX8_lay_35 rfl ?_
          refine s_iload_5 (pc := 38) dX8_lay_38 ?_
          refine cV1i (pc := 40) (Ky := kX7_find) dX8_lay_40 rfl lnX8_248 okX7_find ⟨7, TX7, 4, rfl, rfl⟩ ⟨Nat.le_of_ble_eq_true rfl, Nat.le_of_ble_eq_true rfl⟩ (Nat.le_of_ble_eq_true rfl) (c_X7_find (by omega)) ?_
          rintro _ _ ⟨rfl, rfl⟩
          refine s_ireturn (pc := 43) dX8_lay_43 rfl ?_
          first | exact Or.inl (⟨by omega, by omega, rfl⟩) | exact Or.inr (Or.inl (⟨by omega, by omega, rfl⟩)) | exact Or.inr (Or.inr (Or.inl (⟨by omega, by omega, rfl⟩))) | exact Or.inr (Or.inr (Or.inr (Or.inl (⟨by omega, by omega, rfl⟩)))) | exact Or.inr (Or.inr (Or.inr (Or.inr (⟨by omega, by omega, rfl⟩)))) | (exfalso; omega)
      · refine s_istore_5 (pc := 27) dX8_lay_27 (Nat.le_of_ble_eq_true rfl) rfl ?_
        refine s_iload_5 (pc := 29) dX8_lay_29 ?_
        refine s_if_eq (pc := 31) 44 dX8_lay_31 rfl (by omega) (fun h31 => ?_) (fun h31 => ?_)
        · exact absurd h31 (by decide)
        · refine s_aload_0 (pc := 34) dX8_lay_34 ?_
          refine gfX8_77 (pc := 35) dX8_lay_35 rfl ?_
          refine s_iload_5 (pc := 38) dX8_lay_38 ?_
          refine cV1i (pc := 40) (Ky := kX7_find) dX8_lay_40 rfl lnX8_248 okX7_find ⟨7, TX7, 4, rfl, rfl⟩ ⟨Nat.le_of_ble_eq_true rfl, Nat.le_of_ble_eq_true rfl⟩ (Nat.le_of_ble_eq_true rfl) (c_X7_find (by omega)) ?_
          rintro _ _ ⟨rfl, rfl⟩
          refine s_ireturn (pc := 43) dX8_lay_43 rfl ?_
          first | exact Or.inl (⟨by omega, by omega, rfl⟩) | exact Or.inr (Or.inl (⟨by omega, by omega, rfl⟩)) | exact Or.inr (Or.inr (Or.inl (⟨by omega, by omega, rfl⟩))) | exact Or.inr (Or.inr (Or.inr (Or.inl (⟨by omega, by omega, rfl⟩)))) | exact Or.inr (Or.inr (Or.inr (Or.inr (⟨by omega, by omega, rfl⟩)))) | (exfalso; omega)
      · refine s_istore_5 (pc := 27) dX8_lay_27 (Nat.le_of_ble_eq_true rfl) rfl ?_
        refine s_iload_5 (pc := 29) dX8_lay_29 ?_
        refine s_if_eq (pc := 31) 44 dX8_lay_31 rfl (by omega) (fun h31 => ?_) (fun h31 => ?_)
        · exact absurd h31 (by decide)
        · refine s_aload_0 (pc := 34) dX8_lay_34 ?_
          refine gfX8_77 (pc := 35) dX8_lay_35 rfl ?_
          refine s_iload_5 (pc := 38) dX8_lay_38 ?_
          refine cV1i (pc := 40) (Ky := kX7_find) dX8_lay_40 rfl lnX8_248 okX7_find ⟨7, TX7, 4, rfl, rfl⟩ ⟨Nat.le_of_ble_eq_true rfl, Nat.le_of_ble_eq_true rfl⟩ (Nat.le_of_ble_eq_true rfl) (c_X7_find (by omega)) ?_
          rintro _ _ ⟨rfl, rfl⟩
          refine s_ireturn (pc := 43) dX8_lay_43 rfl ?_
          first | exact Or.inl (⟨by omega, by omega, rfl⟩) | exact Or.inr (Or.inl (⟨by omega, by omega, rfl⟩)) | exact Or.inr (Or.inr (Or.inl (⟨by omega, by omega, rfl⟩))) | exact Or.inr (Or.inr (Or.inr (Or.inl (⟨by omega, by omega, rfl⟩)))) | exact Or.inr (Or.inr (Or.inr (Or.inr (⟨by omega, by omega, rfl⟩)))) | (exfalso; omega)
      · refine s_istore_5 (pc := 27) dX8_lay_27 (Nat.le_of_ble_eq_true rfl) rfl ?_
        refine s_iload_5 (pc := 29) dX8_lay_29 ?_
        refine s_if_eq (pc := 31) 44 dX8_lay_31 rfl (by omega) (fun h31 => ?_) (fun h31 => ?_)
        · refine s_aload_0 (pc := 44) dX8_lay_44 ?_
          refine gfX8_77 (pc := 45) dX8_lay_45 rfl ?_
          refine s_iload_1 (pc := 48) dX8_lay_48 ?_
          refine s_iload_3 (pc := 49) dX8_lay_49 ?_
          refine s_iload_4 (pc := 50) dX8_lay_50 ?_
          refine cV3v (pc := 52) (Ky := kX7_put) dX8_lay_52 rfl lnX8_281 okX7_put ⟨7, TX7, 4, rfl, rfl⟩ ⟨Nat.le_of_ble_eq_true rfl, Nat.le_of_ble_eq_true rfl⟩ (Nat.le_of_ble_eq_true rfl) (c_X7_put (by omega) (by omega) hf7 (by omega)) ?_
          rintro _ rfl
          refine s_iconst_1 (pc := 55) dX8_lay_55 ?_
          refine s_ireturn (pc := 56) dX8_lay_56 rfl ?_
          first | exact Or.inl (⟨by omega, by omega, rfl⟩) | exact Or.inr (Or.inl (⟨by omega, by omega, rfl⟩)) | exact Or.inr (Or.inr (Or.inl (⟨by omega, by omega, rfl⟩))) | exact Or.inr (Or.inr (Or.inr (Or.inl (⟨by omega, by omega, rfl⟩)))) | exact Or.inr (Or.inr (Or.inr (Or.inr (⟨by omega, by omega, rfl⟩)))) | (exfalso; omega)
        · exact absurd h31 (by decide)
    · refine s_bipush (pc := 14) (z := -2) dX8_lay_14 rfl ?_
      refine s_ireturn (pc := 16) dX8_lay_16 rfl ?_
      first | exact Or.inl (⟨by omega, by omega, rfl⟩) | exact Or.inr (Or.inl (⟨by omega, by omega, rfl⟩)) | exact Or.inr (Or.inr (Or.inl (⟨by omega, by omega, rfl⟩))) | exact Or.inr (Or.inr (Or.inr (Or.inl (⟨by omega, by omega, rfl⟩)))) | exact Or.inr (Or.inr (Or.inr (Or.inr (⟨by omega, by omega, rfl⟩)))) | (exfalso; omega)
theorem c_X8_get {s form i : Int} {μ : Mem} (h_s : -2147483648 ≤ s ∧ s < 2147483648) (h_form : -2147483648 ≤ form ∧ form < 2147483648) (h_i : -2147483648 ≤ i ∧ i < 2147483648) (hza : ∀ s : Int, 0 ≤ s → s < 4 → -1 ≤ μ 36 s ∧ μ 36 s ≤ 60) (hfa : ∀ s : Int, 0 ≤ s → s < 4 → -2147483648 ≤ μ 37 s ∧ μ 37 s < 2147483648) : Mc kX8_get [.inr (.inr 0), .inl s, .inl form, .inl i] μ (pI (fun z ν => ((s < 0 ∨ 3 < s ∨ form < 0 ∨ 2 < form) ∧ -2147483648 = z ∧ μ = ν) ∨ ((0 ≤ s ∧ s ≤ 3 ∧ 0 ≤ form ∧ form ≤ 2 ∧ μ 36 s = -1) ∧ -2147483648 = z ∧ wr μ 120 0 1 = ν) ∨ ((0 ≤ s ∧ s ≤ 3 ∧ 0 ≤ form ∧ form ≤ 2 ∧ μ 36 s ≠ -1 ∧ μ 37 s ≠ form) ∧ -2147483648 = z ∧ wr μ 120 0 3 = ν) ∨ ((0 ≤ s ∧ s ≤ 3 ∧ 0 ≤ form ∧ form ≤ 2 ∧ μ 36 s ≠ -1 ∧ μ 37 s = form ∧ (i < 0 ∨ μ 36 s ≤ i)) ∧ -2147483648 = z ∧ wr μ 120 0 2 = ν) ∨ ((0 ≤ s ∧ s ≤ 3 ∧ 0 ≤ form ∧ form ≤ 2 ∧ μ 36 s ≠ -1 ∧ μ 37 s = form ∧ 0 ≤ i ∧ i < μ 36 s) ∧ μ 38 (60 * s + i) = z ∧ μ = ν))) := by
  refine Mc_of (by decide +kernel) (fun _ => Nat.le_of_ble_eq_true rfl) ?_
  show AW kX8_get 0 [some (.inr (.inr 0)), some (.inl s), some (.inl form), some (.inl i), none] [] μ _
  refine s_iload_1 (pc := 0) dX8_get_0 ?_
  refine cS1i (pc := 1) (Ky := kX8_isSheet) dX8_get_1 rfl lnX8_242 okX8_isSheet ⟨Nat.le_of_ble_eq_true rfl, Nat.le_of_ble_eq_true rfl⟩ (Nat.le_of_ble_eq_true rfl) (c_X8_isSheet (by omega)) ?_
  rintro _ _ ⟨rfl, rfl⟩
  refine s_if_eq (pc := 4) 14 dX8_get_4 rfl (by omega) (fun h4 => ?_) (fun h4 => ?_)
  · refine s_ldc_w (pc := 14) dX8_get_14 rfl cnX8_283 ?_
    refine s_ireturn (pc := 17) dX8_get_17 rfl ?_
    first | exact Or.inl (⟨by omega, by omega, rfl⟩) | exact Or.inr (Or.inl (⟨by omega, by omega, rfl⟩)) | exact Or.inr (Or.inr (Or.inl (⟨by omega, by omega, rfl⟩))) | exact Or.inr (Or.inr (Or.inr (Or.inl (⟨by omega, by omega, rfl⟩)))) | exact Or.inr (Or.inr (Or.inr (Or.inr (⟨by omega, by omega, rfl⟩)))) | (exfalso; omega)
  · refine s_iload_2 (pc := 7) dX8_get_7 ?_
    refine cS1i (pc := 8) (Ky := kX8_isForm) dX8_get_8 rfl lnX8_267 okX8_isForm ⟨Nat.le_of_ble_eq_true rfl, Nat.le_of_ble_eq_true rfl⟩ (Nat.le_of_ble_eq_true rfl) (c_X8_isForm (by omega)) ?_
    rintro _ _ ⟨rfl, rfl⟩
    refine s_if_ne (pc := 11) 18 dX8_get_11 rfl (by omega) (fun h11 => ?_) (fun h11 => ?_)
    · have hz := hza s (by omega) (by omega)
      have hf7 := hfa s (by omega) (by omega)
      refine s_aload_0 (pc := 18) dX8_get_18 ?_
      refine gfX8_77 (pc := 19) dX8_get_19 rfl ?_
      refine s_iload_1 (pc := 22) dX8_get_22 ?_
      refine s_iload_2 (pc := 23) dX8_get_23 ?_
      refine s_iload_3 (pc := 24) dX8_get_24 ?_
      refine cV3i (pc := 25) (Ky := kX7_lookUp) dX8_get_25 rfl lnX8_277 okX7_lookUp ⟨7, TX7, 4, rfl, rfl⟩ ⟨Nat.le_of_ble_eq_true rfl, Nat.le_of_ble_eq_true rfl⟩ (Nat.le_of_ble_eq_true rfl) (c_X7_lookUp (by omega) hz (by omega) hf7 (by omega)) ?_
      rintro _ _ (⟨c25, rfl, rfl⟩ | ⟨c25, rfl, rfl⟩ | ⟨c25, rfl, rfl⟩ | ⟨c25, rfl, rfl⟩)
      · refine s_istore_4 (pc := 28) dX8_get_28 (Nat.le_of_ble_eq_true rfl) rfl ?_
        refine s_iload_4 (pc := 30) dX8_get_30 ?_
        refine s_if_eq (pc := 32) 49 dX8_get_32 rfl (by omega) (fun h32 => ?_) (fun h32 => ?_)
        · exact absurd h32 (by decide)
        · refine s_aload_0 (pc := 35) dX8_get_35 ?_
          refine gfX8_77 (pc := 36) dX8_get_36 rfl ?_
          refine s_iload_4 (pc := 39) dX8_get_39 ?_
          refine cV1i (pc := 41) (Ky := kX7_find) dX8_get_41 rfl lnX8_248 okX7_find ⟨7, TX7, 4, rfl, rfl⟩ ⟨Nat.le_of_ble_eq_true rfl, Nat.le_of_ble_eq_true rfl⟩ (Nat.le_of_ble_eq_true rfl) (c_X7_find (by omega)) ?_
          rintro _ _ ⟨rfl, rfl⟩
          refine s_pop (pc := 44) dX8_get_44 rfl ?_
          refine s_ldc_w (pc := 45) dX8_get_45 rfl cnX8_283 ?_
          refine s_ireturn (pc := 48) dX8_get_48 rfl ?_
          first | exact Or.inl (⟨by omega, by omega, rfl⟩) | exact Or.inr (Or.inl (⟨by omega, by omega, rfl⟩)) | exact Or.inr (Or.inr (Or.inl (⟨by omega, by omega, rfl⟩))) | exact Or.inr (Or.inr (Or.inr (Or.inl (⟨by omega, by omega, rfl⟩)))) | exact Or.inr (Or.inr (Or.inr (Or.inr (⟨by omega, by omega, rfl⟩)))) | (exfalso; omega)
      · refine s_istore_4 (pc := 28) dX8_get_28 (Nat.le_of_ble_eq_true rfl) rfl ?_
        refine s_iload_4 (pc := 30) dX8_get_30 ?_
        refine s_if_eq (pc := 32) 49 dX8_get_32 rfl (by omega) (fun h32 => ?_) (fun h32 => ?_)
        · exact absurd h32 (by decide)
        · refine s_aload_0 (pc := 35) dX8_get_35 ?_
          refine gfX8_77 (pc := 36) dX8_get_36 rfl ?_
          refine s_iload_4 (pc := 39) dX8_get_39 ?_
          refine cV1i (pc := 41) (Ky := kX7_find) dX8_get_41 rfl lnX8_248 okX7_find ⟨7, TX7, 4, rfl, rfl⟩ ⟨Nat.le_of_ble_eq_true rfl, Nat.le_of_ble_eq_true rfl⟩ (Nat.le_of_ble_eq_true rfl) (c_X7_find (by omega)) ?_
          rintro _ _ ⟨rfl, rfl⟩
          refine s_pop (pc := 44) dX8_get_44 rfl ?_
          refine s_ldc_w (pc := 45) dX8_get_45 rfl cnX8_283 ?_
          refine s_ireturn (pc := 48) dX8_get_48 rfl ?_
          first | exact Or.inl (⟨by omega, by omega, rfl⟩) | exact Or.inr (Or.inl (⟨by omega, by omega, rfl⟩)) | exact Or.inr (Or.inr (Or.inl (⟨by omega, by omega, rfl⟩))) | exact Or.inr (Or.inr (Or.inr (Or.inl (⟨by omega, by omega, rfl⟩)))) | exact Or.inr (Or.inr (Or.inr (Or.inr (⟨by omega, by omega, rfl⟩)))) | (exfalso; omega)
      · refine s_istore_4 (pc := 28) dX8_get_28 (Nat.le_of_ble_eq_true rfl) rfl ?_
        refine s_iload_4 (pc := 30) dX8_get_30 ?_
        refine s_if_eq (pc := 32) 49 dX8_get_32 rfl (by omega) (fun h32 => ?_) (fun h32 => ?_)
        · exact absurd h32 (by decide)
        · refine s_aload_0 (pc := 35) dX8_get_35 ?_
          refine gfX8_77 (pc := 36) dX8_get_36 rfl ?_
          refine s_iload_4 (pc := 39) dX8_get_39 ?_
          refine cV1i (pc := 41) (Ky := kX7_find) dX8_get_41 rfl lnX8_248 okX7_find ⟨7, TX7, 4, rfl, rfl⟩ ⟨Nat.le_of_ble_eq_true rfl, Nat.le_of_ble_eq_true rfl⟩ (Nat.le_of_ble_eq_true rfl) (c_X7_find (by omega)) ?_
          rintro _ _ ⟨rfl, rfl⟩
          refine s_pop (pc := 44) dX8_get_44 rfl ?_
          refine s_ldc_w (pc := 45) dX8_get_45 rfl cnX8_283 ?_
          refine s_ireturn (pc := 48) dX8_get_48 rfl ?_
          first | exact Or.inl (⟨by omega, by omega, rfl⟩) | exact Or.inr (Or.inl (⟨by omega, by omega, rfl⟩)) | exact Or.inr (Or.inr (Or.inl (⟨by omega, by omega, rfl⟩))) | exact Or.inr (Or.inr (Or.inr (Or.inl (⟨by omega, by omega, rfl⟩)))) | exact Or.inr (Or.inr (Or.inr (Or.inr (⟨by omega, by omega, rfl⟩)))) | (exfalso; omega)
      · refine s_istore_4 (pc := 28) dX8_get_28 (Nat.le_of_ble_eq_true rfl) rfl ?_
        refine s_iload_4 (pc := 30) dX8_get_30 ?_
        refine s_if_eq (pc := 32) 49 dX8_get_32 rfl (by omega) (fun h32 => ?_) (fun h32 => ?_)
        · refine s_aload_0 (pc := 49) dX8_get_49 ?_
          refine gfX8_77 (pc := 50) dX8_get_50 rfl ?_
          refine s_iload_1 (pc := 53) dX8_get_53 ?_
          refine s_iload_3 (pc := 54) dX8_get_54 ?_
          refine cV2i (pc := 55) (Ky := kX7_item) dX8_get_55 rfl lnX8_254 okX7_item ⟨7, TX7, 4, rfl, rfl⟩ ⟨Nat.le_of_ble_eq_true rfl, Nat.le_of_ble_eq_true rfl⟩ (Nat.le_of_ble_eq_true rfl) (c_X7_item (by omega) (by omega)) ?_
          rintro _ _ ⟨rfl, rfl⟩
          refine s_ireturn (pc := 58) dX8_get_58 rfl ?_
          first | exact Or.inl (⟨by omega, by omega, rfl⟩) | exact Or.inr (Or.inl (⟨by omega, by omega, rfl⟩)) | exact Or.inr (Or.inr (Or.inl (⟨by omega, by omega, rfl⟩))) | exact Or.inr (Or.inr (Or.inr (Or.inl (⟨by omega, by omega, rfl⟩)))) | exact Or.inr (Or.inr (Or.inr (Or.inr (⟨by omega, by omega, rfl⟩)))) | (exfalso; omega)
        · exact absurd h32 (by decide)
    · refine s_ldc_w (pc := 14) dX8_get_14 rfl cnX8_283 ?_
      refine s_ireturn (pc := 17) dX8_get_17 rfl ?_
      first | exact Or.inl (⟨by omega, by omega, rfl⟩) | exact Or.inr (Or.inl (⟨by omega, by omega, rfl⟩)) | exact Or.inr (Or.inr (Or.inl (⟨by omega, by omega, rfl⟩))) | exact Or.inr (Or.inr (Or.inr (Or.inl (⟨by omega, by omega, rfl⟩)))) | exact Or.inr (Or.inr (Or.inr (Or.inr (⟨by omega, by omega, rfl⟩)))) | (exfalso; omega)
theorem c_X8_copy {s i t j n : Int} {μ : Mem} (h_s : -2147483648 ≤ s ∧ s < 2147483648) (h_i : -2147483648 ≤ i ∧ i < 2147483648) (h_t : -2147483648 ≤ t ∧ t < 2147483648) (h_j : -2147483648 ≤ j ∧ j < 2147483648) (h_n : -2147483648 ≤ n ∧ n < 2147483648) (hza : ∀ s : Int, 0 ≤ s → s < 4 → -1 ≤ μ 36 s ∧ μ 36 s ≤ 60) (hfa : ∀ s : Int, 0 ≤ s → s < 4 → -2147483648 ≤ μ 37 s ∧ μ 37 s < 2147483648) : Mc kX8_copy [.inr (.inr 0), .inl s, .inl i, .inl t, .inl j, .inl n] μ (pI (fun z ν => ((s < 0 ∨ 3 < s ∨ t < 0 ∨ 3 < t) ∧ -2 = z ∧ μ = ν) ∨ ((0 ≤ s ∧ s ≤ 3 ∧ 0 ≤ t ∧ t ≤ 3 ∧ (μ 36 s = -1 ∨ μ 36 t = -1)) ∧ -11 = z ∧ wr μ 120 0 1 = ν) ∨ ((0 ≤ s ∧ s ≤ 3 ∧ 0 ≤ t ∧ t ≤ 3 ∧ μ 36 s ≠ -1 ∧ μ 36 t ≠ -1 ∧ μ 37 s ≠ μ 37 t) ∧ -14 = z ∧ wr μ 120 0 4 = ν) ∨ ((0 ≤ s ∧ s ≤ 3 ∧ 0 ≤ t ∧ t ≤ 3 ∧ μ 36 s ≠ -1 ∧ μ 36 t ≠ -1 ∧ μ 37 s = μ 37 t ∧ (i < 0 ∨ j < 0 ∨ n < 0 ∨ μ 36 s < i + n ∨ μ 36 t < j + n)) ∧ -12 = z ∧ wr μ 120 0 2 = ν) ∨ ((0 ≤ s ∧ s ≤ 3 ∧ 0 ≤ t ∧ t ≤ 3 ∧ μ 36 s ≠ -1 ∧ μ 36 t ≠ -1 ∧ μ 37 s = μ 37 t ∧ 0 ≤ i ∧ 0 ≤ j ∧ 0 ≤ n ∧ i + n ≤ μ 36 s ∧ j + n ≤ μ 36 t) ∧ 1 = z ∧ wa μ 38 (cpy (μ 38) (μ 38) (60 * s + i) (60 * t + j) n) = ν))) := by
  refine Mc_of (by decide +kernel) (fun _ => Nat.le_of_ble_eq_true rfl) ?_
  show AW kX8_copy 0 [some (.inr (.inr 0)), some (.inl s), some (.inl i), some (.inl t), some (.inl j), some (.inl n)] [] μ _
  refine s_iload_1 (pc := 0) dX8_copy_0 ?_
  refine cS1i (pc := 1) (Ky := kX8_isSheet) dX8_copy_1 rfl lnX8_242 okX8_isSheet ⟨Nat.le_of_ble_eq_true rfl, Nat.le_of_ble_eq_true rfl⟩ (Nat.le_of_ble_eq_true rfl) (c_X8_isSheet (by omega)) ?_
  rintro _ _ ⟨rfl, rfl⟩
  refine s_if_eq (pc := 4) 14 dX8_copy_4 rfl (by omega) (fun h4 => ?_) (fun h4 => ?_)
  · refine s_bipush (pc := 14) (z := -2) dX8_copy_14 rfl ?_
    refine s_ireturn (pc := 16) dX8_copy_16 rfl ?_
    first | exact Or.inl (⟨by omega, by omega, rfl⟩) | exact Or.inr (Or.inl (⟨by omega, by omega, rfl⟩)) | exact Or.inr (Or.inr (Or.inl (⟨by omega, by omega, rfl⟩))) | exact Or.inr (Or.inr (Or.inr (Or.inl (⟨by omega, by omega, rfl⟩)))) | exact Or.inr (Or.inr (Or.inr (Or.inr (⟨by omega, by omega, rfl⟩)))) | (exfalso; omega)
  · refine s_iload_3 (pc := 7) dX8_copy_7 ?_
    refine cS1i (pc := 8) (Ky := kX8_isSheet) dX8_copy_8 rfl lnX8_242 okX8_isSheet ⟨Nat.le_of_ble_eq_true rfl, Nat.le_of_ble_eq_true rfl⟩ (Nat.le_of_ble_eq_true rfl) (c_X8_isSheet (by omega)) ?_
    rintro _ _ ⟨rfl, rfl⟩
    refine s_if_ne (pc := 11) 17 dX8_copy_11 rfl (by omega) (fun h11 => ?_) (fun h11 => ?_)
    · have hz := hza s (by omega) (by omega)
      have hzt := hza t (by omega) (by omega)
      have hf7 := hfa s (by omega) (by omega)
      have hf8 := hfa t (by omega) (by omega)
      refine s_aload_0 (pc := 17) dX8_copy_17 ?_
      refine gfX8_77 (pc := 18) dX8_copy_18 rfl ?_
      refine s_iload_1 (pc := 21) dX8_copy_21 ?_
      refine cV1i (pc := 22) (Ky := kX7_isLost) dX8_copy_22 rfl lnX8_245 okX7_isLost ⟨7, TX7, 4, rfl, rfl⟩ ⟨Nat.le_of_ble_eq_true rfl, Nat.le_of_ble_eq_true rfl⟩ (Nat.le_of_ble_eq_true rfl) (c_X7_isLost (by omega) hz) ?_
      rintro _ _ ⟨rfl, rfl⟩
      refine s_if_ne (pc := 25) 39 dX8_copy_25 rfl (by omega) (fun h25 => ?_) (fun h25 => ?_)
      · refine s_aload_0 (pc := 39) dX8_copy_39 ?_
        refine gfX8_77 (pc := 40) dX8_copy_40 rfl ?_
        refine s_iconst_1 (pc := 43) dX8_copy_43 ?_
        refine cV1i (pc := 44) (Ky := kX7_find) dX8_copy_44 rfl lnX8_248 okX7_find ⟨7, TX7, 4, rfl, rfl⟩ ⟨Nat.le_of_ble_eq_true rfl, Nat.le_of_ble_eq_true rfl⟩ (Nat.le_of_ble_eq_true rfl) (c_X7_find (by omega)) ?_
        rintro _ _ ⟨rfl, rfl⟩
        refine s_ireturn (pc := 47) dX8_copy_47 rfl ?_
        first | exact Or.inl (⟨by omega, by omega, rfl⟩) | exact Or.inr (Or.inl (⟨by omega, by omega, rfl⟩)) | exact Or.inr (Or.inr (Or.inl (⟨by omega, by omega, rfl⟩))) | exact Or.inr (Or.inr (Or.inr (Or.inl (⟨by omega, by omega, rfl⟩)))) | exact Or.inr (Or.inr (Or.inr (Or.inr (⟨by omega, by omega, rfl⟩)))) | (exfalso; omega)
      · refine s_aload_0 (pc := 28) dX8_copy_28 ?_
        refine gfX8_77 (pc := 29) dX8_copy_29 rfl ?_
        refine s_iload_3 (pc := 32) dX8_copy_32 ?_
        refine cV1i (pc := 33) (Ky := kX7_isLost) dX8_copy_33 rfl lnX8_245 okX7_isLost ⟨7, TX7, 4, rfl, rfl⟩ ⟨Nat.le_of_ble_eq_true rfl, Nat.le_of_ble_eq_true rfl⟩ (Nat.le_of_ble_eq_true rfl) (c_X7_isLost (by omega) hzt) ?_
        rintro _ _ ⟨rfl, rfl⟩
        refine s_if_eq (pc := 36) 48 dX8_copy_36 rfl (by omega) (fun h36 => ?_) (fun h36 => ?_)
        · refine s_aload_0 (pc := 48) dX8_copy_48 ?_
          refine gfX8_77 (pc := 49) dX8_copy_49 rfl ?_
          refine gfX8_284 (pc := 52) dX8_copy_52 rfl ?_
          refine s_iload_1 (pc := 55) dX8_copy_55 ?_
          refine z_iaload (pc := 56) dX8_copy_56 ly_37 (by omega) (by omega) ?_
          refine s_aload_0 (pc := 57) dX8_copy_57 ?_
          refine gfX8_77 (pc := 58) dX8_copy_58 rfl ?_
          refine gfX8_284 (pc := 61) dX8_copy_61 rfl ?_
          refine s_iload_3 (pc := 64) dX8_copy_64 ?_
          refine z_iaload (pc := 65) dX8_copy_65 ly_37 (by omega) (by omega) ?_
          refine s_icmp_eq (pc := 66) 78 dX8_copy_66 rfl (by omega) (by omega) (fun h66 => ?_) (fun h66 => ?_)
          · refine s_aload_0 (pc := 78) dX8_copy_78 ?_
            refine gfX8_77 (pc := 79) dX8_copy_79 rfl ?_
            refine s_iload_1 (pc := 82) dX8_copy_82 ?_
            refine s_iload_2 (pc := 83) dX8_copy_83 ?_
            refine s_iload_5 (pc := 84) dX8_copy_84 ?_
            refine cV3i (pc := 86) (Ky := kX7_hasItems) dX8_copy_86 rfl lnX8_287 okX7_hasItems ⟨7, TX7, 4, rfl, rfl⟩ ⟨Nat.le_of_ble_eq_true rfl, Nat.le_of_ble_eq_true rfl⟩ (Nat.le_of_ble_eq_true rfl) (c_X7_hasItems (by omega) hz (by omega) (by omega)) ?_
            rintro _ _ ⟨rfl, rfl⟩
            refine s_if_eq (pc := 89) 107 dX8_copy_89 rfl (by omega) (fun h89 => ?_) (fun h89 => ?_)
            · refine s_aload_0 (pc := 107) dX8_copy_107 ?_
              refine gfX8_77 (pc := 108) dX8_copy_108 rfl ?_
              refine s_iconst_2 (pc := 111) dX8_copy_111 ?_
              refine cV1i (pc := 112) (Ky := kX7_find) dX8_copy_112 rfl lnX8_248 okX7_find ⟨7, TX7, 4, rfl, rfl⟩ ⟨Nat.le_of_ble_eq_true rfl, Nat.le_of_ble_eq_true rfl⟩ (Nat.le_of_ble_eq_true rfl) (c_X7_find (by omega)) ?_
              rintro _ _ ⟨rfl, rfl⟩
              refine s_ireturn (pc := 115) dX8_copy_115 rfl ?_
              first | exact Or.inl (⟨by omega, by omega, rfl⟩) | exact Or.inr (Or.inl (⟨by omega, by omega, rfl⟩)) | exact Or.inr (Or.inr (Or.inl (⟨by omega, by omega, rfl⟩))) | exact Or.inr (Or.inr (Or.inr (Or.inl (⟨by omega, by omega, rfl⟩)))) | exact Or.inr (Or.inr (Or.inr (Or.inr (⟨by omega, by omega, rfl⟩)))) | (exfalso; omega)
            · refine s_aload_0 (pc := 92) dX8_copy_92 ?_
              refine gfX8_77 (pc := 93) dX8_copy_93 rfl ?_
              refine s_iload_3 (pc := 96) dX8_copy_96 ?_
              refine s_iload_4 (pc := 97) dX8_copy_97 ?_
              refine s_iload_5 (pc := 99) dX8_copy_99 ?_
              refine cV3i (pc := 101) (Ky := kX7_hasItems) dX8_copy_101 rfl lnX8_287 okX7_hasItems ⟨7, TX7, 4, rfl, rfl⟩ ⟨Nat.le_of_ble_eq_true rfl, Nat.le_of_ble_eq_true rfl⟩ (Nat.le_of_ble_eq_true rfl) (c_X7_hasItems (by omega) hzt (by omega) (by omega)) ?_
              rintro _ _ ⟨rfl, rfl⟩
              refine s_if_ne (pc := 104) 116 dX8_copy_104 rfl (by omega) (fun h104 => ?_) (fun h104 => ?_)
              · refine s_aload_0 (pc := 116) dX8_copy_116 ?_
                refine gfX8_77 (pc := 117) dX8_copy_117 rfl ?_
                refine s_iload_1 (pc := 120) dX8_copy_120 ?_
                refine s_iload_2 (pc := 121) dX8_copy_121 ?_
                refine s_iload_3 (pc := 122) dX8_copy_122 ?_
                refine s_iload_4 (pc := 123) dX8_copy_123 ?_
                refine s_iload_5 (pc := 125) dX8_copy_125 ?_
                refine cV5v (pc := 127) (Ky := kX7_move) dX8_copy_127 rfl lnX8_290 okX7_move ⟨7, TX7, 4, rfl, rfl⟩ ⟨Nat.le_of_ble_eq_true rfl, Nat.le_of_ble_eq_true rfl⟩ (Nat.le_of_ble_eq_true rfl) (c_X7_move (by omega) (by omega) (by omega)) ?_
                rintro _ rfl
                refine s_iconst_1 (pc := 130) dX8_copy_130 ?_
                refine s_ireturn (pc := 131) dX8_copy_131 rfl ?_
                first | exact Or.inl (⟨by omega, by omega, rfl⟩) | exact Or.inr (Or.inl (⟨by omega, by omega, rfl⟩)) | exact Or.inr (Or.inr (Or.inl (⟨by omega, by omega, rfl⟩))) | exact Or.inr (Or.inr (Or.inr (Or.inl (⟨by omega, by omega, rfl⟩)))) | exact Or.inr (Or.inr (Or.inr (Or.inr (⟨by omega, by omega, rfl⟩)))) | (exfalso; omega)
              · refine s_aload_0 (pc := 107) dX8_copy_107 ?_
                refine gfX8_77 (pc := 108) dX8_copy_108 rfl ?_
                refine s_iconst_2 (pc := 111) dX8_copy_111 ?_
                refine cV1i (pc := 112) (Ky := kX7_find) dX8_copy_112 rfl lnX8_248 okX7_find ⟨7, TX7, 4, rfl, rfl⟩ ⟨Nat.le_of_ble_eq_true rfl, Nat.le_of_ble_eq_true rfl⟩ (Nat.le_of_ble_eq_true rfl) (c_X7_find (by omega)) ?_
                rintro _ _ ⟨rfl, rfl⟩
                refine s_ireturn (pc := 115) dX8_copy_115 rfl ?_
                first | exact Or.inl (⟨by omega, by omega, rfl⟩) | exact Or.inr (Or.inl (⟨by omega, by omega, rfl⟩)) | exact Or.inr (Or.inr (Or.inl (⟨by omega, by omega, rfl⟩))) | exact Or.inr (Or.inr (Or.inr (Or.inl (⟨by omega, by omega, rfl⟩)))) | exact Or.inr (Or.inr (Or.inr (Or.inr (⟨by omega, by omega, rfl⟩)))) | (exfalso; omega)
          · refine s_aload_0 (pc := 69) dX8_copy_69 ?_
            refine gfX8_77 (pc := 70) dX8_copy_70 rfl ?_
            refine s_iconst_4 (pc := 73) dX8_copy_73 ?_
            refine cV1i (pc := 74) (Ky := kX7_find) dX8_copy_74 rfl lnX8_248 okX7_find ⟨7, TX7, 4, rfl, rfl⟩ ⟨Nat.le_of_ble_eq_true rfl, Nat.le_of_ble_eq_true rfl⟩ (Nat.le_of_ble_eq_true rfl) (c_X7_find (by omega)) ?_
            rintro _ _ ⟨rfl, rfl⟩
            refine s_ireturn (pc := 77) dX8_copy_77 rfl ?_
            first | exact Or.inl (⟨by omega, by omega, rfl⟩) | exact Or.inr (Or.inl (⟨by omega, by omega, rfl⟩)) | exact Or.inr (Or.inr (Or.inl (⟨by omega, by omega, rfl⟩))) | exact Or.inr (Or.inr (Or.inr (Or.inl (⟨by omega, by omega, rfl⟩)))) | exact Or.inr (Or.inr (Or.inr (Or.inr (⟨by omega, by omega, rfl⟩)))) | (exfalso; omega)
        · refine s_aload_0 (pc := 39) dX8_copy_39 ?_
          refine gfX8_77 (pc := 40) dX8_copy_40 rfl ?_
          refine s_iconst_1 (pc := 43) dX8_copy_43 ?_
          refine cV1i (pc := 44) (Ky := kX7_find) dX8_copy_44 rfl lnX8_248 okX7_find ⟨7, TX7, 4, rfl, rfl⟩ ⟨Nat.le_of_ble_eq_true rfl, Nat.le_of_ble_eq_true rfl⟩ (Nat.le_of_ble_eq_true rfl) (c_X7_find (by omega)) ?_
          rintro _ _ ⟨rfl, rfl⟩
          refine s_ireturn (pc := 47) dX8_copy_47 rfl ?_
          first | exact Or.inl (⟨by omega, by omega, rfl⟩) | exact Or.inr (Or.inl (⟨by omega, by omega, rfl⟩)) | exact Or.inr (Or.inr (Or.inl (⟨by omega, by omega, rfl⟩))) | exact Or.inr (Or.inr (Or.inr (Or.inl (⟨by omega, by omega, rfl⟩)))) | exact Or.inr (Or.inr (Or.inr (Or.inr (⟨by omega, by omega, rfl⟩)))) | (exfalso; omega)
    · refine s_bipush (pc := 14) (z := -2) dX8_copy_14 rfl ?_
      refine s_ireturn (pc := 16) dX8_copy_16 rfl ?_
      first | exact Or.inl (⟨by omega, by omega, rfl⟩) | exact Or.inr (Or.inl (⟨by omega, by omega, rfl⟩)) | exact Or.inr (Or.inr (Or.inl (⟨by omega, by omega, rfl⟩))) | exact Or.inr (Or.inr (Or.inr (Or.inl (⟨by omega, by omega, rfl⟩)))) | exact Or.inr (Or.inr (Or.inr (Or.inr (⟨by omega, by omega, rfl⟩)))) | (exfalso; omega)
def wtJ (μ κ : Mem) (p sh m : Int) (k : Int) : Int := if 60 * sh ≤ k ∧ k < 60 * sh + m then cutF (μ 37 sh) (kq κ p (k - 60 * sh)) else μ 38 k
theorem wtJ_0 {μ κ : Mem} {p sh k : Int} : wtJ μ κ p sh 0 k = μ 38 k := by unfold wtJ; rw [if_neg (by omega)]
theorem lp_X8_write {κ : Mem} {p sh m : Int} {μ : Mem} (hC : CR κ μ) (hp : 0 ≤ p ∧ p < κ 129 0) (hsh : 0 ≤ sh ∧ sh ≤ 3) (hm4 : 0 ≤ m ∧ m ≤ κ 125 0) (hf7 : -2147483648 ≤ μ 37 sh ∧ μ 37 sh < 2147483648) : ∀ (f : Nat) (i : Int) (ν : Mem), (0 ≤ i) → (i ≤ m) → (Fr [38] μ ν) → (∀ k, ν 38 k = wtJ μ κ p sh i k) → m - i < (f : Int) → AW kX8_write 68 [some (.inr (.inr 0)), some (.inl p), some (.inl sh), some (.inl m), some (.inl i)] [] ν (pI (fun z ν => m = z ∧ Fr [38] μ ν ∧ ∀ k, ν 38 k = wtJ μ κ p sh m k)) := by
  intro f
  induction f with
  | zero =>
    intro i ν h0 h1 hF hv hm
    exfalso; omega
  | succ f ih =>
    intro i ν h0 h1 hF hv hm
    have hCν := hC.fr hF (by decide)
    have r129 := hC.1.1
    have r125 := hC.1.2.1
    have c37 : ν 37 sh = μ 37 sh := hF.at 37 rfl sh
    refine s_iload_4 (pc := 68) dX8_write_68 ?_
    refine s_iload_3 (pc := 70) dX8_write_70 ?_
    refine s_icmp_ge (pc := 71) 100 dX8_write_71 rfl (by omega) (by omega) (fun h71 => ?_) (fun h71 => ?_)
    · refine s_iload_3 (pc := 100) dX8_write_100 ?_
      refine s_ireturn (pc := 101) dX8_write_101 rfl ?_
      cases (show i = m by omega)
      exact ⟨rfl, hF, hv⟩
    · refine s_aload_0 (pc := 74) dX8_write_74 ?_
      refine gfX8_77 (pc := 75) dX8_write_75 rfl ?_
      refine s_iload_2 (pc := 78) dX8_write_78 ?_
      refine s_iload_4 (pc := 79) dX8_write_79 ?_
      refine s_aload_0 (pc := 81) dX8_write_81 ?_
      refine gfX8_31 (pc := 82) dX8_write_82 rfl ?_
      refine s_iload_1 (pc := 85) dX8_write_85 ?_
      refine s_iload_4 (pc := 86) dX8_write_86 ?_
      refine cV2i (pc := 88) (Ky := kX1_quartersAt) dX8_write_88 rfl lnX8_117 okX1_quartersAt ⟨1, TX1, 13, rfl, rfl⟩ ⟨Nat.le_of_ble_eq_true rfl, Nat.le_of_ble_eq_true rfl⟩ (Nat.le_of_ble_eq_true rfl) (c_X1_quartersAt hCν hp (by omega)) ?_
      rintro _ _ ⟨rfl, rfl⟩
      have hq := kq_in hC.1 (p := p) (i := i) (by omega) (by omega)
      refine cV3v (pc := 91) (Ky := kX7_put) dX8_write_91 rfl lnX8_281 okX7_put ⟨7, TX7, 4, rfl, rfl⟩ ⟨Nat.le_of_ble_eq_true rfl, Nat.le_of_ble_eq_true rfl⟩ (Nat.le_of_ble_eq_true rfl) (c_X7_put hsh (by omega) (by rw [c37]; exact hf7) (by omega)) ?_
      rintro _ rfl
      refine s_iinc_4 (pc := 94) dX8_write_94 (Nat.le_of_ble_eq_true rfl) rfl ?_
      refine s_goto (pc := 97) 68 dX8_write_97 rfl ?_
      refine s_le ?_ (ih (i + 1) _ (by omega) (by omega) (hF.wr (by decide)) (fun k => ?_) (by omega))
      · exact ⟨Or.inr rfl, Or.inr rfl, Or.inr rfl, Or.inr rfl, Or.inr rfl, trivial⟩
      · unfold wtJ
        by_cases hk : k = 60 * sh + i
        · rw [hk, wr_s, if_pos rfl, if_pos (by omega), show 60 * sh + i - 60 * sh = i by omega, c37]
        · rw [wr_s, if_neg hk, hv k]
          unfold wtJ
          by_cases hk2 : 60 * sh ≤ k ∧ k < 60 * sh + i
          · rw [if_pos hk2, if_pos (by omega)]
          · rw [if_neg hk2, if_neg (by omega)]
theorem c_X8_write {tx : Int → Int} {n p sh : Int} {hd lv : Int → Int} {μ : Mem} (h_p : -2147483648 ≤ p ∧ p < 2147483648) (h_sh : -2147483648 ≤ sh ∧ sh < 2147483648) (hza : ∀ s : Int, 0 ≤ s → s < 4 → -1 ≤ μ 36 s ∧ μ 36 s ≤ 60) (hfa : ∀ s : Int, 0 ≤ s → s < 4 → -2147483648 ≤ μ 37 s ∧ μ 37 s < 2147483648) (hQ : RQ tx n μ) (hn : 0 ≤ n ∧ n ≤ 60) (e10 : μ 10 = hd) (e11 : μ 11 = lv) (hhd : ∀ p : Int, 0 ≤ p → p < 4 → 0 ≤ hd p ∧ hd p ≤ 15) (hlv : ∀ p : Int, 0 ≤ p → p < 4 → 0 ≤ lv p ∧ lv p ≤ 4) : Mc kX8_write [.inr (.inr 0), .inl p, .inl sh] μ (pI (fun z ν => (if ((0 ≤ p ∧ p < pPe tx n) ∧ (0 ≤ sh ∧ sh ≤ 3)) then (if μ 36 sh = -1 then -11 else min (μ 36 sh) (pTa tx n)) else -2) = z ∧ Fr [17, 18, 19, 20, 21, 22, 23, 24, 25, 28, 29, 30, 105, 106, 107, 108, 109, 110, 111, 112, 113, 114, 116, 117, 118, 38, 120] μ ν ∧ (∀ k, ν 38 k = wtJ μ (cfg tx n hd lv) p sh (if ((0 ≤ p ∧ p < pPe tx n) ∧ (0 ≤ sh ∧ sh ≤ 3)) ∧ μ 36 sh ≠ -1 then min (μ 36 sh) (pTa tx n) else 0) k) ∧ ν 120 0 = (if ((0 ≤ p ∧ p < pPe tx n) ∧ (0 ≤ sh ∧ sh ≤ 3)) ∧ μ 36 sh = -1 then 1 else μ 120 0))) := by
  refine Mc_of (by decide +kernel) (fun _ => Nat.le_of_ble_eq_true rfl) ?_
  show AW kX8_write 0 [some (.inr (.inr 0)), some (.inl p), some (.inl sh), none, none] [] μ _
  obtain ⟨q1, q2, q3, q4, q5⟩ := id hQ
  have hpe := pPe_in (tx := tx) hn.1
  have hta := pTa_in (tx := tx) hn.1
  refine s_aload_0 (pc := 0) dX8_write_0 ?_
  refine s_iload_1 (pc := 1) dX8_write_1 ?_
  refine cV1i (pc := 2) (Ky := kX8_isPerson) dX8_write_2 rfl lnX8_99 okX8_isPerson ⟨8, TX8, 11, rfl, rfl⟩ ⟨Nat.le_of_ble_eq_true rfl, Nat.le_of_ble_eq_true rfl⟩ (Nat.le_of_ble_eq_true rfl) (c_X8_isPerson (by omega) q1 hpe) ?_
  rintro _ _ ⟨rfl, rfl⟩
  refine s_if_eq (pc := 5) 15 dX8_write_5 rfl (by omega) (fun h5 => ?_) (fun h5 => ?_)
  · refine s_bipush (pc := 15) (z := -2) dX8_write_15 rfl ?_
    refine s_ireturn (pc := 17) dX8_write_17 rfl ?_
    first
      | exact ⟨by rw [if_neg (by omega)], Fr.rf, fun k => by rw [if_neg (by omega), wtJ_0], by rw [if_neg (by omega)]⟩
      | exact ⟨by rw [if_pos (by omega), if_pos (by omega)]; rfl, Fr.rf.wr (by decide), fun k => by rw [if_neg (by omega), wtJ_0, wr_n (by decide)], by rw [if_pos (by omega), wr_s, if_pos rfl]⟩
  · refine s_iload_2 (pc := 8) dX8_write_8 ?_
    refine cS1i (pc := 9) (Ky := kX8_isSheet) dX8_write_9 rfl lnX8_242 okX8_isSheet ⟨Nat.le_of_ble_eq_true rfl, Nat.le_of_ble_eq_true rfl⟩ (Nat.le_of_ble_eq_true rfl) (c_X8_isSheet (by omega)) ?_
    rintro _ _ ⟨rfl, rfl⟩
    refine s_if_ne (pc := 12) 18 dX8_write_12 rfl (by omega) (fun h12 => ?_) (fun h12 => ?_)
    · have hz := hza sh (by omega) (by omega)
      have hf7 := hfa sh (by omega) (by omega)
      refine s_aload_0 (pc := 18) dX8_write_18 ?_
      refine gfX8_77 (pc := 19) dX8_write_19 rfl ?_
      refine s_iload_2 (pc := 22) dX8_write_22 ?_
      refine cV1i (pc := 23) (Ky := kX7_isLost) dX8_write_23 rfl lnX8_245 okX7_isLost ⟨7, TX7, 4, rfl, rfl⟩ ⟨Nat.le_of_ble_eq_true rfl, Nat.le_of_ble_eq_true rfl⟩ (Nat.le_of_ble_eq_true rfl) (c_X7_isLost (by omega) hz) ?_
      rintro _ _ ⟨rfl, rfl⟩
      refine s_if_eq (pc := 26) 38 dX8_write_26 rfl (by omega) (fun h26 => ?_) (fun h26 => ?_)
      · refine s_aload_0 (pc := 38) dX8_write_38 ?_
        refine gfX8_31 (pc := 39) dX8_write_39 rfl ?_
        refine cV0v (pc := 42) (Ky := kX1_gather) dX8_write_42 rfl lnX8_114 okX1_gather ⟨1, TX1, 13, rfl, rfl⟩ ⟨Nat.le_of_ble_eq_true rfl, Nat.le_of_ble_eq_true rfl⟩ (Nat.le_of_ble_eq_true rfl) (c_X1_gather hQ hn e10 e11 hhd hlv) ?_
        rintro ν42 ⟨hC42, hF42⟩
        have c36 : ν42 36 sh = μ 36 sh := hF42.at 36 rfl sh
        have c37 : ν42 37 sh = μ 37 sh := hF42.at 37 rfl sh
        have c103 : ν42 103 0 = pTa tx n := (hF42.at 103 rfl 0).trans q2
        refine s_aload_0 (pc := 45) dX8_write_45 ?_
        refine gfX8_77 (pc := 46) dX8_write_46 rfl ?_
        refine gfX8_251 (pc := 49) dX8_write_49 rfl ?_
        refine s_iload_2 (pc := 52) dX8_write_52 ?_
        refine z_iaload (pc := 53) dX8_write_53 ly_36 (by omega) (by omega) ?_
        try rw [c36]
        try rw [c103]
        refine s_aload_0 (pc := 54) dX8_write_54 ?_
        refine gfX8_12 (pc := 55) dX8_write_55 rfl ?_
        refine gfX8_121 (pc := 58) dX8_write_58 rfl ?_
        try rw [c36]
        try rw [c103]
        refine z_min (pc := 61) dX8_write_61 rfl lnX8_204 (Nat.le_of_ble_eq_true rfl) (Nat.le_of_ble_eq_true rfl) (by omega) (by omega) ?_
        refine s_istore_3 (pc := 64) dX8_write_64 (Nat.le_of_ble_eq_true rfl) rfl ?_
        refine s_iconst_0 (pc := 65) dX8_write_65 ?_
        refine s_istore_4 (pc := 66) dX8_write_66 (Nat.le_of_ble_eq_true rfl) rfl ?_
        refine AW.mono (lp_X8_write (κ := cfg tx n hd lv) (p := p) (sh := sh) (m := min (μ 36 sh) (pTa tx n)) hC42 (show 0 ≤ p ∧ p < pPe tx n by omega) (by omega) (show 0 ≤ min (μ 36 sh) (pTa tx n) ∧ min (μ 36 sh) (pTa tx n) ≤ pTa tx n by omega) (by rw [c37]; exact hf7) 5 0 ν42 (by omega) (by omega) Fr.rf (fun k => wtJ_0.symm) (by omega)) ?_
        rintro r ν ⟨z, rfl, rfl, hF3, hv3⟩
        refine ⟨_, rfl, by rw [if_pos (by omega), if_neg (by omega)], (hF42.mono (by decide)).tr (hF3.mono (by decide)), fun k => ?_, ?_⟩
        · rw [hv3 k, if_pos (by omega)]
          unfold wtJ
          rw [c37, hF42.at 38 rfl k]
        · rw [if_neg (by omega), hF3.at 120 rfl 0, hF42.at 120 rfl 0]
      · refine s_aload_0 (pc := 29) dX8_write_29 ?_
        refine gfX8_77 (pc := 30) dX8_write_30 rfl ?_
        refine s_iconst_1 (pc := 33) dX8_write_33 ?_
        refine cV1i (pc := 34) (Ky := kX7_find) dX8_write_34 rfl lnX8_248 okX7_find ⟨7, TX7, 4, rfl, rfl⟩ ⟨Nat.le_of_ble_eq_true rfl, Nat.le_of_ble_eq_true rfl⟩ (Nat.le_of_ble_eq_true rfl) (c_X7_find (by omega)) ?_
        rintro _ _ ⟨rfl, rfl⟩
        refine s_ireturn (pc := 37) dX8_write_37 rfl ?_
        first
          | exact ⟨by rw [if_neg (by omega)], Fr.rf, fun k => by rw [if_neg (by omega), wtJ_0], by rw [if_neg (by omega)]⟩
          | exact ⟨by rw [if_pos (by omega), if_pos (by omega)]; rfl, Fr.rf.wr (by decide), fun k => by rw [if_neg (by omega), wtJ_0, wr_n (by decide)], by rw [if_pos (by omega), wr_s, if_pos rfl]⟩
    · refine s_bipush (pc := 15) (z := -2) dX8_write_15 rfl ?_
      refine s_ireturn (pc := 17) dX8_write_17 rfl ?_
      first
        | exact ⟨by rw [if_neg (by omega)], Fr.rf, fun k => by rw [if_neg (by omega), wtJ_0], by rw [if_neg (by omega)]⟩
        | exact ⟨by rw [if_pos (by omega), if_pos (by omega)]; rfl, Fr.rf.wr (by decide), fun k => by rw [if_neg (by omega), wtJ_0, wr_n (by decide)], by rw [if_pos (by omega), wr_s, if_pos rfl]⟩
