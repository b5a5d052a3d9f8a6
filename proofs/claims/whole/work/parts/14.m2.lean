def cutF (form v : Int) : Int := if form = 0 then (Int32.ofInt v).toInt8.toInt else if form = 1 then (Int32.ofInt v).toInt16.toInt else v
theorem cutF_in {form v : Int} (h : -2147483648 ≤ v ∧ v < 2147483648) : -2147483648 ≤ cutF form v ∧ cutF form v < 2147483648 := by
  unfold cutF
  have h1 := (Int32.ofInt v).toInt8.toInt_lt
  have h2 := (Int32.ofInt v).toInt8.le_toInt
  have h3 := (Int32.ofInt v).toInt16.toInt_lt
  have h4 := (Int32.ofInt v).toInt16.le_toInt
  split
  · omega
  · split <;> omega
theorem wr_wa {μ : Mem} {c : Nat} {f : Int → Int} {k z : Int} : wr (wa μ c f) c k z = wa μ c (fun j => if j = k then z else f j) := by
  funext c' j
  by_cases h : c' = c
  · subst h; simp [wr, wa]
  · simp [wr, wa, h]
theorem wa_ext {μ : Mem} {c : Nat} {f g : Int → Int} (h : ∀ j, f j = g j) : wa μ c f = wa μ c g := by rw [funext h]
theorem wa_self {μ : Mem} {c : Nat} {f : Int → Int} (h : ∀ j, f j = μ c j) : wa μ c f = μ := by
  funext c' j
  by_cases h1 : c' = c
  · subst h1; simp [wa, h]
  · simp [wa, h1]
theorem wr_s {μ : Mem} {c : Nat} {k k' z : Int} : wr μ c k z c k' = if k' = k then z else μ c k' := wr_c
theorem wr_n {μ : Mem} {c c' : Nat} {k k' z : Int} (h : c' ≠ c) : wr μ c k z c' k' = μ c' k' := by rw [wr_nc h]
theorem wa_s {μ : Mem} {c : Nat} {f : Int → Int} {k : Int} : wa μ c f c k = f k := by rw [wa_c]
theorem wa_n {μ : Mem} {c c' : Nat} {f : Int → Int} {k : Int} (h : c' ≠ c) : wa μ c f c' k = μ c' k := by rw [wa_nc h]
theorem mg_i {F : List Nat} {ν μ : Mem} {c : Nat} {k : Int} (h : c ∈ F) : mg F ν μ c k = ν c k := by rw [mg_in h]
theorem mg_o {F : List Nat} {ν μ : Mem} {c : Nat} {k : Int} (h : c ∉ F) : mg F ν μ c k = μ c k := by rw [mg_out h]
theorem c_X9_lacks {s form i : Int} {μ : Mem} (hs : 0 ≤ s ∧ s < 4) (hS : (μ 39 s = -1 ∨ 0 ≤ μ 39 s ∧ μ 39 s ≤ 2) ∧ 0 ≤ μ 40 s ∧ μ 40 s ≤ 60) (h_form : -2147483648 ≤ form ∧ form < 2147483648) (h_i : -2147483648 ≤ i ∧ i < 2147483648) : Mc kX9_lacks [.inr (.inr 9), .inl s, .inl form, .inl i] μ (pI (fun z ν => (μ 39 s < 0 ∧ -11 = z ∧ wr μ 121 0 1 = ν) ∨ ((0 ≤ μ 39 s ∧ μ 39 s ≠ form) ∧ -13 = z ∧ wr μ 121 0 3 = ν) ∨ ((0 ≤ μ 39 s ∧ μ 39 s = form ∧ 0 ≤ i ∧ i < μ 40 s) ∧ 0 = z ∧ μ = ν) ∨ ((0 ≤ μ 39 s ∧ μ 39 s = form ∧ (i < 0 ∨ μ 40 s ≤ i)) ∧ -12 = z ∧ wr μ 121 0 2 = ν))) := by
  refine Mc_of (by decide +kernel) (fun _ => Nat.le_of_ble_eq_true rfl) ?_
  show AW kX9_lacks 0 [some (.inr (.inr 9)), some (.inl s), some (.inl form), some (.inl i)] [] μ _
  refine s_aload_0 (pc := 0) dX9_lacks_0 ?_
  refine gfX9_7 (pc := 1) dX9_lacks_1 rfl ?_
  refine s_iload_1 (pc := 4) dX9_lacks_4 ?_
  refine z_iaload (pc := 5) dX9_lacks_5 ly_39 (by omega) (by omega) ?_
  refine s_if_ge (pc := 6) 15 dX9_lacks_6 rfl (by omega) (fun h6 => ?_) (fun h6 => ?_)
  · refine s_aload_0 (pc := 15) dX9_lacks_15 ?_
    refine gfX9_7 (pc := 16) dX9_lacks_16 rfl ?_
    refine s_iload_1 (pc := 19) dX9_lacks_19 ?_
    refine z_iaload (pc := 20) dX9_lacks_20 ly_39 (by omega) (by omega) ?_
    refine s_iload_2 (pc := 21) dX9_lacks_21 ?_
    refine s_icmp_eq (pc := 22) 31 dX9_lacks_22 rfl (by omega) (by omega) (fun h22 => ?_) (fun h22 => ?_)
    · refine s_iload_3 (pc := 31) dX9_lacks_31 ?_
      refine s_i2l (pc := 32) dX9_lacks_32 (by omega) ?_
      refine s_lconst_0 (pc := 33) dX9_lacks_33 ?_
      refine s_aload_0 (pc := 34) dX9_lacks_34 ?_
      refine gfX9_13 (pc := 35) dX9_lacks_35 rfl ?_
      refine s_iload_1 (pc := 38) dX9_lacks_38 ?_
      refine z_iaload (pc := 39) dX9_lacks_39 ly_40 (by omega) (by omega) ?_
      refine s_iconst_1 (pc := 40) dX9_lacks_40 ?_
      refine s_isub (pc := 41) dX9_lacks_41 ?_
      refine s_i2l (pc := 42) dX9_lacks_42 (by omega) ?_
      refine cS3i (pc := 43) (Ky := kX9_in) dX9_lacks_43 rfl lnX9_89 okX9_in ⟨Nat.le_of_ble_eq_true rfl, Nat.le_of_ble_eq_true rfl⟩ (Nat.le_of_ble_eq_true rfl) (c_X9_in (by omega) (by omega) (by omega)) ?_
      rintro _ _ ⟨rfl, rfl⟩
      refine s_if_eq (pc := 46) 53 dX9_lacks_46 rfl (by omega) (fun h46 => ?_) (fun h46 => ?_)
      · refine s_aload_0 (pc := 53) dX9_lacks_53 ?_
        refine s_iconst_2 (pc := 54) dX9_lacks_54 ?_
        refine cV1i (pc := 55) (Ky := kX9_met) dX9_lacks_55 rfl lnX9_105 okX9_met ⟨9, TX9, 40, rfl, rfl⟩ ⟨Nat.le_of_ble_eq_true rfl, Nat.le_of_ble_eq_true rfl⟩ (Nat.le_of_ble_eq_true rfl) (c_X9_met (by omega)) ?_
        rintro _ _ ⟨rfl, rfl⟩
        refine s_ireturn (pc := 58) dX9_lacks_58 rfl ?_
        first | exact Or.inl (⟨by omega, by omega, rfl⟩) | exact Or.inr (Or.inl (⟨by omega, by omega, rfl⟩)) | exact Or.inr (Or.inr (Or.inl (⟨by omega, by omega, rfl⟩))) | exact Or.inr (Or.inr (Or.inr (⟨by omega, by omega, rfl⟩))) | (exfalso; omega)
      · refine s_iconst_0 (pc := 49) dX9_lacks_49 ?_
        refine s_goto (pc := 50) 58 dX9_lacks_50 rfl ?_
        refine s_ireturn (pc := 58) dX9_lacks_58 rfl ?_
        first | exact Or.inl (⟨by omega, by omega, rfl⟩) | exact Or.inr (Or.inl (⟨by omega, by omega, rfl⟩)) | exact Or.inr (Or.inr (Or.inl (⟨by omega, by omega, rfl⟩))) | exact Or.inr (Or.inr (Or.inr (⟨by omega, by omega, rfl⟩))) | (exfalso; omega)
    · refine s_aload_0 (pc := 25) dX9_lacks_25 ?_
      refine s_iconst_3 (pc := 26) dX9_lacks_26 ?_
      refine cV1i (pc := 27) (Ky := kX9_met) dX9_lacks_27 rfl lnX9_105 okX9_met ⟨9, TX9, 40, rfl, rfl⟩ ⟨Nat.le_of_ble_eq_true rfl, Nat.le_of_ble_eq_true rfl⟩ (Nat.le_of_ble_eq_true rfl) (c_X9_met (by omega)) ?_
      rintro _ _ ⟨rfl, rfl⟩
      refine s_ireturn (pc := 30) dX9_lacks_30 rfl ?_
      first | exact Or.inl (⟨by omega, by omega, rfl⟩) | exact Or.inr (Or.inl (⟨by omega, by omega, rfl⟩)) | exact Or.inr (Or.inr (Or.inl (⟨by omega, by omega, rfl⟩))) | exact Or.inr (Or.inr (Or.inr (⟨by omega, by omega, rfl⟩))) | (exfalso; omega)
  · refine s_aload_0 (pc := 9) dX9_lacks_9 ?_
    refine s_iconst_1 (pc := 10) dX9_lacks_10 ?_
    refine cV1i (pc := 11) (Ky := kX9_met) dX9_lacks_11 rfl lnX9_105 okX9_met ⟨9, TX9, 40, rfl, rfl⟩ ⟨Nat.le_of_ble_eq_true rfl, Nat.le_of_ble_eq_true rfl⟩ (Nat.le_of_ble_eq_true rfl) (c_X9_met (by omega)) ?_
    rintro _ _ ⟨rfl, rfl⟩
    refine s_ireturn (pc := 14) dX9_lacks_14 rfl ?_
    first | exact Or.inl (⟨by omega, by omega, rfl⟩) | exact Or.inr (Or.inl (⟨by omega, by omega, rfl⟩)) | exact Or.inr (Or.inr (Or.inl (⟨by omega, by omega, rfl⟩))) | exact Or.inr (Or.inr (Or.inr (⟨by omega, by omega, rfl⟩))) | (exfalso; omega)
theorem c_X9_cut {form v : Int} {μ : Mem} (h_form : -2147483648 ≤ form ∧ form < 2147483648) (h_v : -2147483648 ≤ v ∧ v < 2147483648) : Mc kX9_cut [.inl form, .inl v] μ (pI (fun z ν => cutF form v = z ∧ μ = ν)) := by
  refine Mc_of (by decide +kernel) (fun _ => Nat.le_of_ble_eq_true rfl) ?_
  show AW kX9_cut 0 [some (.inl form), some (.inl v)] [] μ _
  refine s_iload_0 (pc := 0) dX9_cut_0 ?_
  refine s_if_ne (pc := 1) 9 dX9_cut_1 rfl (by omega) (fun h1 => ?_) (fun h1 => ?_)
  · refine s_iload_0 (pc := 9) dX9_cut_9 ?_
    refine s_iconst_1 (pc := 10) dX9_cut_10 ?_
    refine s_icmp_ne (pc := 11) 19 dX9_cut_11 rfl (by omega) (by omega) (fun h11 => ?_) (fun h11 => ?_)
    · refine s_iload_1 (pc := 19) dX9_cut_19 ?_
      refine s_ireturn (pc := 20) dX9_cut_20 rfl ?_
      refine ⟨?_, rfl⟩
      first | (rw [cutF, if_pos (by omega)]; done) | (rw [cutF, if_neg (by omega), if_pos (by omega)]; done) | rw [cutF, if_neg (by omega), if_neg (by omega)]
    · refine s_iload_1 (pc := 14) dX9_cut_14 ?_
      refine s_i2s (pc := 15) dX9_cut_15 ?_
      refine s_goto (pc := 16) 20 dX9_cut_16 rfl ?_
      refine s_ireturn (pc := 20) dX9_cut_20 rfl ?_
      refine ⟨?_, rfl⟩
      first | (rw [cutF, if_pos (by omega)]; done) | (rw [cutF, if_neg (by omega), if_pos (by omega)]; done) | rw [cutF, if_neg (by omega), if_neg (by omega)]
  · refine s_iload_1 (pc := 4) dX9_cut_4 ?_
    refine s_i2b (pc := 5) dX9_cut_5 ?_
    refine s_goto (pc := 6) 20 dX9_cut_6 rfl ?_
    refine s_ireturn (pc := 20) dX9_cut_20 rfl ?_
    refine ⟨?_, rfl⟩
    first | (rw [cutF, if_pos (by omega)]; done) | (rw [cutF, if_neg (by omega), if_pos (by omega)]; done) | rw [cutF, if_neg (by omega), if_neg (by omega)]
theorem c_X9_lose {s : Int} {μ : Mem} (h_s : -2147483648 ≤ s ∧ s < 2147483648) (hS : ∀ s : Int, 0 ≤ s → s < 4 → (μ 39 s = -1 ∨ 0 ≤ μ 39 s ∧ μ 39 s ≤ 2) ∧ 0 ≤ μ 40 s ∧ μ 40 s ≤ 60) : Mc kX9_lose [.inr (.inr 9), .inl s] μ (pI (fun z ν => ((s < 0 ∨ 3 < s) ∧ -2 = z ∧ μ = ν) ∨ ((0 ≤ s ∧ s ≤ 3 ∧ μ 39 s < 0) ∧ -11 = z ∧ wr μ 121 0 1 = ν) ∨ ((0 ≤ s ∧ s ≤ 3 ∧ 0 ≤ μ 39 s) ∧ μ 40 s = z ∧ wr μ 39 s (-1) = ν))) := by
  refine Mc_of (by decide +kernel) (fun _ => Nat.le_of_ble_eq_true rfl) ?_
  show AW kX9_lose 0 [some (.inr (.inr 9)), some (.inl s)] [] μ _
  refine s_iload_1 (pc := 0) dX9_lose_0 ?_
  refine cS1i (pc := 1) (Ky := kX9_isSheet) dX9_lose_1 rfl lnX9_99 okX9_isSheet ⟨Nat.le_of_ble_eq_true rfl, Nat.le_of_ble_eq_true rfl⟩ (Nat.le_of_ble_eq_true rfl) (c_X9_isSheet (by omega)) ?_
  rintro _ _ ⟨rfl, rfl⟩
  refine s_if_ne (pc := 4) 10 dX9_lose_4 rfl (by omega) (fun h4 => ?_) (fun h4 => ?_)
  · have hs := hS s (by omega) (by omega)
    refine s_aload_0 (pc := 10) dX9_lose_10 ?_
    refine gfX9_7 (pc := 11) dX9_lose_11 rfl ?_
    refine s_iload_1 (pc := 14) dX9_lose_14 ?_
    refine z_iaload (pc := 15) dX9_lose_15 ly_39 (by omega) (by omega) ?_
    refine s_if_ge (pc := 16) 25 dX9_lose_16 rfl (by omega) (fun h16 => ?_) (fun h16 => ?_)
    · refine s_aload_0 (pc := 25) dX9_lose_25 ?_
      refine gfX9_7 (pc := 26) dX9_lose_26 rfl ?_
      refine s_iload_1 (pc := 29) dX9_lose_29 ?_
      refine s_iconst_m1 (pc := 30) dX9_lose_30 ?_
      refine z_iastore (pc := 31) dX9_lose_31 ly_39 ip_39 (by omega) (by omega) ?_
      refine s_aload_0 (pc := 32) dX9_lose_32 ?_
      refine gfX9_13 (pc := 33) dX9_lose_33 rfl ?_
      refine s_iload_1 (pc := 36) dX9_lose_36 ?_
      refine z_iaload (pc := 37) dX9_lose_37 ly_40 (by omega) (by omega) ?_
      refine s_valI (y := μ 40 s) (wr_n (by decide)) ?_
      refine s_ireturn (pc := 38) dX9_lose_38 rfl ?_
      first | exact Or.inl (⟨by omega, by omega, rfl⟩) | exact Or.inr (Or.inl (⟨by omega, by omega, rfl⟩)) | exact Or.inr (Or.inr (⟨by omega, by omega, rfl⟩)) | (exfalso; omega)
    · refine s_aload_0 (pc := 19) dX9_lose_19 ?_
      refine s_iconst_1 (pc := 20) dX9_lose_20 ?_
      refine cV1i (pc := 21) (Ky := kX9_met) dX9_lose_21 rfl lnX9_105 okX9_met ⟨9, TX9, 40, rfl, rfl⟩ ⟨Nat.le_of_ble_eq_true rfl, Nat.le_of_ble_eq_true rfl⟩ (Nat.le_of_ble_eq_true rfl) (c_X9_met (by omega)) ?_
      rintro _ _ ⟨rfl, rfl⟩
      refine s_ireturn (pc := 24) dX9_lose_24 rfl ?_
      first | exact Or.inl (⟨by omega, by omega, rfl⟩) | exact Or.inr (Or.inl (⟨by omega, by omega, rfl⟩)) | exact Or.inr (Or.inr (⟨by omega, by omega, rfl⟩)) | (exfalso; omega)
  · refine s_bipush (pc := 7) (z := -2) dX9_lose_7 rfl ?_
    refine s_ireturn (pc := 9) dX9_lose_9 rfl ?_
    first | exact Or.inl (⟨by omega, by omega, rfl⟩) | exact Or.inr (Or.inl (⟨by omega, by omega, rfl⟩)) | exact Or.inr (Or.inr (⟨by omega, by omega, rfl⟩)) | (exfalso; omega)
