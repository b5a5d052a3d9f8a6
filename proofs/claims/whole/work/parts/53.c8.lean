theorem c_X0_step {κ : Mem} {i k : Int} {μ : Mem} (hC : CR κ μ) (hi : 0 ≤ i ∧ i < 4) (hk : 0 ≤ k ∧ k ≤ 11) (hS : SR κ i μ) (h4 : μ 22 (5 * k + 4) = sty κ i) (hpp : ∀ p : Int, 0 ≤ p → p < κ 129 0 → μ 22 (5 * k + p) = pas κ i p) : Mc kX0_step [.inr (.inr 3), .inl i, .inl k] μ (pV (fun ν => SR κ (i + 1) ν ∧ Fr [23, 24, 25, 111] μ ν)) := by
  refine Mc_of (by decide +kernel) (fun _ => Nat.le_of_ble_eq_true rfl) ?_
  show AW kX0_step 0 [some (.inr (.inr 3)), some (.inl i), some (.inl k), none] [] μ _
  have r129 := hC.1.1
  have r126 := hC.1.2.2.1
  have c107 : μ 107 0 = κ 126 0 := hC.2.2.2.1
  refine s_iconst_5 (pc := 0) dX0_step_0 ?_
  refine s_iload_2 (pc := 1) dX0_step_1 ?_
  refine s_imul (pc := 2) dX0_step_2 ?_
  refine s_istore_3 (pc := 3) dX0_step_3 (Nat.le_of_ble_eq_true rfl) rfl ?_
  refine s_aload_0 (pc := 4) dX0_step_4 ?_
  refine gfX0_27 (pc := 5) dX0_step_5 rfl ?_
  refine gfX0_116 (pc := 8) dX0_step_8 rfl ?_
  try rw [c107]
  try rw [c107b]
  refine s_iconst_1 (pc := 11) dX0_step_11 ?_
  refine s_icmp_ne (pc := 12) 24 dX0_step_12 rfl (by omega) (by omega) (fun h12 => ?_) (fun h12 => ?_)
  · refine s_aload_0 (pc := 24) dX0_step_24 ?_
    refine s_iload_1 (pc := 25) dX0_step_25 ?_
    refine s_iload_3 (pc := 26) dX0_step_26 ?_
    refine cV2v (pc := 27) (Ky := kX0_stepOn) dX0_step_27 rfl lnX0_122 okX0_stepOn ⟨0, TX0, 7, rfl, rfl⟩ ⟨Nat.le_of_ble_eq_true rfl, Nat.le_of_ble_eq_true rfl⟩ (Nat.le_of_ble_eq_true rfl) (c_X0_stepOn hC hi (by omega) hS h4 hpp (by omega)) ?_
    rintro ν27 ⟨hF27, ho27, hv27⟩
    have c107b : ν27 107 0 = κ 126 0 := (hF27.at 107 rfl 0).trans c107
    have hS27 : SR κ i ν27 := ⟨fun m p m0 m1 p0 p1 => by rw [ho27 _ (by omega)]; exact hS.1 m p m0 m1 p0 p1, (hF27.at 111 rfl 0).trans hS.2.1, fun q p p0 p1 => (hF27.at 25 rfl p).trans (hS.2.2 q p p0 p1)⟩
    have hCx := hC.fr hF27 (by decide)
    have hSx : κ 126 0 = 2 → SR κ i ν27 := fun _ => hS27
    have h22x : ∀ k, ν27 22 k = μ 22 k := hF27.at 22 rfl
    have hup := opn_up (κ := κ) (i := i) hi.1
    rw [if_neg (by omega)] at hup
    refine s_aload_0 (pc := 30) dX0_step_30 ?_
    refine gfX0_27 (pc := 31) dX0_step_31 rfl ?_
    refine gfX0_116 (pc := 34) dX0_step_34 rfl ?_
    try rw [c107]
    try rw [c107b]
    refine s_iconst_2 (pc := 37) dX0_step_37 ?_
    refine s_icmp_ne (pc := 38) 46 dX0_step_38 rfl (by omega) (by omega) (fun h38 => ?_) (fun h38 => ?_)
    · refine s_return (pc := 46) dX0_step_46 rfl ?_
      first
        | (exfalso; omega; done)
        | (have hup := opn_up (κ := κ) (i := i) hi.1
           rw [if_pos (by omega)] at hup
           refine ⟨⟨fun m p m0 m1 p0 p1 => ?_, ?_, fun q => absurd q (by omega)⟩, hF18.mono (by decide)⟩
           · by_cases hm : m = i + 1
             · rw [hm]; exact hv18 p p0 p1
             · rw [ho18 _ (by omega)]; exact hS.1 m p m0 (by omega) p0 p1
           · rw [hw18, hup])
        | (refine ⟨⟨fun m p m0 m1 p0 p1 => ?_, ?_, fun _ => hv43⟩, (hF27.mono (by decide)).tr (hF43.mono (by decide))⟩
           · rw [hF43.at 23 rfl]
             by_cases hm : m = i + 1
             · rw [hm]; exact hv27 p p0 p1
             · rw [ho27 _ (by omega)]; exact hS.1 m p m0 (by omega) p0 p1
           · rw [hF43.at 111 rfl, hup]; exact hS27.2.1)
        | (refine ⟨⟨fun m p m0 m1 p0 p1 => ?_, ?_, fun q => absurd q (by omega)⟩, hF27.mono (by decide)⟩
           · by_cases hm : m = i + 1
             · rw [hm]; exact hv27 p p0 p1
             · rw [ho27 _ (by omega)]; exact hS.1 m p m0 (by omega) p0 p1
           · rw [hup]; exact hS27.2.1)
    · refine s_aload_0 (pc := 41) dX0_step_41 ?_
      refine s_iload_3 (pc := 42) dX0_step_42 ?_
      refine cV1v (pc := 43) (Ky := kX0_halve) dX0_step_43 rfl lnX0_125 okX0_halve ⟨0, TX0, 7, rfl, rfl⟩ ⟨Nat.le_of_ble_eq_true rfl, Nat.le_of_ble_eq_true rfl⟩ (Nat.le_of_ble_eq_true rfl) (c_X0_halve (i := i) hCx hi (by omega) (hSx (by omega)) ((h22x _).trans h4) (fun p p0 p1 => (h22x _).trans (hpp p p0 p1)) (by omega)) ?_
      rintro ν43 ⟨hF43, hv43⟩
      refine s_return (pc := 46) dX0_step_46 rfl ?_
      first
        | (exfalso; omega; done)
        | (have hup := opn_up (κ := κ) (i := i) hi.1
           rw [if_pos (by omega)] at hup
           refine ⟨⟨fun m p m0 m1 p0 p1 => ?_, ?_, fun q => absurd q (by omega)⟩, hF18.mono (by decide)⟩
           · by_cases hm : m = i + 1
             · rw [hm]; exact hv18 p p0 p1
             · rw [ho18 _ (by omega)]; exact hS.1 m p m0 (by omega) p0 p1
           · rw [hw18, hup])
        | (refine ⟨⟨fun m p m0 m1 p0 p1 => ?_, ?_, fun _ => hv43⟩, (hF27.mono (by decide)).tr (hF43.mono (by decide))⟩
           · rw [hF43.at 23 rfl]
             by_cases hm : m = i + 1
             · rw [hm]; exact hv27 p p0 p1
             · rw [ho27 _ (by omega)]; exact hS.1 m p m0 (by omega) p0 p1
           · rw [hF43.at 111 rfl, hup]; exact hS27.2.1)
        | (refine ⟨⟨fun m p m0 m1 p0 p1 => ?_, ?_, fun q => absurd q (by omega)⟩, hF27.mono (by decide)⟩
           · by_cases hm : m = i + 1
             · rw [hm]; exact hv27 p p0 p1
             · rw [ho27 _ (by omega)]; exact hS.1 m p m0 (by omega) p0 p1
           · rw [hup]; exact hS27.2.1)
  · refine s_aload_0 (pc := 15) dX0_step_15 ?_
    refine s_iload_1 (pc := 16) dX0_step_16 ?_
    refine s_iload_3 (pc := 17) dX0_step_17 ?_
    refine cV2v (pc := 18) (Ky := kX0_stepOnce) dX0_step_18 rfl lnX0_119 okX0_stepOnce ⟨0, TX0, 7, rfl, rfl⟩ ⟨Nat.le_of_ble_eq_true rfl, Nat.le_of_ble_eq_true rfl⟩ (Nat.le_of_ble_eq_true rfl) (c_X0_stepOnce hC hi (by omega) hS h4 hpp (by omega)) ?_
    rintro ν18 ⟨hF18, ho18, hv18, hw18⟩
    have c107b : ν18 107 0 = κ 126 0 := (hF18.at 107 rfl 0).trans c107
    have hCx := hC.fr hF18 (by decide)
    have hSx : κ 126 0 = 2 → SR κ i ν18 := fun q => absurd q (by omega)
    have h22x : ∀ k, ν18 22 k = μ 22 k := hF18.at 22 rfl
    refine s_goto (pc := 21) 30 dX0_step_21 rfl ?_
    refine s_aload_0 (pc := 30) dX0_step_30 ?_
    refine gfX0_27 (pc := 31) dX0_step_31 rfl ?_
    refine gfX0_116 (pc := 34) dX0_step_34 rfl ?_
    try rw [c107]
    try rw [c107b]
    refine s_iconst_2 (pc := 37) dX0_step_37 ?_
    refine s_icmp_ne (pc := 38) 46 dX0_step_38 rfl (by omega) (by omega) (fun h38 => ?_) (fun h38 => ?_)
    · refine s_return (pc := 46) dX0_step_46 rfl ?_
      first
        | (exfalso; omega; done)
        | (have hup := opn_up (κ := κ) (i := i) hi.1
           rw [if_pos (by omega)] at hup
           refine ⟨⟨fun m p m0 m1 p0 p1 => ?_, ?_, fun q => absurd q (by omega)⟩, hF18.mono (by decide)⟩
           · by_cases hm : m = i + 1
             · rw [hm]; exact hv18 p p0 p1
             · rw [ho18 _ (by omega)]; exact hS.1 m p m0 (by omega) p0 p1
           · rw [hw18, hup])
        | (refine ⟨⟨fun m p m0 m1 p0 p1 => ?_, ?_, fun _ => hv43⟩, (hF27.mono (by decide)).tr (hF43.mono (by decide))⟩
           · rw [hF43.at 23 rfl]
             by_cases hm : m = i + 1
             · rw [hm]; exact hv27 p p0 p1
             · rw [ho27 _ (by omega)]; exact hS.1 m p m0 (by omega) p0 p1
           · rw [hF43.at 111 rfl, hup]; exact hS27.2.1)
        | (refine ⟨⟨fun m p m0 m1 p0 p1 => ?_, ?_, fun q => absurd q (by omega)⟩, hF27.mono (by decide)⟩
           · by_cases hm : m = i + 1
             · rw [hm]; exact hv27 p p0 p1
             · rw [ho27 _ (by omega)]; exact hS.1 m p m0 (by omega) p0 p1
           · rw [hup]; exact hS27.2.1)
    · refine s_aload_0 (pc := 41) dX0_step_41 ?_
      refine s_iload_3 (pc := 42) dX0_step_42 ?_
      refine cV1v (pc := 43) (Ky := kX0_halve) dX0_step_43 rfl lnX0_125 okX0_halve ⟨0, TX0, 7, rfl, rfl⟩ ⟨Nat.le_of_ble_eq_true rfl, Nat.le_of_ble_eq_true rfl⟩ (Nat.le_of_ble_eq_true rfl) (c_X0_halve (i := i) hCx hi (by omega) (hSx (by omega)) ((h22x _).trans h4) (fun p p0 p1 => (h22x _).trans (hpp p p0 p1)) (by omega)) ?_
      rintro ν43 ⟨hF43, hv43⟩
      refine s_return (pc := 46) dX0_step_46 rfl ?_
      first
        | (exfalso; omega; done)
        | (have hup := opn_up (κ := κ) (i := i) hi.1
           rw [if_pos (by omega)] at hup
           refine ⟨⟨fun m p m0 m1 p0 p1 => ?_, ?_, fun q => absurd q (by omega)⟩, hF18.mono (by decide)⟩
           · by_cases hm : m = i + 1
             · rw [hm]; exact hv18 p p0 p1
             · rw [ho18 _ (by omega)]; exact hS.1 m p m0 (by omega) p0 p1
           · rw [hw18, hup])
        | (refine ⟨⟨fun m p m0 m1 p0 p1 => ?_, ?_, fun _ => hv43⟩, (hF27.mono (by decide)).tr (hF43.mono (by decide))⟩
           · rw [hF43.at 23 rfl]
             by_cases hm : m = i + 1
             · rw [hm]; exact hv27 p p0 p1
             · rw [ho27 _ (by omega)]; exact hS.1 m p m0 (by omega) p0 p1
           · rw [hF43.at 111 rfl, hup]; exact hS27.2.1)
        | (refine ⟨⟨fun m p m0 m1 p0 p1 => ?_, ?_, fun q => absurd q (by omega)⟩, hF27.mono (by decide)⟩
           · by_cases hm : m = i + 1
             · rw [hm]; exact hv27 p p0 p1
             · rw [ho27 _ (by omega)]; exact hS.1 m p m0 (by omega) p0 p1
           · rw [hup]; exact hS27.2.1)
