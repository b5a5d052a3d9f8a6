theorem ln_OWED : Cond.fieldLink "LaughsLast$Chances" 31 "LaughsLast$Chances" "OWED" "[J" ∈ tblG := tc_3 4 rfl rfl
theorem ln_COSTS : Cond.fieldLink "LaughsLast$Chances" 40 "LaughsLast$Chances" "COSTS" "[J" ∈ tblG := tc_3 57 rfl rfl
/-! ===== the class's chain ===== -/
theorem owI_eq {i : Int} (h : 0 ≤ i ∧ i ≤ 4) : owI i = 3072 ^ i.toNat := by
  rcases (show i = 0 ∨ i = 1 ∨ i = 2 ∨ i = 3 ∨ i = 4 by omega) with rfl | rfl | rfl | rfl | rfl <;> decide
theorem coI_eq {i : Int} (h : 0 ≤ i ∧ i ≤ 4) : coI i = 6144 ^ i.toNat := by
  rcases (show i = 0 ∨ i = 1 ∨ i = 2 ∨ i = 3 ∨ i = 4 by omega) with rfl | rfl | rfl | rfl | rfl <;> decide
theorem opn_p {κ : Mem} {p : Int} : ∀ i : Nat, opn κ i p = opn κ i 0
  | 0 => rfl
  | i + 1 => by
    have ih := opn_p (κ := κ) (p := p) i
    unfold opn at ih ⊢
    unfold OW
    split
    · dsimp only; rw [ih]
    · exact ih
theorem ow_up {κ : Mem} {i p : Int} (h : 0 ≤ i) : ow κ (i + 1).toNat p = if κ 126 0 = 1 then ow κ i.toNat p * 3072 + opn κ i.toNat 0 * pas κ i p - (if p = κ 128 0 then opn κ i.toNat 0 * (3072 - sty κ i) else 0) else ow κ i.toNat p * sty κ i + 3072 ^ i.toNat * pas κ i p := by
  rw [show (i + 1).toNat = i.toNat + 1 by omega, ← opn_p (p := p) i.toNat]
  show (OW κ (i.toNat + 1) p).1 = _
  unfold OW
  rw [show ((i.toNat : Nat) : Int) = i by omega]
  split <;> rfl
theorem opn_up {κ : Mem} {i : Int} (h : 0 ≤ i) : opn κ (i + 1).toNat 0 = if κ 126 0 = 1 then opn κ i.toNat 0 * sty κ i else opn κ i.toNat 0 := by
  rw [show (i + 1).toNat = i.toNat + 1 by omega]
  show (OW κ (i.toNat + 1) 0).2 = _
  unfold OW
  rw [show ((i.toNat : Nat) : Int) = i by omega]
  split <;> rfl
theorem AH_up {κ : Mem} {i p : Int} (h : 0 ≤ i) : AH κ (i + 1).toNat p = 2 * AH κ i.toNat p * (sty κ i + pas κ i p) + (sm (AH κ i.toNat) (κ 129 0).toNat - AH κ i.toNat p) * pas κ i p := by
  rw [show (i + 1).toNat = i.toNat + 1 by omega]
  show 2 * AH κ i.toNat p * (sty κ ((i.toNat : Nat) : Int) + pas κ ((i.toNat : Nat) : Int) p) + (sm (AH κ i.toNat) (κ 129 0).toNat - AH κ i.toNat p) * pas κ ((i.toNat : Nat) : Int) p = _
  rw [show ((i.toNat : Nat) : Int) = i by omega]
/-- where the chain stands -/
def SR (κ : Mem) (i : Int) (μ : Mem) : Prop := (∀ m p : Int, 0 ≤ m → m ≤ i → 0 ≤ p → p < κ 129 0 → μ 23 (4 * m + p) = ow κ m.toNat p) ∧ μ 111 0 = opn κ i.toNat 0 ∧ (κ 126 0 = 2 → ∀ p : Int, 0 ≤ p → p < κ 129 0 → μ 25 p = AH κ i.toNat p)
theorem lp_X0_stepOn {κ : Mem} {i a : Int} {μ : Mem} (hC : CR κ μ) (hi : 0 ≤ i ∧ i < 4) (ha : 0 ≤ a ∧ a ≤ 55) (hS : SR κ i μ) (h4 : μ 22 (a + 4) = sty κ i) (hpp : ∀ p : Int, 0 ≤ p → p < κ 129 0 → μ 22 (a + p) = pas κ i p) (hl : κ 126 0 ≠ 1) : ∀ (f : Nat) (p : Int) (ν : Mem), (0 ≤ p) → (p ≤ κ 129 0) → (Fr [23] μ ν) → (∀ j : Int, j < 4 * (i + 1) → ν 23 j = μ 23 j) → (∀ q : Int, 0 ≤ q → q < p → ν 23 (4 * (i + 1) + q) = ow κ (i + 1).toNat q) → κ 129 0 - p < (f : Int) → AW kX0_stepOn 2 [some (.inr (.inr 3)), some (.inl i), some (.inl a), some (.inl p)] [] ν (pV (fun ν => Fr [23] μ ν ∧ (∀ j : Int, j < 4 * (i + 1) → ν 23 j = μ 23 j) ∧ ∀ q : Int, 0 ≤ q → q < κ 129 0 → ν 23 (4 * (i + 1) + q) = ow κ (i + 1).toNat q)) := by
  intro f
  induction f with
  | zero =>
    intro p ν h0 h1 hF ho hv hm
    exfalso; omega
  | succ f ih =>
    intro p ν h0 h1 hF ho hv hm
    have hCν := hC.fr hF (by decide)
    have r129 := hC.1.1
    have c105 := hCν.2.1
    have c109 : ν 109 0 = κ 128 0 := hCν.2.2.2.2.2.1
    have r128 := hC.1.2.2.2.2.1
    have c4 : ν 22 (a + 4) = sty κ i := (hF.at 22 rfl _).trans h4
    have cp : p < κ 129 0 → ν 22 (a + p) = pas κ i p := fun q => (hF.at 22 rfl _).trans (hpp p h0 q)
    have cw : p < κ 129 0 → ν 23 (4 * i + p) = ow κ i.toNat p := fun q => (ho _ (by omega)).trans (hS.1 i p hi.1 (Int.le_refl _) h0 q)
    have hup := ow_up (κ := κ) (p := p) hi.1
    rw [if_neg hl] at hup
    refine s_iload_3 (pc := 2) dX0_stepOn_2 ?_
    refine s_aload_0 (pc := 3) dX0_stepOn_3 ?_
    refine gfX0_27 (pc := 4) dX0_stepOn_4 rfl ?_
    refine gfX0_91 (pc := 7) dX0_stepOn_7 rfl ?_
    try rw [c105]
    try rw [c4]
    refine s_icmp_ge (pc := 10) 65 dX0_stepOn_10 rfl (by omega) (by omega) (fun h10 => ?_) (fun h10 => ?_)
    · refine s_return (pc := 65) dX0_stepOn_65 rfl ?_
      cases (show p = κ 129 0 by omega)
      exact ⟨hF, ho, hv⟩
    · refine s_aload_0 (pc := 13) dX0_stepOn_13 ?_
      refine gfX0_18 (pc := 14) dX0_stepOn_14 rfl ?_
      refine s_iconst_4 (pc := 17) dX0_stepOn_17 ?_
      refine s_iload_1 (pc := 18) dX0_stepOn_18 ?_
      refine s_iconst_1 (pc := 19) dX0_stepOn_19 ?_
      refine s_iadd (pc := 20) dX0_stepOn_20 ?_
      refine s_imul (pc := 21) dX0_stepOn_21 ?_
      refine s_iload_3 (pc := 22) dX0_stepOn_22 ?_
      refine s_iadd (pc := 23) dX0_stepOn_23 ?_
      refine s_aload_0 (pc := 24) dX0_stepOn_24 ?_
      refine gfX0_18 (pc := 25) dX0_stepOn_25 rfl ?_
      refine s_iconst_4 (pc := 28) dX0_stepOn_28 ?_
      refine s_iload_1 (pc := 29) dX0_stepOn_29 ?_
      refine s_imul (pc := 30) dX0_stepOn_30 ?_
      refine s_iload_3 (pc := 31) dX0_stepOn_31 ?_
      refine s_iadd (pc := 32) dX0_stepOn_32 ?_
      refine z_laload (pc := 33) dX0_stepOn_33 ly_23 (by omega) (by omega) ?_
      try rw [c105]
      try rw [c4]
      rw [cw (by omega)]
      refine s_aload_0 (pc := 34) dX0_stepOn_34 ?_
      refine gfX0_15 (pc := 35) dX0_stepOn_35 rfl ?_
      refine s_iload_2 (pc := 38) dX0_stepOn_38 ?_
      refine s_iconst_4 (pc := 39) dX0_stepOn_39 ?_
      refine s_iadd (pc := 40) dX0_stepOn_40 ?_
      refine z_laload (pc := 41) dX0_stepOn_41 ly_22 (by omega) (by omega) ?_
      try rw [c105]
      try rw [c4]
      refine s_lmul (pc := 42) dX0_stepOn_42 ?_
      refine z_getOWED (pc := 43) dX0_stepOn_43 rfl ln_OWED ?_
      refine s_iload_1 (pc := 46) dX0_stepOn_46 ?_
      refine z_laOWED (pc := 47) dX0_stepOn_47 (by omega) (by omega) ?_
      try rw [c105]
      try rw [c4]
      rw [owI_eq (by omega)]
      refine s_aload_0 (pc := 48) dX0_stepOn_48 ?_
      refine gfX0_15 (pc := 49) dX0_stepOn_49 rfl ?_
      refine s_iload_2 (pc := 52) dX0_stepOn_52 ?_
      refine s_iload_3 (pc := 53) dX0_stepOn_53 ?_
      refine s_iadd (pc := 54) dX0_stepOn_54 ?_
      refine z_laload (pc := 55) dX0_stepOn_55 ly_22 (by omega) (by omega) ?_
      try rw [c105]
      try rw [c4]
      rw [cp (by omega)]
      refine s_lmul (pc := 56) dX0_stepOn_56 ?_
      refine s_ladd (pc := 57) dX0_stepOn_57 ?_
      refine z_lastore (pc := 58) dX0_stepOn_58 ly_23 ip_23 (by omega) (by omega) ?_
      refine s_iinc_3 (pc := 59) dX0_stepOn_59 (Nat.le_of_ble_eq_true rfl) rfl ?_
      refine s_goto (pc := 62) 2 dX0_stepOn_62 rfl ?_
      refine s_le ?_ (ih (p + 1) _ (by omega) (by omega) (hF.wr (by decide)) (fun j hj => by rw [wr_s, if_neg (by omega)]; exact ho j hj) (fun q q0 q1 => ?_) (by omega))
      · exact ⟨Or.inr rfl, Or.inr rfl, Or.inr rfl, Or.inr rfl, trivial⟩
      by_cases hq : q = p
      · rw [hq, wr_s, if_pos rfl, hup]
      · rw [wr_s, if_neg (by omega)]; exact hv q q0 (by omega)
theorem c_X0_stepOn {κ : Mem} {i a : Int} {μ : Mem} (hC : CR κ μ) (hi : 0 ≤ i ∧ i < 4) (ha : 0 ≤ a ∧ a ≤ 55) (hS : SR κ i μ) (h4 : μ 22 (a + 4) = sty κ i) (hpp : ∀ p : Int, 0 ≤ p → p < κ 129 0 → μ 22 (a + p) = pas κ i p) (hl : κ 126 0 ≠ 1) : Mc kX0_stepOn [.inr (.inr 3), .inl i, .inl a] μ (pV (fun ν => Fr [23] μ ν ∧ (∀ j : Int, j < 4 * (i + 1) → ν 23 j = μ 23 j) ∧ ∀ q : Int, 0 ≤ q → q < κ 129 0 → ν 23 (4 * (i + 1) + q) = ow κ (i + 1).toNat q)) := by
  refine Mc_of (by decide +kernel) (fun _ => Nat.le_of_ble_eq_true rfl) ?_
  show AW kX0_stepOn 0 [some (.inr (.inr 3)), some (.inl i), some (.inl a), none] [] μ _
  refine s_iconst_0 (pc := 0) dX0_stepOn_0 ?_
  refine s_istore_3 (pc := 1) dX0_stepOn_1 (Nat.le_of_ble_eq_true rfl) rfl ?_
  have r129 := hC.1.1
  exact lp_X0_stepOn hC hi ha hS h4 hpp hl 5 0 μ (by omega) (by omega) Fr.rf (fun _ _ => rfl) (fun q q0 q1 => by omega) (by omega)
theorem lp_X0_stepOnce {κ : Mem} {i a : Int} {μ : Mem} (hC : CR κ μ) (hi : 0 ≤ i ∧ i < 4) (ha : 0 ≤ a ∧ a ≤ 55) (hS : SR κ i μ) (h4 : μ 22 (a + 4) = sty κ i) (hpp : ∀ p : Int, 0 ≤ p → p < κ 129 0 → μ 22 (a + p) = pas κ i p) (hl : κ 126 0 = 1) : ∀ (f : Nat) (p : Int) (ν : Mem), (0 ≤ p) → (p ≤ κ 129 0) → (Fr [23] μ ν) → (∀ j : Int, j < 4 * (i + 1) → ν 23 j = μ 23 j) → (∀ q : Int, 0 ≤ q → q < p → ν 23 (4 * (i + 1) + q) = ow κ (i + 1).toNat q) → κ 129 0 - p < (f : Int) → AW kX0_stepOnce 12 [some (.inr (.inr 3)), some (.inl i), some (.inl a), some (.inr (.inl (sty κ i))), none, some (.inl p), none, none] [] ν (pV (fun ν => Fr [23, 111] μ ν ∧ (∀ j : Int, j < 4 * (i + 1) → ν 23 j = μ 23 j) ∧ (∀ q : Int, 0 ≤ q → q < κ 129 0 → ν 23 (4 * (i + 1) + q) = ow κ (i + 1).toNat q) ∧ ν 111 0 = opn κ i.toNat 0 * sty κ i)) := by
  intro f
  induction f with
  | zero =>
    intro p ν h0 h1 hF ho hv hm
    exfalso; omega
  | succ f ih =>
    intro p ν h0 h1 hF ho hv hm
    have hCν := hC.fr hF (by decide)
    have r129 := hC.1.1
    have c105 := hCν.2.1
    have c109 : ν 109 0 = κ 128 0 := hCν.2.2.2.2.2.1
    have r128 := hC.1.2.2.2.2.1
    have c4 : ν 22 (a + 4) = sty κ i := (hF.at 22 rfl _).trans h4
    have cp : p < κ 129 0 → ν 22 (a + p) = pas κ i p := fun q => (hF.at 22 rfl _).trans (hpp p h0 q)
    have cw : p < κ 129 0 → ν 23 (4 * i + p) = ow κ i.toNat p := fun q => (ho _ (by omega)).trans (hS.1 i p hi.1 (Int.le_refl _) h0 q)
    have hup := ow_up (κ := κ) (p := p) hi.1
    rw [if_pos hl] at hup
    have c111 : ν 111 0 = opn κ i.toNat 0 := (hF.at 111 rfl 0).trans hS.2.1
    have ho1 : owI 1 = 3072 := rfl
    refine s_iload_5 (pc := 12) dX0_stepOnce_12 ?_
    refine s_aload_0 (pc := 14) dX0_stepOnce_14 ?_
    refine gfX0_27 (pc := 15) dX0_stepOnce_15 rfl ?_
    refine gfX0_91 (pc := 18) dX0_stepOnce_18 rfl ?_
    try rw [c105]
    try rw [c109]
    try rw [c111]
    refine s_icmp_ge (pc := 21) 108 dX0_stepOnce_21 rfl (by omega) (by omega) (fun h21 => ?_) (fun h21 => ?_)
    · refine s_aload_0 (pc := 108) dX0_stepOnce_108 ?_
      refine s_dup (pc := 109) dX0_stepOnce_109 rfl ?_
      refine gfX0_112 (pc := 110) dX0_stepOnce_110 rfl ?_
      try rw [c105]
      try rw [c109]
      try rw [c111]
      refine s_lload_3 (pc := 113) dX0_stepOnce_113 ?_
      refine s_lmul (pc := 114) dX0_stepOnce_114 ?_
      refine pfX0_112 (pc := 115) dX0_stepOnce_115 rfl ?_
      refine s_return (pc := 118) dX0_stepOnce_118 rfl ?_
      cases (show p = κ 129 0 by omega)
      exact ⟨(hF.mono (by decide)).wr (by decide), fun j hj => by rw [wr_n (by decide)]; exact ho j hj, fun q q0 q1 => by rw [wr_n (by decide)]; exact hv q q0 q1, by rw [wr_s, if_pos rfl]⟩
    · refine s_aload_0 (pc := 24) dX0_stepOnce_24 ?_
      refine gfX0_112 (pc := 25) dX0_stepOnce_25 rfl ?_
      try rw [c105]
      try rw [c109]
      try rw [c111]
      refine s_aload_0 (pc := 28) dX0_stepOnce_28 ?_
      refine gfX0_15 (pc := 29) dX0_stepOnce_29 rfl ?_
      refine s_iload_2 (pc := 32) dX0_stepOnce_32 ?_
      refine s_iload_5 (pc := 33) dX0_stepOnce_33 ?_
      refine s_iadd (pc := 35) dX0_stepOnce_35 ?_
      refine z_laload (pc := 36) dX0_stepOnce_36 ly_22 (by omega) (by omega) ?_
      try rw [c105]
      try rw [c109]
      try rw [c111]
      rw [cp (by omega)]
      refine s_lmul (pc := 37) dX0_stepOnce_37 ?_
      refine s_lstore_6 (pc := 38) dX0_stepOnce_38 (Nat.le_of_ble_eq_true rfl) rfl ?_
      refine s_iload_5 (pc := 40) dX0_stepOnce_40 ?_
      refine s_aload_0 (pc := 42) dX0_stepOnce_42 ?_
      refine gfX0_27 (pc := 43) dX0_stepOnce_43 rfl ?_
      refine gfX0_55 (pc := 46) dX0_stepOnce_46 rfl ?_
      try rw [c105]
      try rw [c109]
      try rw [c111]
      refine s_icmp_ne (pc := 49) 69 dX0_stepOnce_49 rfl (by omega) (by omega) (fun h49 => ?_) (fun h49 => ?_)
      · rw [if_neg (by omega), Int.sub_zero] at hup
        refine s_aload_0 (pc := 69) dX0_stepOnce_69 ?_
        refine gfX0_18 (pc := 70) dX0_stepOnce_70 rfl ?_
        refine s_iconst_4 (pc := 73) dX0_stepOnce_73 ?_
        refine s_iload_1 (pc := 74) dX0_stepOnce_74 ?_
        refine s_iconst_1 (pc := 75) dX0_stepOnce_75 ?_
        refine s_iadd (pc := 76) dX0_stepOnce_76 ?_
        refine s_imul (pc := 77) dX0_stepOnce_77 ?_
        refine s_iload_5 (pc := 78) dX0_stepOnce_78 ?_
        refine s_iadd (pc := 80) dX0_stepOnce_80 ?_
        refine s_aload_0 (pc := 81) dX0_stepOnce_81 ?_
        refine gfX0_18 (pc := 82) dX0_stepOnce_82 rfl ?_
        refine s_iconst_4 (pc := 85) dX0_stepOnce_85 ?_
        refine s_iload_1 (pc := 86) dX0_stepOnce_86 ?_
        refine s_imul (pc := 87) dX0_stepOnce_87 ?_
        refine s_iload_5 (pc := 88) dX0_stepOnce_88 ?_
        refine s_iadd (pc := 90) dX0_stepOnce_90 ?_
        refine z_laload (pc := 91) dX0_stepOnce_91 ly_23 (by omega) (by omega) ?_
        try rw [c105]
        try rw [c109]
        try rw [c111]
        rw [cw (by omega)]
        refine z_getOWED (pc := 92) dX0_stepOnce_92 rfl ln_OWED ?_
        refine s_iconst_1 (pc := 95) dX0_stepOnce_95 ?_
        refine z_laOWED (pc := 96) dX0_stepOnce_96 (by omega) (by omega) ?_
        try rw [c105]
        try rw [c109]
        try rw [c111]
        rw [ho1]
        refine s_lmul (pc := 97) dX0_stepOnce_97 ?_
        refine s_lload_6 (pc := 98) dX0_stepOnce_98 ?_
        refine s_ladd (pc := 100) dX0_stepOnce_100 ?_
        refine z_lastore (pc := 101) dX0_stepOnce_101 ly_23 ip_23 (by omega) (by omega) ?_
        refine s_iinc_5 (pc := 102) dX0_stepOnce_102 (Nat.le_of_ble_eq_true rfl) rfl ?_
        refine s_goto (pc := 105) 12 dX0_stepOnce_105 rfl ?_
        refine s_le ?_ (ih (p + 1) _ (by omega) (by omega) (hF.wr (by decide)) (fun j hj => by rw [wr_s, if_neg (by omega)]; exact ho j hj) (fun q q0 q1 => ?_) (by omega))
        · exact ⟨Or.inr rfl, Or.inr rfl, Or.inr rfl, Or.inr rfl, Or.inl rfl, Or.inr rfl, Or.inl rfl, Or.inl rfl, trivial⟩
        by_cases hq : q = p
        · rw [hq, wr_s, if_pos rfl, hup]
          try omega
        · rw [wr_s, if_neg (by omega)]; exact hv q q0 (by omega)
      · rw [if_pos (by omega)] at hup
        refine s_lload_6 (pc := 52) dX0_stepOnce_52 ?_
        refine s_aload_0 (pc := 54) dX0_stepOnce_54 ?_
        refine gfX0_112 (pc := 55) dX0_stepOnce_55 rfl ?_
        try rw [c105]
        try rw [c109]
        try rw [c111]
        refine z_getOWED (pc := 58) dX0_stepOnce_58 rfl ln_OWED ?_
        refine s_iconst_1 (pc := 61) dX0_stepOnce_61 ?_
        refine z_laOWED (pc := 62) dX0_stepOnce_62 (by omega) (by omega) ?_
        try rw [c105]
        try rw [c109]
        try rw [c111]
        rw [ho1]
        refine s_lload_3 (pc := 63) dX0_stepOnce_63 ?_
        refine s_lsub (pc := 64) dX0_stepOnce_64 ?_
        refine s_lmul (pc := 65) dX0_stepOnce_65 ?_
        refine s_lsub (pc := 66) dX0_stepOnce_66 ?_
        refine s_lstore_6 (pc := 67) dX0_stepOnce_67 (Nat.le_of_ble_eq_true rfl) rfl ?_
        refine s_aload_0 (pc := 69) dX0_stepOnce_69 ?_
        refine gfX0_18 (pc := 70) dX0_stepOnce_70 rfl ?_
        refine s_iconst_4 (pc := 73) dX0_stepOnce_73 ?_
        refine s_iload_1 (pc := 74) dX0_stepOnce_74 ?_
        refine s_iconst_1 (pc := 75) dX0_stepOnce_75 ?_
        refine s_iadd (pc := 76) dX0_stepOnce_76 ?_
        refine s_imul (pc := 77) dX0_stepOnce_77 ?_
        refine s_iload_5 (pc := 78) dX0_stepOnce_78 ?_
        refine s_iadd (pc := 80) dX0_stepOnce_80 ?_
        refine s_aload_0 (pc := 81) dX0_stepOnce_81 ?_
        refine gfX0_18 (pc := 82) dX0_stepOnce_82 rfl ?_
        refine s_iconst_4 (pc := 85) dX0_stepOnce_85 ?_
        refine s_iload_1 (pc := 86) dX0_stepOnce_86 ?_
        refine s_imul (pc := 87) dX0_stepOnce_87 ?_
        refine s_iload_5 (pc := 88) dX0_stepOnce_88 ?_
        refine s_iadd (pc := 90) dX0_stepOnce_90 ?_
        refine z_laload (pc := 91) dX0_stepOnce_91 ly_23 (by omega) (by omega) ?_
        try rw [c105]
        try rw [c109]
        try rw [c111]
        rw [cw (by omega)]
        refine z_getOWED (pc := 92) dX0_stepOnce_92 rfl ln_OWED ?_
        refine s_iconst_1 (pc := 95) dX0_stepOnce_95 ?_
        refine z_laOWED (pc := 96) dX0_stepOnce_96 (by omega) (by omega) ?_
        try rw [c105]
        try rw [c109]
        try rw [c111]
        rw [ho1]
        refine s_lmul (pc := 97) dX0_stepOnce_97 ?_
        refine s_lload_6 (pc := 98) dX0_stepOnce_98 ?_
        refine s_ladd (pc := 100) dX0_stepOnce_100 ?_
        refine z_lastore (pc := 101) dX0_stepOnce_101 ly_23 ip_23 (by omega) (by omega) ?_
        refine s_iinc_5 (pc := 102) dX0_stepOnce_102 (Nat.le_of_ble_eq_true rfl) rfl ?_
        refine s_goto (pc := 105) 12 dX0_stepOnce_105 rfl ?_
        refine s_le ?_ (ih (p + 1) _ (by omega) (by omega) (hF.wr (by decide)) (fun j hj => by rw [wr_s, if_neg (by omega)]; exact ho j hj) (fun q q0 q1 => ?_) (by omega))
        · exact ⟨Or.inr rfl, Or.inr rfl, Or.inr rfl, Or.inr rfl, Or.inl rfl, Or.inr rfl, Or.inl rfl, Or.inl rfl, trivial⟩
        by_cases hq : q = p
        · rw [hq, wr_s, if_pos rfl, hup]
          try omega
        · rw [wr_s, if_neg (by omega)]; exact hv q q0 (by omega)
theorem c_X0_stepOnce {κ : Mem} {i a : Int} {μ : Mem} (hC : CR κ μ) (hi : 0 ≤ i ∧ i < 4) (ha : 0 ≤ a ∧ a ≤ 55) (hS : SR κ i μ) (h4 : μ 22 (a + 4) = sty κ i) (hpp : ∀ p : Int, 0 ≤ p → p < κ 129 0 → μ 22 (a + p) = pas κ i p) (hl : κ 126 0 = 1) : Mc kX0_stepOnce [.inr (.inr 3), .inl i, .inl a] μ (pV (fun ν => Fr [23, 111] μ ν ∧ (∀ j : Int, j < 4 * (i + 1) → ν 23 j = μ 23 j) ∧ (∀ q : Int, 0 ≤ q → q < κ 129 0 → ν 23 (4 * (i + 1) + q) = ow κ (i + 1).toNat q) ∧ ν 111 0 = opn κ i.toNat 0 * sty κ i)) := by
  refine Mc_of (by decide +kernel) (fun _ => Nat.le_of_ble_eq_true rfl) ?_
  show AW kX0_stepOnce 0 [some (.inr (.inr 3)), some (.inl i), some (.inl a), none, none, none, none, none] [] μ _
  refine s_aload_0 (pc := 0) dX0_stepOnce_0 ?_
  refine gfX0_15 (pc := 1) dX0_stepOnce_1 rfl ?_
  refine s_iload_2 (pc := 4) dX0_stepOnce_4 ?_
  refine s_iconst_4 (pc := 5) dX0_stepOnce_5 ?_
  refine s_iadd (pc := 6) dX0_stepOnce_6 ?_
  refine z_laload (pc := 7) dX0_stepOnce_7 ly_22 (by omega) (by omega) ?_
  try rw [h4]
  refine s_lstore_3 (pc := 8) dX0_stepOnce_8 (Nat.le_of_ble_eq_true rfl) rfl ?_
  refine s_iconst_0 (pc := 9) dX0_stepOnce_9 ?_
  refine s_istore_5 (pc := 10) dX0_stepOnce_10 (Nat.le_of_ble_eq_true rfl) rfl ?_
  have r129 := hC.1.1
  exact lp_X0_stepOnce hC hi ha hS h4 hpp hl 5 0 μ (by omega) (by omega) Fr.rf (fun _ _ => rfl) (fun q q0 q1 => by omega) (by omega)
