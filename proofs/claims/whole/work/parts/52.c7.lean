theorem lp_X0_begin {κ : Mem} {μ : Mem} (hC : CR κ μ) : ∀ (f : Nat) (i : Int) (ν : Mem), (0 ≤ i) → (i ≤ 4) → (Fr [23, 25] μ ν) → (∀ q : Int, 0 ≤ q → q < i → ν 23 q = ind q (κ 128 0) ∧ ν 25 q = ind q (κ 128 0)) → 4 - i < (f : Int) → AW kX0_begin 2 [some (.inr (.inr 3)), some (.inl i)] [] ν (pV (fun ν => SR κ 0 ν ∧ Fr [23, 25, 111] μ ν)) := by
  intro f
  induction f with
  | zero =>
    intro i ν h0 h1 hF hv hm
    exfalso; omega
  | succ f ih =>
    intro i ν h0 h1 hF hv hm
    have r129 := hC.1.1
    have r128 := hC.1.2.2.2.2.1
    have c109 : ν 109 0 = κ 128 0 := (hF.at 109 rfl 0).trans hC.2.2.2.2.2.1
    refine s_iload_1 (pc := 2) dX0_begin_2 ?_
    refine s_iconst_4 (pc := 3) dX0_begin_3 ?_
    refine s_icmp_ge (pc := 4) 47 dX0_begin_4 rfl (by omega) (by omega) (fun h4 => ?_) (fun h4 => ?_)
    · refine s_aload_0 (pc := 47) dX0_begin_47 ?_
      refine s_lconst_1 (pc := 48) dX0_begin_48 ?_
      refine pfX0_112 (pc := 49) dX0_begin_49 rfl ?_
      refine s_return (pc := 52) dX0_begin_52 rfl ?_
      refine ⟨⟨fun m p m0 m1 p0 p1 => ?_, ?_, fun _ p p0 p1 => ?_⟩, (hF.mono (by decide)).wr (by decide)⟩
      · cases (show m = 0 by omega)
        rw [wr_n (by decide), show 4 * 0 + p = p by omega]
        exact (hv p p0 (by omega)).1
      · rw [wr_s, if_pos rfl]; rfl
      · rw [wr_n (by decide)]
        exact (hv p p0 (by omega)).2
    · refine s_aload_0 (pc := 7) dX0_begin_7 ?_
      refine gfX0_18 (pc := 8) dX0_begin_8 rfl ?_
      refine s_iload_1 (pc := 11) dX0_begin_11 ?_
      refine s_iload_1 (pc := 12) dX0_begin_12 ?_
      refine s_aload_0 (pc := 13) dX0_begin_13 ?_
      refine gfX0_27 (pc := 14) dX0_begin_14 rfl ?_
      refine gfX0_55 (pc := 17) dX0_begin_17 rfl ?_
      try simp (decide := true) only [wr_s, wr_n, wa_s, wa_n, if_true, eq_self, reduceIte]
      try rw [c109]
      refine s_icmp_ne (pc := 20) 27 dX0_begin_20 rfl (by omega) (by omega) (fun h20 => ?_) (fun h20 => ?_)
      · have hin : ind i (κ 128 0) = 0 := if_neg (by omega)
        refine s_lconst_0 (pc := 27) dX0_begin_27 ?_
        refine z_lastore (pc := 28) dX0_begin_28 ly_23 ip_23 (by omega) (by omega) ?_
        refine s_aload_0 (pc := 29) dX0_begin_29 ?_
        refine gfX0_24 (pc := 30) dX0_begin_30 rfl ?_
        refine s_iload_1 (pc := 33) dX0_begin_33 ?_
        refine s_aload_0 (pc := 34) dX0_begin_34 ?_
        refine gfX0_18 (pc := 35) dX0_begin_35 rfl ?_
        refine s_iload_1 (pc := 38) dX0_begin_38 ?_
        refine z_laload (pc := 39) dX0_begin_39 ly_23 (by omega) (by omega) ?_
        try simp (decide := true) only [wr_s, wr_n, wa_s, wa_n, if_true, eq_self, reduceIte]
        try rw [c109]
        refine z_lastore (pc := 40) dX0_begin_40 ly_25 ip_25 (by omega) (by omega) ?_
        refine s_iinc_1 (pc := 41) dX0_begin_41 (Nat.le_of_ble_eq_true rfl) rfl ?_
        refine s_goto (pc := 44) 2 dX0_begin_44 rfl ?_
        refine s_le ?_ (ih (i + 1) _ (by omega) (by omega) ((hF.wr (by decide)).wr (by decide)) (fun q q0 q1 => ?_) (by omega))
        · exact ⟨Or.inr rfl, Or.inr rfl, trivial⟩
        by_cases hq : q = i
        · rw [hq, hin]
          refine ⟨?_, ?_⟩
          · rw [wr_n (by decide), wr_s, if_pos rfl]
          · rw [wr_s, if_pos rfl]
        · have := hv q q0 (by omega)
          refine ⟨?_, ?_⟩
          · rw [wr_n (by decide), wr_s, if_neg hq]; exact this.1
          · rw [wr_s, if_neg hq, wr_n (by decide)]; exact this.2
      · have hin : ind i (κ 128 0) = 1 := if_pos (by omega)
        refine s_lconst_1 (pc := 23) dX0_begin_23 ?_
        refine s_goto (pc := 24) 28 dX0_begin_24 rfl ?_
        refine z_lastore (pc := 28) dX0_begin_28 ly_23 ip_23 (by omega) (by omega) ?_
        refine s_aload_0 (pc := 29) dX0_begin_29 ?_
        refine gfX0_24 (pc := 30) dX0_begin_30 rfl ?_
        refine s_iload_1 (pc := 33) dX0_begin_33 ?_
        refine s_aload_0 (pc := 34) dX0_begin_34 ?_
        refine gfX0_18 (pc := 35) dX0_begin_35 rfl ?_
        refine s_iload_1 (pc := 38) dX0_begin_38 ?_
        refine z_laload (pc := 39) dX0_begin_39 ly_23 (by omega) (by omega) ?_
        try simp (decide := true) only [wr_s, wr_n, wa_s, wa_n, if_true, eq_self, reduceIte]
        try rw [c109]
        refine z_lastore (pc := 40) dX0_begin_40 ly_25 ip_25 (by omega) (by omega) ?_
        refine s_iinc_1 (pc := 41) dX0_begin_41 (Nat.le_of_ble_eq_true rfl) rfl ?_
        refine s_goto (pc := 44) 2 dX0_begin_44 rfl ?_
        refine s_le ?_ (ih (i + 1) _ (by omega) (by omega) ((hF.wr (by decide)).wr (by decide)) (fun q q0 q1 => ?_) (by omega))
        · exact ⟨Or.inr rfl, Or.inr rfl, trivial⟩
        by_cases hq : q = i
        · rw [hq, hin]
          refine ⟨?_, ?_⟩
          · rw [wr_n (by decide), wr_s, if_pos rfl]
          · rw [wr_s, if_pos rfl]
        · have := hv q q0 (by omega)
          refine ⟨?_, ?_⟩
          · rw [wr_n (by decide), wr_s, if_neg hq]; exact this.1
          · rw [wr_s, if_neg hq, wr_n (by decide)]; exact this.2
theorem c_X0_begin {κ : Mem} {μ : Mem} (hC : CR κ μ) : Mc kX0_begin [.inr (.inr 3)] μ (pV (fun ν => SR κ 0 ν ∧ Fr [23, 25, 111] μ ν)) := by
  refine Mc_of (by decide +kernel) (fun _ => Nat.le_of_ble_eq_true rfl) ?_
  show AW kX0_begin 0 [some (.inr (.inr 3)), none] [] μ _
  refine s_iconst_0 (pc := 0) dX0_begin_0 ?_
  refine s_istore_1 (pc := 1) dX0_begin_1 (Nat.le_of_ble_eq_true rfl) rfl ?_
  exact lp_X0_begin hC 5 0 μ (by omega) (by omega) Fr.rf (fun q q0 q1 => by omega) (by omega)
theorem lp_X0_halve2 {κ : Mem} {i a : Int} {μ : Mem} (hC : CR κ μ) (hi : 0 ≤ i ∧ i < 4) (ha : 0 ≤ a ∧ a ≤ 55) (hS : SR κ i μ) (h4 : μ 22 (a + 4) = sty κ i) (hpp : ∀ p : Int, 0 ≤ p → p < κ 129 0 → μ 22 (a + p) = pas κ i p) (hl : κ 126 0 = 2) : ∀ (f : Nat) (p : Int) (ν : Mem), (0 ≤ p) → (p ≤ κ 129 0) → (Fr [24, 25] μ ν) → (∀ q : Int, 0 ≤ q → q < κ 129 0 → ν 24 q = AH κ i.toNat q) → (∀ q : Int, 0 ≤ q → q < p → ν 25 q = AH κ (i + 1).toNat q) → κ 129 0 - p < (f : Int) → AW kX0_halve 50 [some (.inr (.inr 3)), some (.inl a), some (.inr (.inl (sm (AH κ i.toNat) (κ 129 0).toNat))), none, some (.inl p), none, none] [] ν (pV (fun ν => Fr [24, 25] μ ν ∧ ∀ p : Int, 0 ≤ p → p < κ 129 0 → ν 25 p = AH κ (i + 1).toNat p)) := by
  intro f
  induction f with
  | zero =>
    intro p ν h0 h1 hF hb hv hm
    exfalso; omega
  | succ f ih =>
    intro p ν h0 h1 hF hb hv hm
    have hCν := hC.fr hF (by decide)
    have r129 := hC.1.1
    have c105 := hCν.2.1
    have c4 : ν 22 (a + 4) = sty κ i := (hF.at 22 rfl _).trans h4
    have cp : p < κ 129 0 → ν 22 (a + p) = pas κ i p := fun q => (hF.at 22 rfl _).trans (hpp p h0 q)
    have hup := AH_up (κ := κ) (p := p) hi.1
    refine s_iload_4 (pc := 50) dX0_halve_50 ?_
    refine s_aload_0 (pc := 52) dX0_halve_52 ?_
    refine gfX0_27 (pc := 53) dX0_halve_53 rfl ?_
    refine gfX0_91 (pc := 56) dX0_halve_56 rfl ?_
    try rw [c105]
    try rw [c4]
    refine s_icmp_ge (pc := 59) 129 dX0_halve_59 rfl (by omega) (by omega) (fun h59 => ?_) (fun h59 => ?_)
    · refine s_return (pc := 129) dX0_halve_129 rfl ?_
      cases (show p = κ 129 0 by omega)
      exact ⟨hF, hv⟩
    · refine s_aload_0 (pc := 62) dX0_halve_62 ?_
      refine gfX0_15 (pc := 63) dX0_halve_63 rfl ?_
      refine s_iload_1 (pc := 66) dX0_halve_66 ?_
      refine s_iconst_4 (pc := 67) dX0_halve_67 ?_
      refine s_iadd (pc := 68) dX0_halve_68 ?_
      refine z_laload (pc := 69) dX0_halve_69 ly_22 (by omega) (by omega) ?_
      try rw [c105]
      try rw [c4]
      refine s_aload_0 (pc := 70) dX0_halve_70 ?_
      refine gfX0_15 (pc := 71) dX0_halve_71 rfl ?_
      refine s_iload_1 (pc := 74) dX0_halve_74 ?_
      refine s_iload_4 (pc := 75) dX0_halve_75 ?_
      refine s_iadd (pc := 77) dX0_halve_77 ?_
      refine z_laload (pc := 78) dX0_halve_78 ly_22 (by omega) (by omega) ?_
      try rw [c105]
      try rw [c4]
      rw [cp (by omega)]
      refine s_ladd (pc := 79) dX0_halve_79 ?_
      refine s_lstore_5 (pc := 80) dX0_halve_80 (Nat.le_of_ble_eq_true rfl) rfl ?_
      refine s_aload_0 (pc := 82) dX0_halve_82 ?_
      refine gfX0_24 (pc := 83) dX0_halve_83 rfl ?_
      refine s_iload_4 (pc := 86) dX0_halve_86 ?_
      refine s_ldc2_w (pc := 88) dX0_halve_88 rfl cnX0_128 ?_
      refine s_aload_0 (pc := 91) dX0_halve_91 ?_
      refine gfX0_21 (pc := 92) dX0_halve_92 rfl ?_
      refine s_iload_4 (pc := 95) dX0_halve_95 ?_
      refine z_laload (pc := 97) dX0_halve_97 ly_24 (by omega) (by omega) ?_
      try rw [c105]
      try rw [c4]
      rw [hb p h0 (by omega)]
      refine s_lmul (pc := 98) dX0_halve_98 ?_
      refine s_lload_5 (pc := 99) dX0_halve_99 ?_
      refine s_lmul (pc := 101) dX0_halve_101 ?_
      refine s_lload_2 (pc := 102) dX0_halve_102 ?_
      refine s_aload_0 (pc := 103) dX0_halve_103 ?_
      refine gfX0_21 (pc := 104) dX0_halve_104 rfl ?_
      refine s_iload_4 (pc := 107) dX0_halve_107 ?_
      refine z_laload (pc := 109) dX0_halve_109 ly_24 (by omega) (by omega) ?_
      try rw [c105]
      try rw [c4]
      rw [hb p h0 (by omega)]
      refine s_lsub (pc := 110) dX0_halve_110 ?_
      refine s_aload_0 (pc := 111) dX0_halve_111 ?_
      refine gfX0_15 (pc := 112) dX0_halve_112 rfl ?_
      refine s_iload_1 (pc := 115) dX0_halve_115 ?_
      refine s_iload_4 (pc := 116) dX0_halve_116 ?_
      refine s_iadd (pc := 118) dX0_halve_118 ?_
      refine z_laload (pc := 119) dX0_halve_119 ly_22 (by omega) (by omega) ?_
      try rw [c105]
      try rw [c4]
      rw [cp (by omega)]
      refine s_lmul (pc := 120) dX0_halve_120 ?_
      refine s_ladd (pc := 121) dX0_halve_121 ?_
      refine z_lastore (pc := 122) dX0_halve_122 ly_25 ip_25 (by omega) (by omega) ?_
      refine s_iinc_4 (pc := 123) dX0_halve_123 (Nat.le_of_ble_eq_true rfl) rfl ?_
      refine s_goto (pc := 126) 50 dX0_halve_126 rfl ?_
      refine s_le ?_ (ih (p + 1) _ (by omega) (by omega) (hF.wr (by decide)) (fun q q0 q1 => by rw [wr_n (by decide)]; exact hb q q0 q1) (fun q q0 q1 => ?_) (by omega))
      · exact ⟨Or.inr rfl, Or.inr rfl, Or.inr rfl, Or.inl rfl, Or.inr rfl, Or.inl rfl, Or.inl rfl, trivial⟩
      by_cases hq : q = p
      · rw [hq, wr_s, if_pos rfl, hup]
      · rw [wr_s, if_neg hq]; exact hv q q0 (by omega)
theorem lp_X0_halve1 {κ : Mem} {i a : Int} {μ : Mem} (hC : CR κ μ) (hi : 0 ≤ i ∧ i < 4) (ha : 0 ≤ a ∧ a ≤ 55) (hS : SR κ i μ) (h4 : μ 22 (a + 4) = sty κ i) (hpp : ∀ p : Int, 0 ≤ p → p < κ 129 0 → μ 22 (a + p) = pas κ i p) (hl : κ 126 0 = 2) : ∀ (f : Nat) (p : Int) (ν : Mem), (0 ≤ p) → (p ≤ κ 129 0) → (Fr [24] μ ν) → (∀ q : Int, 0 ≤ q → q < p → ν 24 q = AH κ i.toNat q) → κ 129 0 - p < (f : Int) → AW kX0_halve 5 [some (.inr (.inr 3)), some (.inl a), some (.inr (.inl (sm (AH κ i.toNat) p.toNat))), none, some (.inl p), none, none] [] ν (pV (fun ν => Fr [24, 25] μ ν ∧ ∀ p : Int, 0 ≤ p → p < κ 129 0 → ν 25 p = AH κ (i + 1).toNat p)) := by
  intro f
  induction f with
  | zero =>
    intro p ν h0 h1 hF hb hm
    exfalso; omega
  | succ f ih =>
    intro p ν h0 h1 hF hb hm
    have hCν := hC.fr hF (by decide)
    have r129 := hC.1.1
    have c105 := hCν.2.1
    have c4 : ν 22 (a + 4) = sty κ i := (hF.at 22 rfl _).trans h4
    have cp : p < κ 129 0 → ν 22 (a + p) = pas κ i p := fun q => (hF.at 22 rfl _).trans (hpp p h0 q)
    have hsu := sm_succ (f := AH κ i.toNat) h0
    have c25 : p < κ 129 0 → ν 25 p = AH κ i.toNat p := fun q => (hF.at 25 rfl _).trans (hS.2.2 hl p h0 q)
    refine s_iload_4 (pc := 5) dX0_halve_5 ?_
    refine s_aload_0 (pc := 7) dX0_halve_7 ?_
    refine gfX0_27 (pc := 8) dX0_halve_8 rfl ?_
    refine gfX0_91 (pc := 11) dX0_halve_11 rfl ?_
    try simp (decide := true) only [wr_s, wr_n, wa_s, wa_n, if_true, eq_self, reduceIte]
    try rw [c105]
    refine s_icmp_ge (pc := 14) 47 dX0_halve_14 rfl (by omega) (by omega) (fun h14 => ?_) (fun h14 => ?_)
    · refine s_iconst_0 (pc := 47) dX0_halve_47 ?_
      refine s_istore_4 (pc := 48) dX0_halve_48 (Nat.le_of_ble_eq_true rfl) rfl ?_
      cases (show p = κ 129 0 by omega)
      refine s_le ?_ (lp_X0_halve2 hC hi ha hS h4 hpp hl 5 0 ν (by omega) (by omega) (hF.mono (by decide)) hb (fun q q0 q1 => by omega) (by omega))
      exact ⟨Or.inr rfl, Or.inr rfl, Or.inr rfl, Or.inl rfl, Or.inr rfl, Or.inl rfl, Or.inl rfl, trivial⟩
    · refine s_aload_0 (pc := 17) dX0_halve_17 ?_
      refine gfX0_21 (pc := 18) dX0_halve_18 rfl ?_
      refine s_iload_4 (pc := 21) dX0_halve_21 ?_
      refine s_aload_0 (pc := 23) dX0_halve_23 ?_
      refine gfX0_24 (pc := 24) dX0_halve_24 rfl ?_
      refine s_iload_4 (pc := 27) dX0_halve_27 ?_
      refine z_laload (pc := 29) dX0_halve_29 ly_25 (by omega) (by omega) ?_
      try simp (decide := true) only [wr_s, wr_n, wa_s, wa_n, if_true, eq_self, reduceIte]
      try rw [c105]
      rw [c25 (by omega)]
      refine z_lastore (pc := 30) dX0_halve_30 ly_24 ip_24 (by omega) (by omega) ?_
      refine s_lload_2 (pc := 31) dX0_halve_31 ?_
      refine s_aload_0 (pc := 32) dX0_halve_32 ?_
      refine gfX0_24 (pc := 33) dX0_halve_33 rfl ?_
      refine s_iload_4 (pc := 36) dX0_halve_36 ?_
      refine z_laload (pc := 38) dX0_halve_38 ly_25 (by omega) (by omega) ?_
      try simp (decide := true) only [wr_s, wr_n, wa_s, wa_n, if_true, eq_self, reduceIte]
      try rw [c105]
      rw [c25 (by omega)]
      refine s_ladd (pc := 39) dX0_halve_39 ?_
      refine s_lstore_2 (pc := 40) dX0_halve_40 (Nat.le_of_ble_eq_true rfl) rfl ?_
      refine s_iinc_4 (pc := 41) dX0_halve_41 (Nat.le_of_ble_eq_true rfl) rfl ?_
      refine s_goto (pc := 44) 5 dX0_halve_44 rfl ?_
      refine s_le ?_ (ih (p + 1) _ (by omega) (by omega) (hF.wr (by decide)) (fun q q0 q1 => ?_) (by omega))
      · rw [hsu]
        exact ⟨Or.inr rfl, Or.inr rfl, Or.inr rfl, Or.inl rfl, Or.inr rfl, Or.inl rfl, Or.inl rfl, trivial⟩
      by_cases hq : q = p
      · rw [hq, wr_s, if_pos rfl]
      · rw [wr_s, if_neg hq]; exact hb q q0 (by omega)
theorem c_X0_halve {κ : Mem} {i a : Int} {μ : Mem} (hC : CR κ μ) (hi : 0 ≤ i ∧ i < 4) (ha : 0 ≤ a ∧ a ≤ 55) (hS : SR κ i μ) (h4 : μ 22 (a + 4) = sty κ i) (hpp : ∀ p : Int, 0 ≤ p → p < κ 129 0 → μ 22 (a + p) = pas κ i p) (hl : κ 126 0 = 2) : Mc kX0_halve [.inr (.inr 3), .inl a] μ (pV (fun ν => Fr [24, 25] μ ν ∧ ∀ p : Int, 0 ≤ p → p < κ 129 0 → ν 25 p = AH κ (i + 1).toNat p)) := by
  refine Mc_of (by decide +kernel) (fun _ => Nat.le_of_ble_eq_true rfl) ?_
  show AW kX0_halve 0 [some (.inr (.inr 3)), some (.inl a), none, none, none, none, none] [] μ _
  refine s_lconst_0 (pc := 0) dX0_halve_0 ?_
  refine s_lstore_2 (pc := 1) dX0_halve_1 (Nat.le_of_ble_eq_true rfl) rfl ?_
  refine s_iconst_0 (pc := 2) dX0_halve_2 ?_
  refine s_istore_4 (pc := 3) dX0_halve_3 (Nat.le_of_ble_eq_true rfl) rfl ?_
  have r129 := hC.1.1
  exact lp_X0_halve1 hC hi ha hS h4 hpp hl 5 0 μ (by omega) (by omega) Fr.rf (fun q q0 q1 => by omega) (by omega)
