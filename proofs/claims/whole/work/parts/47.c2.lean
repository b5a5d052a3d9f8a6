theorem c_X1_gather {tx : Int → Int} {n : Int} {hd lv : Int → Int} {μ : Mem} (hQ : RQ tx n μ) (hn : 0 ≤ n ∧ n ≤ 60) (e10 : μ 10 = hd) (e11 : μ 11 = lv) (hhd : ∀ p : Int, 0 ≤ p → p < 4 → 0 ≤ hd p ∧ hd p ≤ 15) (hlv : ∀ p : Int, 0 ≤ p → p < 4 → 0 ≤ lv p ∧ lv p ≤ 4) : Mc kX1_gather [.inr (.inr 2)] μ (pV (fun ν => CR (cfg tx n hd lv) ν ∧ Fr [17, 18, 19, 20, 105, 106, 107, 108, 109, 110] μ ν)) := by
  refine Mc_of (by decide +kernel) (fun _ => Nat.le_of_ble_eq_true rfl) ?_
  show AW kX1_gather 0 [some (.inr (.inr 2))] [] μ _
  obtain ⟨q1, q2, q3, q4, q5⟩ := id hQ
  have hpe := pPe_in (tx := tx) hn.1
  have hta := pTa_in (tx := tx) hn.1
  refine s_aload_0 (pc := 0) dX1_gather_0 ?_
  refine s_aload_0 (pc := 1) dX1_gather_1 ?_
  refine gfX1_24 (pc := 2) dX1_gather_2 rfl ?_
  refine gfX1_34 (pc := 5) dX1_gather_5 rfl ?_
  refine pfX1_40 (pc := 8) dX1_gather_8 rfl ?_
  refine s_aload_0 (pc := 11) dX1_gather_11 ?_
  refine s_aload_0 (pc := 12) dX1_gather_12 ?_
  refine gfX1_24 (pc := 13) dX1_gather_13 rfl ?_
  refine gfX1_41 (pc := 16) dX1_gather_16 rfl ?_
  refine pfX1_44 (pc := 19) dX1_gather_19 rfl ?_
  refine s_aload_0 (pc := 22) dX1_gather_22 ?_
  refine s_aload_0 (pc := 23) dX1_gather_23 ?_
  refine gfX1_24 (pc := 24) dX1_gather_24 rfl ?_
  refine gfX1_45 (pc := 27) dX1_gather_27 rfl ?_
  refine s_iconst_0 (pc := 30) dX1_gather_30 ?_
  refine z_iaload (pc := 31) dX1_gather_31 ly_16 (by omega) (by omega) ?_
  refine pfX1_48 (pc := 32) dX1_gather_32 rfl ?_
  refine s_aload_0 (pc := 35) dX1_gather_35 ?_
  refine s_aload_0 (pc := 36) dX1_gather_36 ?_
  refine gfX1_24 (pc := 37) dX1_gather_37 rfl ?_
  refine gfX1_45 (pc := 40) dX1_gather_40 rfl ?_
  refine s_iconst_1 (pc := 43) dX1_gather_43 ?_
  refine z_iaload (pc := 44) dX1_gather_44 ly_16 (by omega) (by omega) ?_
  refine pfX1_51 (pc := 45) dX1_gather_45 rfl ?_
  refine s_aload_0 (pc := 48) dX1_gather_48 ?_
  refine s_aload_0 (pc := 49) dX1_gather_49 ?_
  refine gfX1_24 (pc := 50) dX1_gather_50 rfl ?_
  refine gfX1_45 (pc := 53) dX1_gather_53 rfl ?_
  refine s_iconst_2 (pc := 56) dX1_gather_56 ?_
  refine z_iaload (pc := 57) dX1_gather_57 ly_16 (by omega) (by omega) ?_
  refine pfX1_54 (pc := 58) dX1_gather_58 rfl ?_
  refine s_aload_0 (pc := 61) dX1_gather_61 ?_
  refine s_iconst_0 (pc := 62) dX1_gather_62 ?_
  refine pfX1_57 (pc := 63) dX1_gather_63 rfl ?_
  refine s_aload_0 (pc := 66) dX1_gather_66 ?_
  refine gfX1_24 (pc := 67) dX1_gather_67 rfl ?_
  refine gfX1_60 (pc := 70) dX1_gather_70 rfl ?_
  refine s_iconst_0 (pc := 73) dX1_gather_73 ?_
  refine s_aload_0 (pc := 74) dX1_gather_74 ?_
  refine gfX1_9 (pc := 75) dX1_gather_75 rfl ?_
  refine s_iconst_0 (pc := 78) dX1_gather_78 ?_
  refine s_bipush (pc := 79) (z := 16) dX1_gather_79 rfl ?_
  refine z_copy (pc := 81) dX1_gather_81 rfl lnX1_61 ly_14 ly_17 ip_17 (Nat.le_of_ble_eq_true rfl) (Nat.le_of_ble_eq_true rfl) (by omega) (by omega) (by omega) (by omega) (by omega) ?_
  refine s_aload_0 (pc := 84) dX1_gather_84 ?_
  refine gfX1_24 (pc := 85) dX1_gather_85 rfl ?_
  refine gfX1_67 (pc := 88) dX1_gather_88 rfl ?_
  refine s_iconst_0 (pc := 91) dX1_gather_91 ?_
  refine s_aload_0 (pc := 92) dX1_gather_92 ?_
  refine gfX1_15 (pc := 93) dX1_gather_93 rfl ?_
  refine s_iconst_0 (pc := 96) dX1_gather_96 ?_
  refine s_iconst_4 (pc := 97) dX1_gather_97 ?_
  refine z_copy (pc := 98) dX1_gather_98 rfl lnX1_61 ly_15 ly_18 ip_18 (Nat.le_of_ble_eq_true rfl) (Nat.le_of_ble_eq_true rfl) (by omega) (by omega) (by omega) (by omega) (by omega) ?_
  refine s_aload_0 (pc := 101) dX1_gather_101 ?_
  refine gfX1_28 (pc := 102) dX1_gather_102 rfl ?_
  refine s_iconst_0 (pc := 105) dX1_gather_105 ?_
  refine s_aload_0 (pc := 106) dX1_gather_106 ?_
  refine gfX1_18 (pc := 107) dX1_gather_107 rfl ?_
  refine s_iconst_0 (pc := 110) dX1_gather_110 ?_
  refine s_iconst_4 (pc := 111) dX1_gather_111 ?_
  refine z_copy (pc := 112) dX1_gather_112 rfl lnX1_61 ly_10 ly_19 ip_19 (Nat.le_of_ble_eq_true rfl) (Nat.le_of_ble_eq_true rfl) (by omega) (by omega) (by omega) (by omega) (by omega) ?_
  refine s_aload_0 (pc := 115) dX1_gather_115 ?_
  refine gfX1_31 (pc := 116) dX1_gather_116 rfl ?_
  refine s_iconst_0 (pc := 119) dX1_gather_119 ?_
  refine s_aload_0 (pc := 120) dX1_gather_120 ?_
  refine gfX1_21 (pc := 121) dX1_gather_121 rfl ?_
  refine s_iconst_0 (pc := 124) dX1_gather_124 ?_
  refine s_iconst_4 (pc := 125) dX1_gather_125 ?_
  refine z_copy (pc := 126) dX1_gather_126 rfl lnX1_61 ly_11 ly_20 ip_20 (Nat.le_of_ble_eq_true rfl) (Nat.le_of_ble_eq_true rfl) (by omega) (by omega) (by omega) (by omega) (by omega) ?_
  refine s_return (pc := 129) dX1_gather_129 rfl ?_
  refine ⟨⟨cfg_KR hn.1 hhd hlv, ?_, ?_, ?_, ?_, ?_, ?_, fun p p0 p1 => ⟨?_, ?_, ?_⟩, fun i i0 i1 => ?_, fun p p0 p1 p2 => ⟨?_, ?_, ?_⟩⟩, ?_⟩
  · simp (decide := true) only [wr_s, wr_n, wa_s, wa_n, if_true, eq_self, reduceIte]; exact q1
  · simp (decide := true) only [wr_s, wr_n, wa_s, wa_n, if_true, eq_self, reduceIte]; exact q2
  · simp (decide := true) only [wr_s, wr_n, wa_s, wa_n, if_true, eq_self, reduceIte]; exact q5 0 (by omega) (by omega)
  · simp (decide := true) only [wr_s, wr_n, wa_s, wa_n, if_true, eq_self, reduceIte]; exact q5 1 (by omega) (by omega)
  · simp (decide := true) only [wr_s, wr_n, wa_s, wa_n, if_true, eq_self, reduceIte]; exact q5 2 (by omega) (by omega)
  · simp (decide := true) only [wr_s, wr_n, wa_s, wa_n, if_true, eq_self, reduceIte]; rfl
  · have hp4 : p < 4 := by have : p < pPe tx n := p1; omega
    simp (decide := true) only [wr_s, wr_n, wa_s, wa_n, if_true, eq_self, reduceIte]
    rw [cpy, if_pos (by omega), show 0 + (p - 0) = p by omega]
    simp (decide := true) only [wr_s, wr_n, wa_s, wa_n, if_true, eq_self, reduceIte]
    rw [e10]; rfl
  · have hp4 : p < 4 := by have : p < pPe tx n := p1; omega
    simp (decide := true) only [wr_s, wr_n, wa_s, wa_n, if_true, eq_self, reduceIte]
    rw [cpy, if_pos (by omega), show 0 + (p - 0) = p by omega]
    simp (decide := true) only [wr_s, wr_n, wa_s, wa_n, if_true, eq_self, reduceIte]
    rw [e11]; rfl
  · have hp4 : p < pPe tx n := p1
    simp (decide := true) only [wr_s, wr_n, wa_s, wa_n, if_true, eq_self, reduceIte]
    rw [cpy, if_pos (by omega), show 0 + (4 * p - 0) = 4 * p by omega]
    simp (decide := true) only [wr_s, wr_n, wa_s, wa_n, if_true, eq_self, reduceIte]
    rw [q3 (4 * p) (by omega) (by omega)]
    exact (if_pos hp4).symm
  · have hi4 : i < pTa tx n := i1
    simp (decide := true) only [wr_s, wr_n, wa_s, wa_n, if_true, eq_self, reduceIte]
    rw [cpy, if_pos (by omega), show 0 + (i - 0) = i by omega]
    simp (decide := true) only [wr_s, wr_n, wa_s, wa_n, if_true, eq_self, reduceIte]
    rw [q4 i i0 hi4]
    exact (if_pos hi4).symm
  · have hp4 : p < pPe tx n := p1
    simp (decide := true) only [wr_s, wr_n, wa_s, wa_n, if_true, eq_self, reduceIte]
    rw [cpy, if_pos (by omega), show 0 + (4 * p + 1 - 0) = 4 * p + 1 by omega]
    simp (decide := true) only [wr_s, wr_n, wa_s, wa_n, if_true, eq_self, reduceIte]
    exact q3 (4 * p + 1) (by omega) (by omega)
  · have hp4 : p < pPe tx n := p1
    simp (decide := true) only [wr_s, wr_n, wa_s, wa_n, if_true, eq_self, reduceIte]
    rw [cpy, if_pos (by omega), show 0 + (4 * p + 2 - 0) = 4 * p + 2 by omega]
    simp (decide := true) only [wr_s, wr_n, wa_s, wa_n, if_true, eq_self, reduceIte]
    exact q3 (4 * p + 2) (by omega) (by omega)
  · have hp4 : p < pPe tx n := p1
    simp (decide := true) only [wr_s, wr_n, wa_s, wa_n, if_true, eq_self, reduceIte]
    rw [cpy, if_pos (by omega), show 0 + (4 * p + 3 - 0) = 4 * p + 3 by omega]
    simp (decide := true) only [wr_s, wr_n, wa_s, wa_n, if_true, eq_self, reduceIte]
    exact q3 (4 * p + 3) (by omega) (by omega)
  · exact (((((((((Fr.rf.wr (by decide)).wr (by decide)).wr (by decide)).wr (by decide)).wr (by decide)).wr (by decide)).wa (by decide)).wa (by decide)).wa (by decide)).wa (by decide)
theorem lp_X1_feesOf {κ : Mem} {p : Int} {μ : Mem} (hC : CR κ μ) (hp : 0 ≤ p ∧ p < κ 129 0) (hp2 : p < κ 124 0) (haw : κ 130 0 = 0) : ∀ (f : Nat) (i : Int), (0 ≤ i) → (i ≤ κ 125 0) → κ 125 0 - i < (f : Int) → AW kX1_feesOf 30 [some (.inr (.inr 2)), some (.inl p), some (.inl (feeN κ p i.toNat)), some (.inl i)] [] μ (pI (fun z ν => fees κ p = z ∧ μ = ν)) := by
  intro f
  induction f with
  | zero =>
    intro i h0 h1 hm
    exfalso; omega
  | succ f ih =>
    intro i h0 h1 hm
    obtain ⟨hkr, c105, c106, c107, c108, c109, c110, cP, cT, cF⟩ := id hC
    obtain ⟨r129, r125, r126, r127, r128, r130, rP, r124, r44⟩ := id hkr
    obtain ⟨c19, c20, c17⟩ := cP p hp.1 hp.2
    obtain ⟨r49, r50, r51, r52⟩ := rP p hp.1 (by omega)
    obtain ⟨n1, n2, n3⟩ := cF p hp.1 hp2 hp.2
    have s1 := r44 (4 * p + 1) (by omega) (by omega)
    have s2 := r44 (4 * p + 2) (by omega) (by omega)
    have hs : feeN κ p (i + 1).toNat = feeN κ p i.toNat + feeF κ p i := by unfold feeN; rw [sm_succ h0]; omega
    have hbt := bt_in (b := κ 49 p) (k := i)
    have hb0 : bt (κ 130 0) p = 0 := by rw [haw]; exact bt_0
    refine s_iload_3 (pc := 30) dX1_feesOf_30 ?_
    refine s_aload_0 (pc := 31) dX1_feesOf_31 ?_
    refine gfX1_44 (pc := 32) dX1_feesOf_32 rfl ?_
    try rw [c106]
    try rw [c19]
    try rw [n1]
    refine s_icmp_ge (pc := 35) 79 dX1_feesOf_35 rfl (by omega) (by omega) (fun h35 => ?_) (fun h35 => ?_)
    · refine s_iload_2 (pc := 79) dX1_feesOf_79 ?_
      refine s_ireturn (pc := 80) dX1_feesOf_80 rfl ?_
      cases (show i = κ 125 0 by omega)
      exact ⟨rfl, rfl⟩
    · refine s_aload_0 (pc := 38) dX1_feesOf_38 ?_
      refine s_iload_1 (pc := 39) dX1_feesOf_39 ?_
      refine s_iload_3 (pc := 40) dX1_feesOf_40 ?_
      refine cV2i (pc := 41) (Ky := kX1_isThere) dX1_feesOf_41 rfl lnX1_68 okX1_isThere ⟨1, TX1, 13, rfl, rfl⟩ ⟨Nat.le_of_ble_eq_true rfl, Nat.le_of_ble_eq_true rfl⟩ (Nat.le_of_ble_eq_true rfl) (c_X1_isThere hC hp (by omega)) ?_
      rintro _ _ ⟨rfl, rfl⟩
      refine s_if_eq (pc := 44) 73 dX1_feesOf_44 rfl (by omega) (fun h44 => ?_) (fun h44 => ?_)
      · have hth : ¬ (i < κ 50 p ∧ bt (κ 130 0) p = 0) := fun q => by rw [if_pos q] at h44; exact absurd h44 (by decide)
        rw [feeF, if_neg (fun q => hth ⟨q.2, hb0⟩)] at hs
        refine s_iinc_3 (pc := 73) dX1_feesOf_73 (Nat.le_of_ble_eq_true rfl) rfl ?_
        refine s_goto (pc := 76) 30 dX1_feesOf_76 rfl ?_
        refine s_le ?_ (ih (i + 1) (by omega) (by omega) (by omega))
        rw [hs]
        first
          | exact ⟨Or.inr rfl, Or.inr rfl, Or.inr rfl, Or.inr rfl, trivial⟩
          | (rw [Int.add_zero]
             exact ⟨Or.inr rfl, Or.inr rfl, Or.inr rfl, Or.inr rfl, trivial⟩)
      · have hth : i < κ 50 p ∧ bt (κ 130 0) p = 0 := Decidable.byContradiction fun q => by rw [if_neg q] at h44; exact h44 rfl
        refine s_aload_0 (pc := 47) dX1_feesOf_47 ?_
        refine gfX1_18 (pc := 48) dX1_feesOf_48 rfl ?_
        refine s_iload_1 (pc := 51) dX1_feesOf_51 ?_
        refine z_iaload (pc := 52) dX1_feesOf_52 ly_19 (by omega) (by omega) ?_
        try rw [c106]
        try rw [c19]
        try rw [n1]
        refine s_iload_3 (pc := 53) dX1_feesOf_53 ?_
        refine cN2i (pc := 54) (Ky := kX8_hasBit) dX1_feesOf_54 rfl nsX1_72 okX8_hasBit ⟨Nat.le_of_ble_eq_true rfl, Nat.le_of_ble_eq_true rfl⟩ (Nat.le_of_ble_eq_true rfl) (c_X8_hasBit (by omega) (by omega)) ?_
        rintro _ _ ⟨rfl, rfl⟩
        refine s_if_eq (pc := 57) 73 dX1_feesOf_57 rfl (by omega) (fun h57 => ?_) (fun h57 => ?_)
        · rw [feeF, if_neg (fun q => by have := q.1; omega)] at hs
          refine s_iinc_3 (pc := 73) dX1_feesOf_73 (Nat.le_of_ble_eq_true rfl) rfl ?_
          refine s_goto (pc := 76) 30 dX1_feesOf_76 rfl ?_
          refine s_le ?_ (ih (i + 1) (by omega) (by omega) (by omega))
          rw [hs]
          first
            | exact ⟨Or.inr rfl, Or.inr rfl, Or.inr rfl, Or.inr rfl, trivial⟩
            | (rw [Int.add_zero]
               exact ⟨Or.inr rfl, Or.inr rfl, Or.inr rfl, Or.inr rfl, trivial⟩)
        · rw [feeF, if_pos ⟨by omega, hth.1⟩] at hs
          refine s_iload_2 (pc := 60) dX1_feesOf_60 ?_
          refine s_aload_0 (pc := 61) dX1_feesOf_61 ?_
          refine gfX1_9 (pc := 62) dX1_feesOf_62 rfl ?_
          refine s_iconst_4 (pc := 65) dX1_feesOf_65 ?_
          refine s_iload_1 (pc := 66) dX1_feesOf_66 ?_
          refine s_imul (pc := 67) dX1_feesOf_67 ?_
          refine s_iconst_1 (pc := 68) dX1_feesOf_68 ?_
          refine s_iadd (pc := 69) dX1_feesOf_69 ?_
          refine z_iaload (pc := 70) dX1_feesOf_70 ly_17 (by omega) (by omega) ?_
          try rw [c106]
          try rw [c19]
          try rw [n1]
          refine s_iadd (pc := 71) dX1_feesOf_71 ?_
          refine s_istore_2 (pc := 72) dX1_feesOf_72 (Nat.le_of_ble_eq_true rfl) rfl ?_
          refine s_iinc_3 (pc := 73) dX1_feesOf_73 (Nat.le_of_ble_eq_true rfl) rfl ?_
          refine s_goto (pc := 76) 30 dX1_feesOf_76 rfl ?_
          refine s_le ?_ (ih (i + 1) (by omega) (by omega) (by omega))
          rw [hs]
          first
            | exact ⟨Or.inr rfl, Or.inr rfl, Or.inr rfl, Or.inr rfl, trivial⟩
            | (rw [Int.add_zero]
               exact ⟨Or.inr rfl, Or.inr rfl, Or.inr rfl, Or.inr rfl, trivial⟩)
theorem c_X1_feesOf {κ : Mem} {p : Int} {μ : Mem} (hC : CR κ μ) (hp : 0 ≤ p ∧ p < κ 129 0) (hp2 : p < κ 124 0) (haw : κ 130 0 = 0) : Mc kX1_feesOf [.inr (.inr 2), .inl p] μ (pI (fun z ν => fees κ p = z ∧ μ = ν)) := by
  refine Mc_of (by decide +kernel) (fun _ => Nat.le_of_ble_eq_true rfl) ?_
  show AW kX1_feesOf 0 [some (.inr (.inr 2)), some (.inl p), none, none] [] μ _
  obtain ⟨hkr, c105, c106, c107, c108, c109, c110, cP, cT, cF⟩ := id hC
  obtain ⟨r129, r125, r126, r127, r128, r130, rP, r124, r44⟩ := id hkr
  obtain ⟨c19, c20, c17⟩ := cP p hp.1 hp.2
  obtain ⟨r49, r50, r51, r52⟩ := rP p hp.1 (by omega)
  obtain ⟨n1, n2, n3⟩ := cF p hp.1 hp2 hp.2
  have s1 := r44 (4 * p + 1) (by omega) (by omega)
  have s2 := r44 (4 * p + 2) (by omega) (by omega)
  refine s_aload_0 (pc := 0) dX1_feesOf_0 ?_
  refine gfX1_21 (pc := 1) dX1_feesOf_1 rfl ?_
  refine s_iload_1 (pc := 4) dX1_feesOf_4 ?_
  refine z_iaload (pc := 5) dX1_feesOf_5 ly_20 (by omega) (by omega) ?_
  try rw [c20]
  try rw [c106]
  try rw [n2]
  refine s_aload_0 (pc := 6) dX1_feesOf_6 ?_
  refine gfX1_44 (pc := 7) dX1_feesOf_7 rfl ?_
  try rw [c20]
  try rw [c106]
  try rw [n2]
  refine s_icmp_ge (pc := 10) 26 dX1_feesOf_10 rfl (by omega) (by omega) (fun h10 => ?_) (fun h10 => ?_)
  · refine s_iconst_0 (pc := 26) dX1_feesOf_26 ?_
    refine s_valI (y := feeN κ p (0 : Int).toNat) ?_ ?_
    · show _ = (if κ 50 p < κ 125 0 then κ 44 (4 * p + 2) else 0) + 0
      first | (rw [if_pos (by omega)]; omega) | (rw [if_neg (by omega)]; omega)
    refine s_istore_2 (pc := 27) dX1_feesOf_27 (Nat.le_of_ble_eq_true rfl) rfl ?_
    refine s_iconst_0 (pc := 28) dX1_feesOf_28 ?_
    refine s_istore_3 (pc := 29) dX1_feesOf_29 (Nat.le_of_ble_eq_true rfl) rfl ?_
    exact lp_X1_feesOf hC hp hp2 haw 5 0 (by omega) (by omega) (by omega)
  · refine s_aload_0 (pc := 13) dX1_feesOf_13 ?_
    refine gfX1_9 (pc := 14) dX1_feesOf_14 rfl ?_
    refine s_iconst_4 (pc := 17) dX1_feesOf_17 ?_
    refine s_iload_1 (pc := 18) dX1_feesOf_18 ?_
    refine s_imul (pc := 19) dX1_feesOf_19 ?_
    refine s_iconst_2 (pc := 20) dX1_feesOf_20 ?_
    refine s_iadd (pc := 21) dX1_feesOf_21 ?_
    refine z_iaload (pc := 22) dX1_feesOf_22 ly_17 (by omega) (by omega) ?_
    try rw [c20]
    try rw [c106]
    try rw [n2]
    refine s_goto (pc := 23) 27 dX1_feesOf_23 rfl ?_
    refine s_valI (y := feeN κ p (0 : Int).toNat) ?_ ?_
    · show _ = (if κ 50 p < κ 125 0 then κ 44 (4 * p + 2) else 0) + 0
      first | (rw [if_pos (by omega)]; omega) | (rw [if_neg (by omega)]; omega)
    refine s_istore_2 (pc := 27) dX1_feesOf_27 (Nat.le_of_ble_eq_true rfl) rfl ?_
    refine s_iconst_0 (pc := 28) dX1_feesOf_28 ?_
    refine s_istore_3 (pc := 29) dX1_feesOf_29 (Nat.le_of_ble_eq_true rfl) rfl ?_
    exact lp_X1_feesOf hC hp hp2 haw 5 0 (by omega) (by omega) (by omega)
theorem c_X1_seatOneMore {κ : Mem} {t : Int} {μ : Mem} (hC : CR κ μ) (hP4 : κ 129 0 < 4) (h124 : κ 124 0 ≤ κ 129 0) (ht : 0 ≤ t ∧ t ≤ 9) (hko : κ 128 0 < κ 129 0) : Mc kX1_seatOneMore [.inr (.inr 2), .inl t] μ (pV (fun ν => CR (kH κ (κ 129 0) t) ν ∧ Fr [17, 19, 20, 105] μ ν)) := by
  refine Mc_of (by decide +kernel) (fun _ => Nat.le_of_ble_eq_true rfl) ?_
  show AW kX1_seatOneMore 0 [some (.inr (.inr 2)), some (.inl t)] [] μ _
  obtain ⟨hkr, c105, c106, c107, c108, c109, c110, cP, cT, cF⟩ := id hC
  obtain ⟨r129, r125, r126, r127, r128, r130, rP, r124, r44⟩ := id hkr
  refine s_aload_0 (pc := 0) dX1_seatOneMore_0 ?_
  refine gfX1_40 (pc := 1) dX1_seatOneMore_1 rfl ?_
  try simp (decide := true) only [wr_s, wr_n, wa_s, wa_n, if_true, eq_self, reduceIte]
  try rw [c105]
  refine s_iconst_4 (pc := 4) dX1_seatOneMore_4 ?_
  refine s_icmp_lt (pc := 5) 9 dX1_seatOneMore_5 rfl (by omega) (by omega) (fun h5 => ?_) (fun h5 => ?_)
  · refine s_aload_0 (pc := 9) dX1_seatOneMore_9 ?_
    refine gfX1_9 (pc := 10) dX1_seatOneMore_10 rfl ?_
    refine s_iconst_4 (pc := 13) dX1_seatOneMore_13 ?_
    refine s_aload_0 (pc := 14) dX1_seatOneMore_14 ?_
    refine gfX1_40 (pc := 15) dX1_seatOneMore_15 rfl ?_
    try simp (decide := true) only [wr_s, wr_n, wa_s, wa_n, if_true, eq_self, reduceIte]
    try rw [c105]
    refine s_imul (pc := 18) dX1_seatOneMore_18 ?_
    refine s_iconst_0 (pc := 19) dX1_seatOneMore_19 ?_
    refine s_iadd (pc := 20) dX1_seatOneMore_20 ?_
    refine s_iload_1 (pc := 21) dX1_seatOneMore_21 ?_
    refine z_iastore (pc := 22) dX1_seatOneMore_22 ly_17 ip_17 (by omega) (by omega) ?_
    refine s_aload_0 (pc := 23) dX1_seatOneMore_23 ?_
    refine gfX1_18 (pc := 24) dX1_seatOneMore_24 rfl ?_
    refine s_aload_0 (pc := 27) dX1_seatOneMore_27 ?_
    refine gfX1_40 (pc := 28) dX1_seatOneMore_28 rfl ?_
    try simp (decide := true) only [wr_s, wr_n, wa_s, wa_n, if_true, eq_self, reduceIte]
    try rw [c105]
    refine s_iconst_0 (pc := 31) dX1_seatOneMore_31 ?_
    refine z_iastore (pc := 32) dX1_seatOneMore_32 ly_19 ip_19 (by omega) (by omega) ?_
    refine s_aload_0 (pc := 33) dX1_seatOneMore_33 ?_
    refine gfX1_21 (pc := 34) dX1_seatOneMore_34 rfl ?_
    refine s_aload_0 (pc := 37) dX1_seatOneMore_37 ?_
    refine gfX1_40 (pc := 38) dX1_seatOneMore_38 rfl ?_
    try simp (decide := true) only [wr_s, wr_n, wa_s, wa_n, if_true, eq_self, reduceIte]
    try rw [c105]
    refine s_iconst_4 (pc := 41) dX1_seatOneMore_41 ?_
    refine z_iastore (pc := 42) dX1_seatOneMore_42 ly_20 ip_20 (by omega) (by omega) ?_
    refine s_aload_0 (pc := 43) dX1_seatOneMore_43 ?_
    refine s_dup (pc := 44) dX1_seatOneMore_44 rfl ?_
    refine gfX1_40 (pc := 45) dX1_seatOneMore_45 rfl ?_
    try simp (decide := true) only [wr_s, wr_n, wa_s, wa_n, if_true, eq_self, reduceIte]
    try rw [c105]
    refine s_iconst_1 (pc := 48) dX1_seatOneMore_48 ?_
    refine s_iadd (pc := 49) dX1_seatOneMore_49 ?_
    refine pfX1_40 (pc := 50) dX1_seatOneMore_50 rfl ?_
    refine s_return (pc := 53) dX1_seatOneMore_53 rfl ?_
    have e129 : kH κ (κ 129 0) t 129 0 = κ 129 0 + 1 := by unfold kH; rw [wr_s, if_pos rfl]
    have e51 : ∀ p, kH κ (κ 129 0) t 51 p = if p = κ 129 0 then t else κ 51 p := fun p => by unfold kH; simp (decide := true) only [wr_s, wr_n, wa_s, wa_n, if_true, eq_self, reduceIte]
    have e49 : ∀ p, kH κ (κ 129 0) t 49 p = if p = κ 129 0 then 0 else κ 49 p := fun p => by unfold kH; simp (decide := true) only [wr_s, wr_n, wa_s, wa_n, if_true, eq_self, reduceIte]
    have e50 : ∀ p, kH κ (κ 129 0) t 50 p = if p = κ 129 0 then 4 else κ 50 p := fun p => by unfold kH; simp (decide := true) only [wr_s, wr_n, wa_s, wa_n, if_true, eq_self, reduceIte]
    have eo : ∀ c, c ≠ 49 → c ≠ 50 → c ≠ 51 → c ≠ 129 → kH κ (κ 129 0) t c = κ c := fun c h1 h2 h3 h4 => kH_o h1 h2 h3 h4
    refine ⟨⟨(kH_KO ⟨hkr, hko⟩ ⟨rfl, hP4⟩ ht).1, ?_, ?_, ?_, ?_, ?_, ?_, fun p p0 p1 => ?_, fun i i0 i1 => ?_, fun p p0 p1 p2 => ?_⟩, ?_⟩
    · rw [e129]; simp (decide := true) only [wr_s, wr_n, wa_s, wa_n, if_true, eq_self, reduceIte]
    · rw [eo 125 (by decide) (by decide) (by decide) (by decide)]; simp (decide := true) only [wr_s, wr_n, wa_s, wa_n, if_true, eq_self, reduceIte]; exact c106
    · rw [eo 126 (by decide) (by decide) (by decide) (by decide)]; simp (decide := true) only [wr_s, wr_n, wa_s, wa_n, if_true, eq_self, reduceIte]; exact c107
    · rw [eo 127 (by decide) (by decide) (by decide) (by decide)]; simp (decide := true) only [wr_s, wr_n, wa_s, wa_n, if_true, eq_self, reduceIte]; exact c108
    · rw [eo 128 (by decide) (by decide) (by decide) (by decide)]; simp (decide := true) only [wr_s, wr_n, wa_s, wa_n, if_true, eq_self, reduceIte]; exact c109
    · rw [eo 130 (by decide) (by decide) (by decide) (by decide)]; simp (decide := true) only [wr_s, wr_n, wa_s, wa_n, if_true, eq_self, reduceIte]; exact c110
    · rw [e129] at p1
      rw [e49, e50, e51]
      simp (decide := true) only [wr_s, wr_n, wa_s, wa_n, if_true, eq_self, reduceIte]
      by_cases hp : p = κ 129 0
      · rw [if_pos hp, if_pos hp, if_pos hp, if_pos hp, if_pos hp, if_pos (by omega)]
        exact ⟨rfl, rfl, rfl⟩
      · rw [if_neg hp, if_neg hp, if_neg hp, if_neg hp, if_neg hp, if_neg (by omega)]
        exact cP p p0 (by omega)
    · rw [eo 52 (by decide) (by decide) (by decide) (by decide)]
      rw [eo 125 (by decide) (by decide) (by decide) (by decide)] at i1
      simp (decide := true) only [wr_s, wr_n, wa_s, wa_n, if_true, eq_self, reduceIte]
      exact cT i i0 i1
    · rw [eo 124 (by decide) (by decide) (by decide) (by decide)] at p1
      rw [eo 44 (by decide) (by decide) (by decide) (by decide)]
      simp (decide := true) only [wr_s, wr_n, wa_s, wa_n, if_true, eq_self, reduceIte]
      rw [if_neg (by omega), if_neg (by omega), if_neg (by omega)]
      exact cF p p0 p1 (by omega)
    · exact (((Fr.rf.wr (by decide)).wr (by decide)).wr (by decide)).wr (by decide)
  · exact absurd hP4 (by omega)
