theorem c_X4_findBest {tx : Int → Int} {n p : Int} {hd lv : Int → Int} {μ : Mem} (hQ : RQ tx n μ) (hn : 0 ≤ n ∧ n ≤ 60) (e10 : μ 10 = hd) (e11 : μ 11 = lv) (hhd : ∀ p : Int, 0 ≤ p → p < 4 → 0 ≤ hd p ∧ hd p ≤ 15) (hlv : ∀ p : Int, 0 ≤ p → p < 4 → 0 ≤ lv p ∧ lv p ≤ 4) (hp : 0 ≤ p ∧ p < pPe tx n) : Mc kX4_findBest [.inr (.inr 4), .inl p] μ (pV (fun ν => CR (cfg tx n hd lv) ν ∧ RC (cfg tx n hd lv) ν (best (cfg tx n hd lv) p) ∧ Fr [17, 18, 19, 20, 21, 22, 23, 24, 25, 28, 29, 30, 105, 106, 107, 108, 109, 110, 111, 112, 113, 114] μ ν)) := by
  refine Mc_of (by decide +kernel) (fun _ => Nat.le_of_ble_eq_true rfl) ?_
  show AW kX4_findBest 0 [some (.inr (.inr 4)), some (.inl p)] [] μ _
  refine s_aload_0 (pc := 0) dX4_findBest_0 ?_
  refine gfX4_27 (pc := 1) dX4_findBest_1 rfl ?_
  refine cV0v (pc := 4) (Ky := kX1_gather) dX4_findBest_4 rfl lnX4_35 okX1_gather ⟨1, TX1, 13, rfl, rfl⟩ ⟨Nat.le_of_ble_eq_true rfl, Nat.le_of_ble_eq_true rfl⟩ (Nat.le_of_ble_eq_true rfl) (c_X1_gather hQ hn e10 e11 hhd hlv) ?_
  rintro ν4 ⟨hC4, hF4⟩
  have hko := cfg_KO hC4.1 (by omega)
  refine s_aload_0 (pc := 7) dX4_findBest_7 ?_
  refine s_iload_1 (pc := 8) dX4_findBest_8 ?_
  refine cV1v (pc := 9) (Ky := kX4_compareWays) dX4_findBest_9 rfl lnX4_40 okX4_compareWays ⟨4, TX4, 11, rfl, rfl⟩ ⟨Nat.le_of_ble_eq_true rfl, Nat.le_of_ble_eq_true rfl⟩ (Nat.le_of_ble_eq_true rfl) (c_X4_compareWays hC4 hko hp hp.2 rfl) ?_
  rintro ν9 ⟨hC9, hB9, hF9⟩
  refine s_return (pc := 12) dX4_findBest_12 rfl ?_
  exact ⟨hC9, hB9, (hF4.mono (by decide)).tr (hF9.mono (by decide))⟩
theorem lp_X4_rc {κ : Mem} {μ : Mem} (hko : 0 < κ 129 0 → KO κ) (hkr : KR κ) (heq : κ 124 0 = κ 129 0) (haw : κ 130 0 = 0) : ∀ (f : Nat) (j : Int) (ν : Mem), (0 ≤ j) → (j ≤ κ 129 0) → (Fr [19, 20, 21, 22, 23, 24, 25, 111, 112, 113, 114] μ ν) → (CR (rndN κ j.toNat).1 ν) → ((rndN κ j.toNat).2 = 0 ∨ (rndN κ j.toNat).2 = 1) → (sameW κ (rndN κ j.toNat).1) → κ 129 0 - j < (f : Int) → AW kX4_roundChanges 4 [some (.inr (.inr 4)), some (.inl (rndN κ j.toNat).2), some (.inl j), none, none] [] ν (pI (fun z ν => (rnd κ).2 = z ∧ CR (rnd κ).1 ν ∧ Fr [19, 20, 21, 22, 23, 24, 25, 111, 112, 113, 114] μ ν)) := by
  intro f
  induction f with
  | zero =>
    intro j ν h0 h1 hF hC hz hW hm
    exfalso; omega
  | succ f ih =>
    intro j ν h0 h1 hF hC hz hW hm
    have r129 := hkr.1
    have e129 : (rndN κ j.toNat).1 129 0 = κ 129 0 := by rw [hW 129 (by decide) (by decide)]
    have e124 : (rndN κ j.toNat).1 124 0 = κ 124 0 := by rw [hW 124 (by decide) (by decide)]
    have e130 : (rndN κ j.toNat).1 130 0 = κ 130 0 := by rw [hW 130 (by decide) (by decide)]
    have c105 : ν 105 0 = κ 129 0 := hC.2.1.trans e129
    have hsu := rndN_succ (κ := κ) h0
    refine s_iload_2 (pc := 4) dX4_roundChanges_4 ?_
    refine s_aload_0 (pc := 5) dX4_roundChanges_5 ?_
    refine gfX4_27 (pc := 6) dX4_roundChanges_6 rfl ?_
    refine gfX4_101 (pc := 9) dX4_roundChanges_9 rfl ?_
    try simp (decide := true) only [wr_s, wr_n, wa_s, wa_n, mg_i, mg_o, if_true, eq_self, reduceIte]
    try rw [c105]
    try rw [b112]
    try rw [b113]
    try rw [b114]
    refine s_icmp_ge (pc := 12) 79 dX4_roundChanges_12 rfl (by omega) (by omega) (fun h12 => ?_) (fun h12 => ?_)
    · refine s_iload_1 (pc := 79) dX4_roundChanges_79 ?_
      refine s_zreturn (pc := 80) dX4_roundChanges_80 rfl hz ?_
      cases (show j = κ 129 0 by omega)
      unfold rnd
      rw [heq]
      exact ⟨rfl, hC, hF⟩
    · have hkj := (rndN_ok (hko (by omega)) heq j.toNat (by omega)).1
      have hup := rndN_ok (hko (by omega)) heq (j + 1).toNat (by omega)
      have hbg := best_g hkj (p := j) h0 (by omega) (by omega)
      have hci := cst_in hkj (p := j) h0 (by omega) (by omega)
      have h6 := p6144 hkj.1
      refine s_aload_0 (pc := 15) dX4_roundChanges_15 ?_
      refine gfX4_31 (pc := 16) dX4_roundChanges_16 rfl ?_
      refine cV0v (pc := 19) (Ky := kX0_play) dX4_roundChanges_19 rfl lnX4_104 okX0_play ⟨0, TX0, 7, rfl, rfl⟩ ⟨Nat.le_of_ble_eq_true rfl, Nat.le_of_ble_eq_true rfl⟩ (Nat.le_of_ble_eq_true rfl) (c_X0_play hC hkj) ?_
      rintro ν19 ⟨hP19, hF19⟩
      have hC19 := hC.fr hF19 (by decide)
      refine s_aload_0 (pc := 22) dX4_roundChanges_22 ?_
      refine gfX4_31 (pc := 23) dX4_roundChanges_23 rfl ?_
      refine s_iload_2 (pc := 26) dX4_roundChanges_26 ?_
      refine cV1l (pc := 27) (Ky := kX0_costOf) dX4_roundChanges_27 rfl lnX4_78 okX0_costOf ⟨0, TX0, 7, rfl, rfl⟩ ⟨Nat.le_of_ble_eq_true rfl, Nat.le_of_ble_eq_true rfl⟩ (Nat.le_of_ble_eq_true rfl) (c_X0_costOf hC19 (by omega) (by omega) (by omega) hP19) ?_
      rintro _ _ ⟨rfl, rfl⟩
      refine s_lstore_3 (pc := 30) dX4_roundChanges_30 (Nat.le_of_ble_eq_true rfl) rfl ?_
      refine s_aload_0 (pc := 31) dX4_roundChanges_31 ?_
      refine s_iload_2 (pc := 32) dX4_roundChanges_32 ?_
      refine cV1v (pc := 33) (Ky := kX4_compareWays) dX4_roundChanges_33 rfl lnX4_40 okX4_compareWays ⟨4, TX4, 11, rfl, rfl⟩ ⟨Nat.le_of_ble_eq_true rfl, Nat.le_of_ble_eq_true rfl⟩ (Nat.le_of_ble_eq_true rfl) (c_X4_compareWays hC19 hkj (by omega) (by omega) (by omega)) ?_
      rintro ν33 ⟨hC33, hB33, hF33⟩
      obtain ⟨b112, b113, b114⟩ := RC_g hbg hB33
      have hFF : Fr [19, 20, 21, 22, 23, 24, 25, 111, 112, 113, 114] μ ν33 := (hF.tr (hF19.mono (by decide))).tr (hF33.mono (by decide))
      obtain ⟨g1, g2, g3, g4⟩ := id hbg
      refine s_aload_0 (pc := 36) dX4_roundChanges_36 ?_
      refine gfX4_57 (pc := 37) dX4_roundChanges_37 rfl ?_
      try simp (decide := true) only [wr_s, wr_n, wa_s, wa_n, mg_i, mg_o, if_true, eq_self, reduceIte]
      try rw [c105]
      try rw [b112]
      try rw [b113]
      try rw [b114]
      refine s_lload_3 (pc := 40) dX4_roundChanges_40 ?_
      refine s_lif_ge (pc := 41) 73 dX4_roundChanges_41 dX4_roundChanges_42 rfl (by omega) (by omega) (fun h42 => ?_) (fun h42 => ?_)
      · have hnl : ¬ ((best (rndN κ j.toNat).1 j).1 < cst (rndN κ j.toNat).1 j) := by omega
        rw [if_neg hnl] at hsu
        refine s_iinc_2 (pc := 73) dX4_roundChanges_73 (Nat.le_of_ble_eq_true rfl) rfl ?_
        refine s_goto (pc := 76) 4 dX4_roundChanges_76 rfl ?_
        first
          | (refine s_le ?_ (ih (j + 1) _ (by omega) (by omega) hFF (by rw [hsu]; exact hC33) (by rw [hsu]; exact hz) (by rw [hsu]; exact hW) (by omega))
             refine ⟨Or.inr rfl, Or.inr (by rw [hsu]), Or.inr rfl, Or.inl rfl, Or.inl rfl, trivial⟩
             done)
          | (have hC24 := (hC33.w19 (p := j) g3).w20 (p := j) g4
             rw [wr_cm (by decide)] at hC24
             refine s_le ?_ (ih (j + 1) _ (by omega) (by omega) ((hFF.wr (by decide)).wr (by decide)) (by rw [hsu]; exact hC24) hup.2.2 hup.2.1 (by omega))
             refine ⟨Or.inr rfl, Or.inr (by rw [hsu]), Or.inr rfl, Or.inl rfl, Or.inl rfl, trivial⟩)
      · have hnl : (best (rndN κ j.toNat).1 j).1 < cst (rndN κ j.toNat).1 j := by omega
        rw [if_pos hnl] at hsu
        refine s_aload_0 (pc := 45) dX4_roundChanges_45 ?_
        refine gfX4_27 (pc := 46) dX4_roundChanges_46 rfl ?_
        refine gfX4_44 (pc := 49) dX4_roundChanges_49 rfl ?_
        refine s_iload_2 (pc := 52) dX4_roundChanges_52 ?_
        refine s_aload_0 (pc := 53) dX4_roundChanges_53 ?_
        refine gfX4_82 (pc := 54) dX4_roundChanges_54 rfl ?_
        try simp (decide := true) only [wr_s, wr_n, wa_s, wa_n, mg_i, mg_o, if_true, eq_self, reduceIte]
        try rw [c105]
        try rw [b112]
        try rw [b113]
        try rw [b114]
        refine z_iastore (pc := 57) dX4_roundChanges_57 ly_19 ip_19 (by omega) (by omega) ?_
        refine s_aload_0 (pc := 58) dX4_roundChanges_58 ?_
        refine gfX4_27 (pc := 59) dX4_roundChanges_59 rfl ?_
        refine gfX4_47 (pc := 62) dX4_roundChanges_62 rfl ?_
        refine s_iload_2 (pc := 65) dX4_roundChanges_65 ?_
        refine s_aload_0 (pc := 66) dX4_roundChanges_66 ?_
        refine gfX4_85 (pc := 67) dX4_roundChanges_67 rfl ?_
        try simp (decide := true) only [wr_s, wr_n, wa_s, wa_n, mg_i, mg_o, if_true, eq_self, reduceIte]
        try rw [c105]
        try rw [b112]
        try rw [b113]
        try rw [b114]
        refine z_iastore (pc := 70) dX4_roundChanges_70 ly_20 ip_20 (by omega) (by omega) ?_
        refine s_iconst_1 (pc := 71) dX4_roundChanges_71 ?_
        refine s_istore_1 (pc := 72) dX4_roundChanges_72 (Nat.le_of_ble_eq_true rfl) rfl ?_
        refine s_iinc_2 (pc := 73) dX4_roundChanges_73 (Nat.le_of_ble_eq_true rfl) rfl ?_
        refine s_goto (pc := 76) 4 dX4_roundChanges_76 rfl ?_
        first
          | (refine s_le ?_ (ih (j + 1) _ (by omega) (by omega) hFF (by rw [hsu]; exact hC33) (by rw [hsu]; exact hz) (by rw [hsu]; exact hW) (by omega))
             refine ⟨Or.inr rfl, Or.inr (by rw [hsu]), Or.inr rfl, Or.inl rfl, Or.inl rfl, trivial⟩
             done)
          | (have hC24 := (hC33.w19 (p := j) g3).w20 (p := j) g4
             rw [wr_cm (by decide)] at hC24
             refine s_le ?_ (ih (j + 1) _ (by omega) (by omega) ((hFF.wr (by decide)).wr (by decide)) (by rw [hsu]; exact hC24) hup.2.2 hup.2.1 (by omega))
             refine ⟨Or.inr rfl, Or.inr (by rw [hsu]), Or.inr rfl, Or.inl rfl, Or.inl rfl, trivial⟩)
theorem c_X4_roundChanges {κ : Mem} {μ : Mem} (hC : CR κ μ) (hko : 0 < κ 129 0 → KO κ) (heq : κ 124 0 = κ 129 0) (haw : κ 130 0 = 0) : Mc kX4_roundChanges [.inr (.inr 4)] μ (pI (fun z ν => (rnd κ).2 = z ∧ CR (rnd κ).1 ν ∧ Fr [19, 20, 21, 22, 23, 24, 25, 111, 112, 113, 114] μ ν)) := by
  refine Mc_of (by decide +kernel) (fun _ => Nat.le_of_ble_eq_true rfl) ?_
  show AW kX4_roundChanges 0 [some (.inr (.inr 4)), none, none, none, none] [] μ _
  refine s_iconst_0 (pc := 0) dX4_roundChanges_0 ?_
  refine s_istore_1 (pc := 1) dX4_roundChanges_1 (Nat.le_of_ble_eq_true rfl) rfl ?_
  refine s_iconst_0 (pc := 2) dX4_roundChanges_2 ?_
  refine s_istore_2 (pc := 3) dX4_roundChanges_3 (Nat.le_of_ble_eq_true rfl) rfl ?_
  have r129 := hC.1.1
  exact lp_X4_rc hko hC.1 heq haw 5 0 μ (by omega) (by omega) Fr.rf hC (Or.inl rfl) (fun _ _ _ => rfl) (by omega)
theorem lp_X4_settle {κ : Mem} {μ : Mem} (hok : okW κ κ) (heq : κ 124 0 = κ 129 0) (haw : κ 130 0 = 0) : ∀ (f : Nat) (i : Int) (ν : Mem), (1 ≤ i) → (i ≤ 21) → (Fr [19, 20, 21, 22, 23, 24, 25, 26, 27, 111, 112, 113, 114, 115] μ ν) → (CR (rsN κ (i - 1).toNat).1 ν) → (ν 115 0 = if (rsN κ (i - 1).toNat).2.1 = 0 then (rsN κ (i - 1).toNat).2.2 else -1) → ((rsN κ (i - 1).toNat).2.2 = i - 1) → 21 - i < (f : Int) → AW kX4_settle 14 [some (.inr (.inr 4)), some (.inl i)] [] ν (pV (fun ν => ν 115 0 = sRest κ (-1) 0 ∧ (∀ p : Int, 0 ≤ p → p < κ 129 0 → ν 26 p = (rs κ).1 49 p ∧ ν 27 p = (rs κ).1 50 p) ∧ Fr [19, 20, 21, 22, 23, 24, 25, 26, 27, 111, 112, 113, 114, 115] μ ν)) := by
  intro f
  induction f with
  | zero =>
    intro i ν h0 h1 hF hC h115 hn hm
    exfalso; omega
  | succ f ih =>
    intro i ν h0 h1 hF hC h115 hn hm
    have hoj := rsN_ok hok heq (i - 1).toNat
    have e129 : (rsN κ (i - 1).toNat).1 129 0 = κ 129 0 := by rw [hoj.1.2.1 129 (by decide) (by decide)]
    have e124 : (rsN κ (i - 1).toNat).1 124 0 = κ 124 0 := by rw [hoj.1.2.1 124 (by decide) (by decide)]
    have e130 : (rsN κ (i - 1).toNat).1 130 0 = κ 130 0 := by rw [hoj.1.2.1 130 (by decide) (by decide)]
    have hro := rnd_ok hoj.1 heq
    have r129 := hok.1.1
    refine s_iload_1 (pc := 14) dX4_settle_14 ?_
    refine s_bipush (pc := 15) (z := 20) dX4_settle_15 rfl ?_
    refine s_icmp_gt (pc := 17) 46 dX4_settle_17 rfl (by omega) (by omega) (fun h17 => ?_) (fun h17 => ?_)
    · have hrs : rs κ = (rsN κ (i - 1).toNat) := by rw [show i = 21 by omega]; rfl
      refine s_aload_0 (pc := 46) dX4_settle_46 ?_
      refine gfX4_27 (pc := 47) dX4_settle_47 rfl ?_
      refine gfX4_44 (pc := 50) dX4_settle_50 rfl ?_
      refine s_iconst_0 (pc := 53) dX4_settle_53 ?_
      refine s_aload_0 (pc := 54) dX4_settle_54 ?_
      refine gfX4_9 (pc := 55) dX4_settle_55 rfl ?_
      refine s_iconst_0 (pc := 58) dX4_settle_58 ?_
      refine s_iconst_4 (pc := 59) dX4_settle_59 ?_
      refine z_copy (pc := 60) dX4_settle_60 rfl lnX4_95 ly_19 ly_26 ip_26 (Nat.le_of_ble_eq_true rfl) (Nat.le_of_ble_eq_true rfl) (by omega) (by omega) (by omega) (by omega) (by omega) ?_
      refine s_aload_0 (pc := 63) dX4_settle_63 ?_
      refine gfX4_27 (pc := 64) dX4_settle_64 rfl ?_
      refine gfX4_47 (pc := 67) dX4_settle_67 rfl ?_
      refine s_iconst_0 (pc := 70) dX4_settle_70 ?_
      refine s_aload_0 (pc := 71) dX4_settle_71 ?_
      refine gfX4_15 (pc := 72) dX4_settle_72 rfl ?_
      refine s_iconst_0 (pc := 75) dX4_settle_75 ?_
      refine s_iconst_4 (pc := 76) dX4_settle_76 ?_
      refine z_copy (pc := 77) dX4_settle_77 rfl lnX4_95 ly_20 ly_27 ip_27 (Nat.le_of_ble_eq_true rfl) (Nat.le_of_ble_eq_true rfl) (by omega) (by omega) (by omega) (by omega) (by omega) ?_
      refine s_return (pc := 80) dX4_settle_80 rfl ?_
      refine ⟨?_, fun p p0 p1 => ⟨?_, ?_⟩, ?_⟩
      · simp (decide := true) only [wr_s, wr_n, wa_s, wa_n, if_true, eq_self, reduceIte]
        rw [h115, sRest, if_pos rfl, hrs]
        first | done | (rw [if_pos (by omega), if_pos (by omega)]; done) | (rw [if_neg (by omega), if_neg (by omega)]; done)
      · have hc := hC.2.2.2.2.2.2.2.1 p p0 (by omega)
        simp (decide := true) only [wr_s, wr_n, wa_s, wa_n, if_true, eq_self, reduceIte]
        rw [cpy, if_pos (by omega), show 0 + (p - 0) = p by omega, hrs]
        exact hc.1
      · have hc := hC.2.2.2.2.2.2.2.1 p p0 (by omega)
        simp (decide := true) only [wr_s, wr_n, wa_s, wa_n, if_true, eq_self, reduceIte]
        rw [cpy, if_pos (by omega), show 0 + (p - 0) = p by omega, hrs]
        simp (decide := true) only [wr_s, wr_n, wa_s, wa_n, if_true, eq_self, reduceIte]
        exact hc.2.1
      · exact (hF.wa (by decide)).wa (by decide)
    · refine s_aload_0 (pc := 20) dX4_settle_20 ?_
      refine gfX4_88 (pc := 21) dX4_settle_21 rfl ?_
      try rw [h115]
      refine s_iconst_m1 (pc := 24) dX4_settle_24 ?_
      refine s_icmp_ne (pc := 25) 46 dX4_settle_25 rfl (by omega) (by omega) (fun h25 => ?_) (fun h25 => ?_)
      · have hrs : rs κ = (rsN κ (i - 1).toNat) := by
          have := rsN_stop (κ := κ) (j := (i - 1).toNat) (by omega) (20 - (i - 1).toNat)
          rw [show (i - 1).toNat + (20 - (i - 1).toNat) = 20 by omega] at this
          exact this
        refine s_aload_0 (pc := 46) dX4_settle_46 ?_
        refine gfX4_27 (pc := 47) dX4_settle_47 rfl ?_
        refine gfX4_44 (pc := 50) dX4_settle_50 rfl ?_
        refine s_iconst_0 (pc := 53) dX4_settle_53 ?_
        refine s_aload_0 (pc := 54) dX4_settle_54 ?_
        refine gfX4_9 (pc := 55) dX4_settle_55 rfl ?_
        refine s_iconst_0 (pc := 58) dX4_settle_58 ?_
        refine s_iconst_4 (pc := 59) dX4_settle_59 ?_
        refine z_copy (pc := 60) dX4_settle_60 rfl lnX4_95 ly_19 ly_26 ip_26 (Nat.le_of_ble_eq_true rfl) (Nat.le_of_ble_eq_true rfl) (by omega) (by omega) (by omega) (by omega) (by omega) ?_
        refine s_aload_0 (pc := 63) dX4_settle_63 ?_
        refine gfX4_27 (pc := 64) dX4_settle_64 rfl ?_
        refine gfX4_47 (pc := 67) dX4_settle_67 rfl ?_
        refine s_iconst_0 (pc := 70) dX4_settle_70 ?_
        refine s_aload_0 (pc := 71) dX4_settle_71 ?_
        refine gfX4_15 (pc := 72) dX4_settle_72 rfl ?_
        refine s_iconst_0 (pc := 75) dX4_settle_75 ?_
        refine s_iconst_4 (pc := 76) dX4_settle_76 ?_
        refine z_copy (pc := 77) dX4_settle_77 rfl lnX4_95 ly_20 ly_27 ip_27 (Nat.le_of_ble_eq_true rfl) (Nat.le_of_ble_eq_true rfl) (by omega) (by omega) (by omega) (by omega) (by omega) ?_
        refine s_return (pc := 80) dX4_settle_80 rfl ?_
        refine ⟨?_, fun p p0 p1 => ⟨?_, ?_⟩, ?_⟩
        · simp (decide := true) only [wr_s, wr_n, wa_s, wa_n, if_true, eq_self, reduceIte]
          rw [h115, sRest, if_pos rfl, hrs]
          first | done | (rw [if_pos (by omega), if_pos (by omega)]; done) | (rw [if_neg (by omega), if_neg (by omega)]; done)
        · have hc := hC.2.2.2.2.2.2.2.1 p p0 (by omega)
          simp (decide := true) only [wr_s, wr_n, wa_s, wa_n, if_true, eq_self, reduceIte]
          rw [cpy, if_pos (by omega), show 0 + (p - 0) = p by omega, hrs]
          exact hc.1
        · have hc := hC.2.2.2.2.2.2.2.1 p p0 (by omega)
          simp (decide := true) only [wr_s, wr_n, wa_s, wa_n, if_true, eq_self, reduceIte]
          rw [cpy, if_pos (by omega), show 0 + (p - 0) = p by omega, hrs]
          simp (decide := true) only [wr_s, wr_n, wa_s, wa_n, if_true, eq_self, reduceIte]
          exact hc.2.1
        · exact (hF.wa (by decide)).wa (by decide)
      · have hch : (rsN κ (i - 1).toNat).2.1 ≠ 0 := fun q => by rw [if_pos q] at h25; omega
        have hsu := rsN_succ (κ := κ) (j := i - 1) (by omega) hch
        rw [show i - 1 + 1 = i + 1 - 1 by omega] at hsu
        have hi1 := hro.2
        refine s_aload_0 (pc := 28) dX4_settle_28 ?_
        refine cV0i (pc := 29) (Ky := kX4_roundChanges) dX4_settle_29 rfl lnX4_91 okX4_roundChanges ⟨4, TX4, 11, rfl, rfl⟩ ⟨Nat.le_of_ble_eq_true rfl, Nat.le_of_ble_eq_true rfl⟩ (Nat.le_of_ble_eq_true rfl) (c_X4_roundChanges hC (fun q => hoj.1.2.2 (by omega)) (by omega) (by omega)) ?_
        rintro _ ν29 ⟨rfl, hC29, hF29⟩
        refine s_if_ne (pc := 32) 40 dX4_settle_32 rfl (by omega) (fun h32 => ?_) (fun h32 => ?_)
        · refine s_iinc_1 (pc := 40) dX4_settle_40 (Nat.le_of_ble_eq_true rfl) rfl ?_
          refine s_goto (pc := 43) 14 dX4_settle_43 rfl ?_
          first
            | (refine s_le ?_ (ih (i + 1) _ (by omega) (by omega) (hF.tr (hF29.mono (by decide))) (by rw [hsu]; exact hC29) ?_ (by rw [hsu]; dsimp only; omega) (by omega))
               · exact ⟨Or.inr rfl, Or.inr rfl, trivial⟩
               · rw [hsu]; dsimp only; rw [if_neg h32, hF29.at 115 rfl 0, h115, if_neg hch]
               done)
            | (refine s_le ?_ (ih (i + 1) _ (by omega) (by omega) ((hF.tr (hF29.mono (by decide))).wr (by decide)) (by rw [hsu]; exact hC29.fr ((Fr.rf (F := [115])).wr (by decide)) (by decide)) ?_ (by rw [hsu]; dsimp only; omega) (by omega))
               · exact ⟨Or.inr rfl, Or.inr rfl, trivial⟩
               · rw [hsu, wr_s, if_pos rfl]; dsimp only; rw [if_pos (by omega)]; omega)
        · refine s_aload_0 (pc := 35) dX4_settle_35 ?_
          refine s_iload_1 (pc := 36) dX4_settle_36 ?_
          refine pfX4_88 (pc := 37) dX4_settle_37 rfl ?_
          refine s_iinc_1 (pc := 40) dX4_settle_40 (Nat.le_of_ble_eq_true rfl) rfl ?_
          refine s_goto (pc := 43) 14 dX4_settle_43 rfl ?_
          first
            | (refine s_le ?_ (ih (i + 1) _ (by omega) (by omega) (hF.tr (hF29.mono (by decide))) (by rw [hsu]; exact hC29) ?_ (by rw [hsu]; dsimp only; omega) (by omega))
               · exact ⟨Or.inr rfl, Or.inr rfl, trivial⟩
               · rw [hsu]; dsimp only; rw [if_neg h32, hF29.at 115 rfl 0, h115, if_neg hch]
               done)
            | (refine s_le ?_ (ih (i + 1) _ (by omega) (by omega) ((hF.tr (hF29.mono (by decide))).wr (by decide)) (by rw [hsu]; exact hC29.fr ((Fr.rf (F := [115])).wr (by decide)) (by decide)) ?_ (by rw [hsu]; dsimp only; omega) (by omega))
               · exact ⟨Or.inr rfl, Or.inr rfl, trivial⟩
               · rw [hsu, wr_s, if_pos rfl]; dsimp only; rw [if_pos (by omega)]; omega)
theorem c_X4_settle {tx : Int → Int} {n : Int} {hd lv : Int → Int} {μ : Mem} (hQ : RQ tx n μ) (hn : 0 ≤ n ∧ n ≤ 60) (e10 : μ 10 = hd) (e11 : μ 11 = lv) (hhd : ∀ p : Int, 0 ≤ p → p < 4 → 0 ≤ hd p ∧ hd p ≤ 15) (hlv : ∀ p : Int, 0 ≤ p → p < 4 → 0 ≤ lv p ∧ lv p ≤ 4) : Mc kX4_settle [.inr (.inr 4)] μ (pV (fun ν => ν 115 0 = sRest (cfg tx n hd lv) (-1) 0 ∧ (∀ p : Int, 0 ≤ p → p < pPe tx n → ν 26 p = (rs (cfg tx n hd lv)).1 49 p ∧ ν 27 p = (rs (cfg tx n hd lv)).1 50 p) ∧ Fr [17, 18, 19, 20, 21, 22, 23, 24, 25, 26, 27, 28, 29, 30, 105, 106, 107, 108, 109, 110, 111, 112, 113, 114, 115] μ ν)) := by
  refine Mc_of (by decide +kernel) (fun _ => Nat.le_of_ble_eq_true rfl) ?_
  show AW kX4_settle 0 [some (.inr (.inr 4)), none] [] μ _
  refine s_aload_0 (pc := 0) dX4_settle_0 ?_
  refine gfX4_27 (pc := 1) dX4_settle_1 rfl ?_
  refine cV0v (pc := 4) (Ky := kX1_gather) dX4_settle_4 rfl lnX4_35 okX1_gather ⟨1, TX1, 13, rfl, rfl⟩ ⟨Nat.le_of_ble_eq_true rfl, Nat.le_of_ble_eq_true rfl⟩ (Nat.le_of_ble_eq_true rfl) (c_X1_gather hQ hn e10 e11 hhd hlv) ?_
  rintro ν4 ⟨hC4, hF4⟩
  refine s_aload_0 (pc := 7) dX4_settle_7 ?_
  refine s_iconst_m1 (pc := 8) dX4_settle_8 ?_
  refine pfX4_88 (pc := 9) dX4_settle_9 rfl ?_
  refine s_iconst_1 (pc := 12) dX4_settle_12 ?_
  refine s_istore_1 (pc := 13) dX4_settle_13 (Nat.le_of_ble_eq_true rfl) rfl ?_
  have hC9 := hC4.fr ((Fr.rf (F := [115])).wr (by decide)) (by decide) (ν := wr ν4 115 0 (-1))
  refine AW.mono (lp_X4_settle (cfg_okW hC4.1) rfl rfl 22 1 (wr ν4 115 0 (-1)) (by omega) (by omega) Fr.rf hC9 (by rw [wr_s, if_pos rfl]; rfl) rfl (by omega)) ?_
  rintro r ν ⟨hr, h115, hrr, hF2⟩
  exact ⟨hr, h115, hrr, ((hF4.mono (by decide)).tr ((Fr.rf (F := [115])).wr (by decide) |>.mono (by decide))).tr (hF2.mono (by decide))⟩
