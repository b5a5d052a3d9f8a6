theorem lp_X8_dxc {tx wt : Int → Int} {n : Int} {κ μ : Mem} {post : Option AV → Mem → Prop} (hQ : RQ tx n μ) (hn : 0 ≤ n ∧ n ≤ 60) (hS : SQ κ μ) (e12 : μ 12 = wt) (e57 : κ 57 = wt) (hwt : ∀ k : Int, 0 ≤ k → k < 5 → 0 ≤ wt k ∧ wt k ≤ 9) (e100 : μ 100 0 = n) (e101 : μ 101 0 = pFa tx n) (e120 : μ 120 0 = κ 121 0) (h121 : -2147483648 ≤ κ 121 0 ∧ κ 121 0 < 2147483648) (hk : AW kX8_digest 31 [some (.inr (.inr 0)), some (.inr (.inl (mxs (cnV tx n κ) 17 8))), none, none] [] μ post) : ∀ (f : Nat) (i : Int), (0 ≤ i) → (i ≤ 8) → 8 - i < (f : Int) → AW kX8_digest 6 [some (.inr (.inr 0)), some (.inr (.inl (mxs (cnV tx n κ) 17 i.toNat))), none, some (.inl i)] [] μ (post) := by
  intro f
  induction f with
  | zero =>
    intro i h0 h1 hm
    exfalso; omega
  | succ f ih =>
    intro i h0 h1 hm
    have hsu := mxs_succ (f := cnV tx n κ) (h := 17) h0
    have hcn := cnV_in (tx := tx) (n := n) (q := i) (μ := κ) hn hS.1 (by rw [e57]; exact hwt) h121
    refine s_iload_3 (pc := 6) dX8_digest_6 ?_
    refine s_bipush (pc := 7) (z := 7) dX8_digest_7 rfl ?_
    refine s_icmp_gt (pc := 9) 31 dX8_digest_9 rfl (by omega) (by omega) (fun h9 => ?_) (fun h9 => ?_)
    · cases (show i = 8 by omega)
      refine s_le ?_ hk
      exact ⟨Or.inr rfl, Or.inr rfl, Or.inl rfl, Or.inl rfl, trivial⟩
    · refine s_ldc2_w (pc := 12) dX8_digest_12 rfl cnX8_308 ?_
      refine s_lload_1 (pc := 15) dX8_digest_15 ?_
      refine s_lmul (pc := 16) dX8_digest_16 ?_
      refine s_aload_0 (pc := 17) dX8_digest_17 ?_
      refine s_iload_3 (pc := 18) dX8_digest_18 ?_
      refine cV1i (pc := 19) (Ky := kX8_count) dX8_digest_19 rfl lnX8_310 okX8_count ⟨8, TX8, 11, rfl, rfl⟩ ⟨Nat.le_of_ble_eq_true rfl, Nat.le_of_ble_eq_true rfl⟩ (Nat.le_of_ble_eq_true rfl) (c_X8_count (by omega) hQ hn hS (by rw [e12, e57]) e100 e120) ?_
      rintro _ _ ⟨rfl, rfl⟩
      refine s_i2l (pc := 22) dX8_digest_22 (by omega) ?_
      refine s_ladd (pc := 23) dX8_digest_23 ?_
      refine s_lstore_1 (pc := 24) dX8_digest_24 (Nat.le_of_ble_eq_true rfl) rfl ?_
      refine s_iinc_3 (pc := 25) dX8_digest_25 (Nat.le_of_ble_eq_true rfl) rfl ?_
      refine s_goto (pc := 28) 6 dX8_digest_28 rfl ?_
      refine s_le ?_ (ih (i + 1) (by omega) (by omega) (by omega))
      rw [hsu]
      exact ⟨Or.inr rfl, Or.inr rfl, Or.inl rfl, Or.inr rfl, trivial⟩
theorem lp_X8_dxl {tx : Int → Int} {n h : Int} {μ : Mem} {post : Option AV → Mem → Prop} (hQ : RQ tx n μ) (hn : 0 ≤ n ∧ n ≤ 60) (hk : AW kX8_digest 69 [some (.inr (.inr 0)), some (.inr (.inl (mxs (lwF tx n) h 3))), none, none] [] μ post) : ∀ (f : Nat) (i : Int), (0 ≤ i) → (i ≤ 3) → 3 - i < (f : Int) → AW kX8_digest 45 [some (.inr (.inr 0)), some (.inr (.inl (mxs (lwF tx n) h i.toNat))), none, some (.inl i)] [] μ (post) := by
  intro f
  induction f with
  | zero =>
    intro i h0 h1 hm
    exfalso; omega
  | succ f ih =>
    intro i h0 h1 hm
    have hsu := mxs_succ (f := lwF tx n) (h := h) h0
    have hla := lwF_in (tx := tx) hn.1
    refine s_iload_3 (pc := 45) dX8_digest_45 ?_
    refine s_iconst_2 (pc := 46) dX8_digest_46 ?_
    refine s_icmp_gt (pc := 47) 69 dX8_digest_47 rfl (by omega) (by omega) (fun h47 => ?_) (fun h47 => ?_)
    · cases (show i = 3 by omega)
      refine s_le ?_ hk
      exact ⟨Or.inr rfl, Or.inr rfl, Or.inl rfl, Or.inl rfl, trivial⟩
    · refine s_ldc2_w (pc := 50) dX8_digest_50 rfl cnX8_308 ?_
      refine s_lload_1 (pc := 53) dX8_digest_53 ?_
      refine s_lmul (pc := 54) dX8_digest_54 ?_
      refine s_aload_0 (pc := 55) dX8_digest_55 ?_
      refine s_iload_3 (pc := 56) dX8_digest_56 ?_
      refine cV1i (pc := 57) (Ky := kX8_law) dX8_digest_57 rfl lnX8_316 okX8_law ⟨8, TX8, 11, rfl, rfl⟩ ⟨Nat.le_of_ble_eq_true rfl, Nat.le_of_ble_eq_true rfl⟩ (Nat.le_of_ble_eq_true rfl) (c_X8_law (by omega) hQ hn) ?_
      rintro _ _ ⟨rfl, rfl⟩
      rw [if_pos (by omega)]
      have hlr : 0 ≤ lwF tx n i ∧ lwF tx n i ≤ 3 := by
        rcases (show i = 0 ∨ i = 1 ∨ i = 2 by omega) with rfl | rfl | rfl <;> omega
      refine s_i2l (pc := 60) dX8_digest_60 (by omega) ?_
      refine s_ladd (pc := 61) dX8_digest_61 ?_
      refine s_lstore_1 (pc := 62) dX8_digest_62 (Nat.le_of_ble_eq_true rfl) rfl ?_
      refine s_iinc_3 (pc := 63) dX8_digest_63 (Nat.le_of_ble_eq_true rfl) rfl ?_
      refine s_goto (pc := 66) 45 dX8_digest_66 rfl ?_
      refine s_le ?_ (ih (i + 1) (by omega) (by omega) (by omega))
      rw [hsu]
      exact ⟨Or.inr rfl, Or.inr rfl, Or.inl rfl, Or.inr rfl, trivial⟩
theorem lp_X8_dxp {tx : Int → Int} {n h : Int} {hd lv wt ga gb : Int → Int} {κ μ : Mem} {post : Option AV → Mem → Prop} (hn : 0 ≤ n ∧ n ≤ 60) (hhd : ∀ p : Int, 0 ≤ p → p < 4 → 0 ≤ hd p ∧ hd p ≤ 15) (hlv : ∀ p : Int, 0 ≤ p → p < 4 → 0 ≤ lv p ∧ lv p ≤ 4) (hwt : ∀ k : Int, 0 ≤ k → k < 5 → 0 ≤ wt k ∧ wt k ≤ 9) (hab : ∀ p : Int, 0 ≤ p → p < pPe tx n → ga p = (rs (cfg tx n hd lv)).1 49 p ∧ gb p = (rs (cfg tx n hd lv)).1 50 p) (hk : ∀ ν, (Fr [17, 18, 19, 20, 21, 22, 23, 24, 25, 28, 29, 30, 105, 106, 107, 108, 109, 110, 111, 112, 113, 114, 116, 117, 118] μ ν) → (RQ tx n ν) → (ν 10 = hd) → (ν 11 = lv) → (ν 12 = wt) → (SQ κ ν) → (ν 26 = ga) → (ν 27 = gb) → (ν 115 0 = sRest (cfg tx n hd lv) (-1) 0) → AW kX8_digest 116 [some (.inr (.inr 0)), some (.inr (.inl (dgPs (cfg tx n hd lv) wt κ h (pPe tx n).toNat))), none, none] [] ν post) : ∀ (f : Nat) (p : Int) (ν : Mem), (0 ≤ p) → (p ≤ pPe tx n) → (Fr [17, 18, 19, 20, 21, 22, 23, 24, 25, 28, 29, 30, 105, 106, 107, 108, 109, 110, 111, 112, 113, 114, 116, 117, 118] μ ν) → (RQ tx n ν) → (ν 10 = hd) → (ν 11 = lv) → (ν 12 = wt) → (SQ κ ν) → (ν 26 = ga) → (ν 27 = gb) → (ν 115 0 = sRest (cfg tx n hd lv) (-1) 0) → pPe tx n - p < (f : Int) → AW kX8_digest 78 [some (.inr (.inr 0)), some (.inr (.inl (dgPs (cfg tx n hd lv) wt κ h p.toNat))), none, some (.inl p)] [] ν (post) := by
  intro f
  induction f with
  | zero =>
    intro p ν h0 h1 hG hQ e10 e11 e12 hS h26 h27 h115 hm
    exfalso; omega
  | succ f ih =>
    intro p ν h0 h1 hG hQ e10 e11 e12 hS h26 h27 h115 hm
    have hpe := pPe_in (tx := tx) hn.1
    have hsu := dgPs_succ (κ := (cfg tx n hd lv)) (wt := wt) (μ := κ) (h := h) h0
    rw [dgP_eq] at hsu
    have c102 : ν 102 0 = pPe tx n := hQ.1
    refine s_iload_3 (pc := 78) dX8_digest_78 ?_
    refine s_aload_0 (pc := 79) dX8_digest_79 ?_
    refine gfX8_12 (pc := 80) dX8_digest_80 rfl ?_
    refine gfX8_182 (pc := 83) dX8_digest_83 rfl ?_
    try rw [c102]
    refine s_icmp_ge (pc := 86) 116 dX8_digest_86 rfl (by omega) (by omega) (fun h86 => ?_) (fun h86 => ?_)
    · cases (show p = pPe tx n by omega)
      refine s_le ?_ (hk ν hG hQ e10 e11 e12 hS h26 h27 h115)
      exact ⟨Or.inr rfl, Or.inr rfl, Or.inl rfl, Or.inl rfl, trivial⟩
    · refine s_aload_0 (pc := 89) dX8_digest_89 ?_
      refine s_iload_3 (pc := 90) dX8_digest_90 ?_
      refine s_lload_1 (pc := 91) dX8_digest_91 ?_
      have hab1 := hab p h0 (by omega)
      refine cV2l (pc := 92) (Ky := kX8_digestOfWhoOwes) dX8_digest_92 rfl lnX8_318 okX8_digestOfWhoOwes ⟨8, TX8, 11, rfl, rfl⟩ ⟨Nat.le_of_ble_eq_true rfl, Nat.le_of_ble_eq_true rfl⟩ (Nat.le_of_ble_eq_true rfl) (c_X8_digestOfWhoOwes (by omega) hQ hn e10 e11 hhd hlv) ?_
      rintro _ ν92 ⟨rfl, hF92⟩
      have hQ := hQ.fr hF92 (by decide)
      have e10 := (hF92.fn 10 rfl).trans e10
      have e11 := (hF92.fn 11 rfl).trans e11
      have e12 := (hF92.fn 12 rfl).trans e12
      have hS := hS.fr hF92 (by decide)
      have h26 := (hF92.fn 26 rfl).trans h26
      have h27 := (hF92.fn 27 rfl).trans h27
      have h115 := (hF92.at 115 rfl 0).trans h115
      have hG := hG.tr hF92
      refine s_lstore_1 (pc := 95) dX8_digest_95 (Nat.le_of_ble_eq_true rfl) rfl ?_
      refine s_aload_0 (pc := 96) dX8_digest_96 ?_
      refine s_iload_3 (pc := 97) dX8_digest_97 ?_
      refine s_lload_1 (pc := 98) dX8_digest_98 ?_
      refine cV2l (pc := 99) (Ky := kX8_digestOfSearches) dX8_digest_99 rfl lnX8_322 okX8_digestOfSearches ⟨8, TX8, 11, rfl, rfl⟩ ⟨Nat.le_of_ble_eq_true rfl, Nat.le_of_ble_eq_true rfl⟩ (Nat.le_of_ble_eq_true rfl) (c_X8_digestOfSearches (by omega) (by rw [h26]; exact hab1.1) (by rw [h27]; exact hab1.2) hQ hn e10 e11 hhd hlv) ?_
      rintro _ ν99 ⟨rfl, hF99⟩
      have hQ := hQ.fr hF99 (by decide)
      have e10 := (hF99.fn 10 rfl).trans e10
      have e11 := (hF99.fn 11 rfl).trans e11
      have e12 := (hF99.fn 12 rfl).trans e12
      have hS := hS.fr hF99 (by decide)
      have h26 := (hF99.fn 26 rfl).trans h26
      have h27 := (hF99.fn 27 rfl).trans h27
      have h115 := (hF99.at 115 rfl 0).trans h115
      have hG := hG.tr hF99
      refine s_lstore_1 (pc := 102) dX8_digest_102 (Nat.le_of_ble_eq_true rfl) rfl ?_
      refine s_aload_0 (pc := 103) dX8_digest_103 ?_
      refine s_iload_3 (pc := 104) dX8_digest_104 ?_
      refine s_lload_1 (pc := 105) dX8_digest_105 ?_
      refine cV2l (pc := 106) (Ky := kX8_digestOfStrokes) dX8_digest_106 rfl lnX8_325 okX8_digestOfStrokes ⟨8, TX8, 11, rfl, rfl⟩ ⟨Nat.le_of_ble_eq_true rfl, Nat.le_of_ble_eq_true rfl⟩ (Nat.le_of_ble_eq_true rfl) (c_X8_digestOfStrokes (by omega) hS e12 hwt hQ hn e10 e11 hhd hlv) ?_
      rintro _ ν106 ⟨rfl, hF106⟩
      have hQ := hQ.fr hF106 (by decide)
      have e10 := (hF106.fn 10 rfl).trans e10
      have e11 := (hF106.fn 11 rfl).trans e11
      have e12 := (hF106.fn 12 rfl).trans e12
      have hS := hS.fr hF106 (by decide)
      have h26 := (hF106.fn 26 rfl).trans h26
      have h27 := (hF106.fn 27 rfl).trans h27
      have h115 := (hF106.at 115 rfl 0).trans h115
      have hG := hG.tr hF106
      refine s_lstore_1 (pc := 109) dX8_digest_109 (Nat.le_of_ble_eq_true rfl) rfl ?_
      refine s_iinc_3 (pc := 110) dX8_digest_110 (Nat.le_of_ble_eq_true rfl) rfl ?_
      refine s_goto (pc := 113) 78 dX8_digest_113 rfl ?_
      refine s_le ?_ (ih (p + 1) _ (by omega) (by omega) hG hQ e10 e11 e12 hS h26 h27 h115 (by omega))
      rw [hsu]
      exact ⟨Or.inr rfl, Or.inr rfl, Or.inl rfl, Or.inr rfl, trivial⟩
theorem c_X8_digest {tx : Int → Int} {n : Int} {hd lv wt : Int → Int} {κ μ : Mem} (hS : SQ κ μ) (e12 : μ 12 = wt) (e57 : κ 57 = wt) (hwt : ∀ k : Int, 0 ≤ k → k < 5 → 0 ≤ wt k ∧ wt k ≤ 9) (e100 : μ 100 0 = n) (e101 : μ 101 0 = pFa tx n) (e120 : μ 120 0 = κ 121 0) (h121 : -2147483648 ≤ κ 121 0 ∧ κ 121 0 < 2147483648) (hQ : RQ tx n μ) (hn : 0 ≤ n ∧ n ≤ 60) (e10 : μ 10 = hd) (e11 : μ 11 = lv) (hhd : ∀ p : Int, 0 ≤ p → p < 4 → 0 ≤ hd p ∧ hd p ≤ 15) (hlv : ∀ p : Int, 0 ≤ p → p < 4 → 0 ≤ lv p ∧ lv p ≤ 4) : Mc kX8_digest [.inr (.inr 0)] μ (pL (fun z ν => dgst (cfg tx n hd lv) wt κ (mxs (lwF tx n) (mx (mxs (cnV tx n κ) 17 8) (pFa tx n)) 3) = z ∧ Fr [17, 18, 19, 20, 21, 22, 23, 24, 25, 26, 27, 28, 29, 30, 105, 106, 107, 108, 109, 110, 111, 112, 113, 114, 115, 116, 117, 118] μ ν)) := by
  refine Mc_of (by decide +kernel) (fun _ => Nat.le_of_ble_eq_true rfl) ?_
  show AW kX8_digest 0 [some (.inr (.inr 0)), none, none, none] [] μ _
  obtain ⟨q1, q2, q3, q4, q5⟩ := id hQ
  have hpe := pPe_in (tx := tx) hn.1
  have hta := pTa_in (tx := tx) hn.1
  refine s_ldc2_w (pc := 0) dX8_digest_0 rfl cnX8_306 ?_
  refine s_lstore_1 (pc := 3) dX8_digest_3 (Nat.le_of_ble_eq_true rfl) rfl ?_
  refine s_iconst_0 (pc := 4) dX8_digest_4 ?_
  refine s_istore_3 (pc := 5) dX8_digest_5 (Nat.le_of_ble_eq_true rfl) rfl ?_
  refine s_le ?_ (lp_X8_dxc hQ hn hS e12 e57 hwt e100 e101 e120 h121 ?_ 9 0 (by omega) (by omega) (by omega))
  · exact ⟨Or.inr rfl, Or.inr rfl, Or.inl rfl, Or.inr rfl, trivial⟩
  refine s_ldc2_w (pc := 31) dX8_digest_31 rfl cnX8_308 ?_
  refine s_lload_1 (pc := 34) dX8_digest_34 ?_
  refine s_lmul (pc := 35) dX8_digest_35 ?_
  refine s_aload_0 (pc := 36) dX8_digest_36 ?_
  refine cV0i (pc := 37) (Ky := kX8_fault) dX8_digest_37 rfl lnX8_313 okX8_fault ⟨8, TX8, 11, rfl, rfl⟩ ⟨Nat.le_of_ble_eq_true rfl, Nat.le_of_ble_eq_true rfl⟩ (Nat.le_of_ble_eq_true rfl) (c_X8_fault e101) ?_
  rintro _ _ ⟨rfl, rfl⟩
  have hfa := pFa_in (tx := tx) (n := n) hn.1
  refine s_i2l (pc := 40) dX8_digest_40 (by omega) ?_
  refine s_ladd (pc := 41) dX8_digest_41 ?_
  refine s_lstore_1 (pc := 42) dX8_digest_42 (Nat.le_of_ble_eq_true rfl) rfl ?_
  refine s_iconst_0 (pc := 43) dX8_digest_43 ?_
  refine s_istore_3 (pc := 44) dX8_digest_44 (Nat.le_of_ble_eq_true rfl) rfl ?_
  refine s_le ?_ (lp_X8_dxl (h := mx (mxs (cnV tx n κ) 17 8) (pFa tx n)) hQ hn ?_ 4 0 (by omega) (by omega) (by omega))
  · exact ⟨Or.inr rfl, Or.inr rfl, Or.inl rfl, Or.inr rfl, trivial⟩
  refine s_aload_0 (pc := 69) dX8_digest_69 ?_
  refine gfX8_49 (pc := 70) dX8_digest_70 rfl ?_
  refine cV0v (pc := 73) (Ky := kX4_settle) dX8_digest_73 rfl lnX8_166 okX4_settle ⟨4, TX4, 11, rfl, rfl⟩ ⟨Nat.le_of_ble_eq_true rfl, Nat.le_of_ble_eq_true rfl⟩ (Nat.le_of_ble_eq_true rfl) (c_X4_settle hQ hn e10 e11 hhd hlv) ?_
  rintro ν73 ⟨h11573, hr73, hF73⟩
  have hQ := hQ.fr hF73 (by decide)
  have e10 := (hF73.fn 10 rfl).trans e10
  have e11 := (hF73.fn 11 rfl).trans e11
  have e12 := (hF73.fn 12 rfl).trans e12
  have hS := hS.fr hF73 (by decide)
  refine s_iconst_0 (pc := 76) dX8_digest_76 ?_
  refine s_istore_3 (pc := 77) dX8_digest_77 (Nat.le_of_ble_eq_true rfl) rfl ?_
  refine s_le ?_ (lp_X8_dxp (h := (mxs (lwF tx n) (mx (mxs (cnV tx n κ) 17 8) (pFa tx n)) 3)) (wt := wt) (κ := κ) (μ := ν73) (ga := ν73 26) (gb := ν73 27) hn hhd hlv hwt hr73 ?_ 5 0 ν73 (by omega) (by omega) Fr.rf hQ e10 e11 e12 hS rfl rfl h11573 (by omega))
  · exact ⟨Or.inr rfl, Or.inr rfl, Or.inl rfl, Or.inr rfl, trivial⟩
  intro ν116 hG hQ e10 e11 e12 hS h26 h27 h115
  have hrc := rsN_ct (κ := (cfg tx n hd lv)) 20
  have hrr : -1 ≤ sRest (cfg tx n hd lv) (-1) 0 ∧ sRest (cfg tx n hd lv) (-1) 0 ≤ 20 := by
    rw [sRest, if_pos rfl]
    unfold rs
    split <;> omega
  refine s_ldc2_w (pc := 116) dX8_digest_116 rfl cnX8_308 ?_
  refine s_lload_1 (pc := 119) dX8_digest_119 ?_
  refine s_lmul (pc := 120) dX8_digest_120 ?_
  refine s_aload_0 (pc := 121) dX8_digest_121 ?_
  refine s_iconst_m1 (pc := 122) dX8_digest_122 ?_
  refine s_iconst_0 (pc := 123) dX8_digest_123 ?_
  refine cV2i (pc := 124) (Ky := kX8_restTold) dX8_digest_124 rfl lnX8_169 okX8_restTold ⟨8, TX8, 11, rfl, rfl⟩ ⟨Nat.le_of_ble_eq_true rfl, Nat.le_of_ble_eq_true rfl⟩ (Nat.le_of_ble_eq_true rfl) (c_X8_restTold (by omega) (by omega)) ?_
  rintro _ _ ⟨rfl, rfl⟩
  rw [if_pos rfl, h115]
  refine s_i2l (pc := 127) dX8_digest_127 (by omega) ?_
  refine s_ladd (pc := 128) dX8_digest_128 ?_
  refine s_lstore_1 (pc := 129) dX8_digest_129 (Nat.le_of_ble_eq_true rfl) rfl ?_
  refine s_ldc2_w (pc := 130) dX8_digest_130 rfl cnX8_308 ?_
  refine s_lload_1 (pc := 133) dX8_digest_133 ?_
  refine s_lmul (pc := 134) dX8_digest_134 ?_
  refine s_aload_0 (pc := 135) dX8_digest_135 ?_
  refine s_iconst_0 (pc := 136) dX8_digest_136 ?_
  refine cV1l (pc := 137) (Ky := kX8_two) dX8_digest_137 rfl lnX8_328 okX8_two ⟨8, TX8, 11, rfl, rfl⟩ ⟨Nat.le_of_ble_eq_true rfl, Nat.le_of_ble_eq_true rfl⟩ (Nat.le_of_ble_eq_true rfl) (c_X8_two (by omega) hQ hn e10 e11 hhd hlv) ?_
  rintro _ ν137 ⟨rfl, hF137⟩
  rw [if_pos (by decide)]
  have hQ := hQ.fr hF137 (by decide)
  have e10 := (hF137.fn 10 rfl).trans e10
  have e11 := (hF137.fn 11 rfl).trans e11
  refine s_ladd (pc := 140) dX8_digest_140 ?_
  refine s_lstore_1 (pc := 141) dX8_digest_141 (Nat.le_of_ble_eq_true rfl) rfl ?_
  refine s_ldc2_w (pc := 142) dX8_digest_142 rfl cnX8_308 ?_
  refine s_lload_1 (pc := 145) dX8_digest_145 ?_
  refine s_lmul (pc := 146) dX8_digest_146 ?_
  refine s_aload_0 (pc := 147) dX8_digest_147 ?_
  refine s_iconst_1 (pc := 148) dX8_digest_148 ?_
  refine cV1l (pc := 149) (Ky := kX8_two) dX8_digest_149 rfl lnX8_328 okX8_two ⟨8, TX8, 11, rfl, rfl⟩ ⟨Nat.le_of_ble_eq_true rfl, Nat.le_of_ble_eq_true rfl⟩ (Nat.le_of_ble_eq_true rfl) (c_X8_two (by omega) hQ hn e10 e11 hhd hlv) ?_
  rintro _ ν149 ⟨rfl, hF149⟩
  rw [if_pos (by decide)]
  refine s_ladd (pc := 152) dX8_digest_152 ?_
  refine s_lreturn (pc := 153) dX8_digest_153 rfl ?_
  exact ⟨rfl, (((hF73.mono (by decide)).tr (hG.mono (by decide))).tr (hF137.mono (by decide))).tr (hF149.mono (by decide))⟩
