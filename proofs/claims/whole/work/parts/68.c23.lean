/-! ===== the class's digest ===== -/
theorem RQ.fr {tx : Int → Int} {n : Int} {μ ν : Mem} {F : List Nat} (hQ : RQ tx n μ) (hF : Fr F μ ν) (h : F.all (fun c => decide (c ∉ [14, 15, 16, 102, 103])) = true) : RQ tx n ν := by
  have hc : ∀ c : Nat, c ∈ [14, 15, 16, 102, 103] → ν c = μ c := fun c h1 => by
    refine hF c (fun q => ?_)
    have := List.all_eq_true.mp h c q
    simp only [decide_eq_true_eq] at this
    exact this h1
  unfold RQ
  rw [hc 14 (by decide), hc 15 (by decide), hc 16 (by decide), hc 102 (by decide), hc 103 (by decide)]
  exact hQ
def dgA (κ : Mem) (p h : Int) : Int := mx (mx (mx (mx (mx (mx (mxs (kq κ p) h (κ 125 0).toNat) (frc (ow κ (κ 125 0).toNat p) (3072 ^ (κ 125 0).toNat) 0)) (frc (ow κ (κ 125 0).toNat p) (3072 ^ (κ 125 0).toNat) 1)) (frc (am κ p) (6144 ^ (κ 125 0).toNat) 0)) (frc (am κ p) (6144 ^ (κ 125 0).toNat) 1)) (frc (cst κ p) (6144 ^ (κ 125 0).toNat) 0)) (frc (cst κ p) (6144 ^ (κ 125 0).toNat) 1)
def dgW (κ : Mem) (p h : Int) : Int := mx (mx (mx (mx h (best κ p).2.1) (best κ p).2.2) ((rs κ).1 49 p)) ((rs κ).1 50 p)
def dgB (κ : Mem) (p h : Int) : Int := mx (mx (mx (mxs (dg (κ 125 0) (ord κ p).2) (dgW κ p h) (κ 125 0).toNat) (if κ 129 0 = 1 then -3 else (amg κ p (2 ^ (κ 129 0).toNat)).2)) (lwf κ p 9).2) (if κ 125 0 = 0 then -3 else edg κ p 10)
def dgC (κ : Mem) (wt : Int → Int) (μ : Mem) (p h : Int) : Int := mx (mx (mx (mx h (erl wt κ p 0)) (erl wt κ p 1)) (evsN κ p 7 9).1) (gss μ p)
theorem dgP_eq {κ : Mem} {wt : Int → Int} {μ : Mem} {p h : Int} : dgP κ wt μ p h = dgC κ wt μ p (dgB κ p (dgA κ p h)) := rfl
theorem lp_X8_dgA {κ : Mem} {p h : Int} {μ : Mem} {post : Option AV → Mem → Prop} (hC : CR κ μ) (hp : 0 ≤ p ∧ p < κ 129 0) (c103 : μ 103 0 = κ 125 0) (hk : AW kX8_digestOfWhoOwes 51 [some (.inr (.inr 0)), some (.inl p), some (.inr (.inl h)), none, some (.inr (.inl (mxs (kq κ p) h (κ 125 0).toNat))), none, none] [] μ post) : ∀ (f : Nat) (i : Int), (0 ≤ i) → (i ≤ κ 125 0) → κ 125 0 - i < (f : Int) → AW kX8_digestOfWhoOwes 13 [some (.inr (.inr 0)), some (.inl p), some (.inr (.inl h)), none, some (.inr (.inl (mxs (kq κ p) h i.toNat))), none, some (.inl i)] [] μ (post) := by
  intro f
  induction f with
  | zero =>
    intro i h0 h1 hm
    exfalso; omega
  | succ f ih =>
    intro i h0 h1 hm
    have r129 := hC.1.1
    have r125 := hC.1.2.1
    have hsu := mxs_succ (f := kq κ p) (h := h) h0
    refine s_iload_6 (pc := 13) dX8_digestOfWhoOwes_13 ?_
    refine s_aload_0 (pc := 15) dX8_digestOfWhoOwes_15 ?_
    refine gfX8_12 (pc := 16) dX8_digestOfWhoOwes_16 rfl ?_
    refine gfX8_121 (pc := 19) dX8_digestOfWhoOwes_19 rfl ?_
    try rw [c103]
    refine s_icmp_ge (pc := 22) 51 dX8_digestOfWhoOwes_22 rfl (by omega) (by omega) (fun h22 => ?_) (fun h22 => ?_)
    · cases (show i = κ 125 0 by omega)
      refine s_le ?_ hk
      exact ⟨Or.inr rfl, Or.inr rfl, Or.inr rfl, Or.inl rfl, Or.inr rfl, Or.inl rfl, Or.inl rfl, trivial⟩
    · refine s_ldc2_w (pc := 25) dX8_digestOfWhoOwes_25 rfl cnX8_308 ?_
      refine s_lload_4 (pc := 28) dX8_digestOfWhoOwes_28 ?_
      refine s_lmul (pc := 30) dX8_digestOfWhoOwes_30 ?_
      refine s_aload_0 (pc := 31) dX8_digestOfWhoOwes_31 ?_
      refine gfX8_31 (pc := 32) dX8_digestOfWhoOwes_32 rfl ?_
      refine s_iload_1 (pc := 35) dX8_digestOfWhoOwes_35 ?_
      refine s_iload_6 (pc := 36) dX8_digestOfWhoOwes_36 ?_
      refine cV2i (pc := 38) (Ky := kX1_quartersAt) dX8_digestOfWhoOwes_38 rfl lnX8_117 okX1_quartersAt ⟨1, TX1, 13, rfl, rfl⟩ ⟨Nat.le_of_ble_eq_true rfl, Nat.le_of_ble_eq_true rfl⟩ (Nat.le_of_ble_eq_true rfl) (c_X1_quartersAt hC hp (by omega)) ?_
      rintro _ _ ⟨rfl, rfl⟩
      have hq := kq_in hC.1 (p := p) (i := i) (by omega) (by omega)
      refine s_i2l (pc := 41) dX8_digestOfWhoOwes_41 (by omega) ?_
      refine s_ladd (pc := 42) dX8_digestOfWhoOwes_42 ?_
      refine s_lstore_4 (pc := 43) dX8_digestOfWhoOwes_43 (Nat.le_of_ble_eq_true rfl) rfl ?_
      refine s_iinc_6 (pc := 45) dX8_digestOfWhoOwes_45 (Nat.le_of_ble_eq_true rfl) rfl ?_
      refine s_goto (pc := 48) 13 dX8_digestOfWhoOwes_48 rfl ?_
      refine s_le ?_ (ih (i + 1) (by omega) (by omega) (by omega))
      rw [hsu]
      exact ⟨Or.inr rfl, Or.inr rfl, Or.inr rfl, Or.inl rfl, Or.inr rfl, Or.inl rfl, Or.inr rfl, trivial⟩
theorem c_X8_digestOfWhoOwes {tx : Int → Int} {n p h : Int} {hd lv : Int → Int} {μ : Mem} (hp : 0 ≤ p ∧ p < pPe tx n) (hQ : RQ tx n μ) (hn : 0 ≤ n ∧ n ≤ 60) (e10 : μ 10 = hd) (e11 : μ 11 = lv) (hhd : ∀ p : Int, 0 ≤ p → p < 4 → 0 ≤ hd p ∧ hd p ≤ 15) (hlv : ∀ p : Int, 0 ≤ p → p < 4 → 0 ≤ lv p ∧ lv p ≤ 4) : Mc kX8_digestOfWhoOwes [.inr (.inr 0), .inl p, .inr (.inl h)] μ (pL (fun z ν => dgA (cfg tx n hd lv) p h = z ∧ Fr [17, 18, 19, 20, 21, 22, 23, 24, 25, 28, 29, 30, 105, 106, 107, 108, 109, 110, 111, 112, 113, 114, 116, 117, 118] μ ν)) := by
  refine Mc_of (by decide +kernel) (fun _ => Nat.le_of_ble_eq_true rfl) ?_
  show AW kX8_digestOfWhoOwes 0 [some (.inr (.inr 0)), some (.inl p), some (.inr (.inl h)), none, none, none, none] [] μ _
  obtain ⟨q1, q2, q3, q4, q5⟩ := id hQ
  have hpe := pPe_in (tx := tx) hn.1
  have hta := pTa_in (tx := tx) hn.1
  refine s_lload_2 (pc := 0) dX8_digestOfWhoOwes_0 ?_
  refine s_lstore_4 (pc := 1) dX8_digestOfWhoOwes_1 (Nat.le_of_ble_eq_true rfl) rfl ?_
  refine s_aload_0 (pc := 3) dX8_digestOfWhoOwes_3 ?_
  refine gfX8_31 (pc := 4) dX8_digestOfWhoOwes_4 rfl ?_
  refine cV0v (pc := 7) (Ky := kX1_gather) dX8_digestOfWhoOwes_7 rfl lnX8_114 okX1_gather ⟨1, TX1, 13, rfl, rfl⟩ ⟨Nat.le_of_ble_eq_true rfl, Nat.le_of_ble_eq_true rfl⟩ (Nat.le_of_ble_eq_true rfl) (c_X1_gather hQ hn e10 e11 hhd hlv) ?_
  rintro ν7 ⟨hC7, hF7⟩
  have hko := cfg_KO hC7.1 (by omega)
  have hpl := p6144 hko.1
  have hci := cst_in hko (p := p) (by omega) (show p < pPe tx n by omega) (show p < pPe tx n by omega)
  have c103 : ν7 103 0 = (cfg tx n hd lv) 125 0 := (hF7.at 103 rfl 0).trans q2
  refine s_iconst_0 (pc := 10) dX8_digestOfWhoOwes_10 ?_
  refine s_istore_6 (pc := 11) dX8_digestOfWhoOwes_11 (Nat.le_of_ble_eq_true rfl) rfl ?_
  refine s_le ?_ (lp_X8_dgA (κ := (cfg tx n hd lv)) (h := h) hC7 hp c103 ?_ 5 0 (by omega) hta.1 (show pTa tx n - 0 < 5 by omega))
  · exact ⟨Or.inr rfl, Or.inr rfl, Or.inr rfl, Or.inl rfl, Or.inr rfl, Or.inl rfl, Or.inr rfl, trivial⟩
  refine s_aload_0 (pc := 51) dX8_digestOfWhoOwes_51 ?_
  refine gfX8_40 (pc := 52) dX8_digestOfWhoOwes_52 rfl ?_
  refine cV0v (pc := 55) (Ky := kX0_play) dX8_digestOfWhoOwes_55 rfl lnX8_131 okX0_play ⟨0, TX0, 7, rfl, rfl⟩ ⟨Nat.le_of_ble_eq_true rfl, Nat.le_of_ble_eq_true rfl⟩ (Nat.le_of_ble_eq_true rfl) (c_X0_play hC7 hko) ?_
  rintro ν55 ⟨hP55, hF55⟩
  have hC55 := hC7.fr hF55 (by decide)
  have c103b : ν55 103 0 = (cfg tx n hd lv) 125 0 := (hF55.at 103 rfl 0).trans c103
  refine s_aload_0 (pc := 58) dX8_digestOfWhoOwes_58 ?_
  refine s_iload_1 (pc := 59) dX8_digestOfWhoOwes_59 ?_
  refine s_aload_0 (pc := 60) dX8_digestOfWhoOwes_60 ?_
  refine gfX8_12 (pc := 61) dX8_digestOfWhoOwes_61 rfl ?_
  refine gfX8_121 (pc := 64) dX8_digestOfWhoOwes_64 rfl ?_
  try rw [c103b]
  refine cV2r (pc := 67) (Ky := kX8_shareOwed) dX8_digestOfWhoOwes_67 rfl lnX8_134 okX8_shareOwed ⟨8, TX8, 11, rfl, rfl⟩ ⟨Nat.le_of_ble_eq_true rfl, Nat.le_of_ble_eq_true rfl⟩ (Nat.le_of_ble_eq_true rfl) (c_X8_shareOwed hC55 hko hp (by show 0 ≤ pTa tx n ∧ pTa tx n ≤ pTa tx n; omega) hP55) ?_
  rintro _ ν67 ⟨rfl, hm67⟩
  have hF67 : Fr [117, 118] ν55 ν67 := by rw [← hm67]; exact (Fr.rf.wr (by decide)).wr (by decide)
  have u67 : ν67 117 0 = frc (ow (cfg tx n hd lv) ((cfg tx n hd lv) 125 0).toNat p) (3072 ^ ((cfg tx n hd lv) 125 0).toNat) 0 := by rw [← hm67]; simp (decide := true) only [wr_s, wr_n, wa_s, wa_n, mg_i, mg_o, if_true, eq_self, reduceIte]
  have w67 : ν67 118 0 = frc (ow (cfg tx n hd lv) ((cfg tx n hd lv) 125 0).toNat p) (3072 ^ ((cfg tx n hd lv) 125 0).toNat) 1 := by rw [← hm67]; simp (decide := true) only [wr_s, wr_n, wa_s, wa_n, mg_i, mg_o, if_true, eq_self, reduceIte]
  have hC67 := hC55.fr hF67 (by decide)
  have hP67 := hP55.fr hF67 (by decide)
  refine s_lload_4 (pc := 70) dX8_digestOfWhoOwes_70 ?_
  refine cV1l (pc := 72) (Ky := kX6_mixedInto) dX8_digestOfWhoOwes_72 rfl lnX8_331 okX6_mixedInto ⟨6, TX6, 2, rfl, rfl⟩ ⟨Nat.le_of_ble_eq_true rfl, Nat.le_of_ble_eq_true rfl⟩ (Nat.le_of_ble_eq_true rfl) (c_X6_mixedInto u67 w67) ?_
  rintro _ _ ⟨rfl, rfl⟩
  refine s_lstore_4 (pc := 75) dX8_digestOfWhoOwes_75 (Nat.le_of_ble_eq_true rfl) rfl ?_
  refine s_aload_0 (pc := 77) dX8_digestOfWhoOwes_77 ?_
  refine s_iload_1 (pc := 78) dX8_digestOfWhoOwes_78 ?_
  refine cV1r (pc := 79) (Ky := kX8_shareOfDebt) dX8_digestOfWhoOwes_79 rfl lnX8_141 okX8_shareOfDebt ⟨8, TX8, 11, rfl, rfl⟩ ⟨Nat.le_of_ble_eq_true rfl, Nat.le_of_ble_eq_true rfl⟩ (Nat.le_of_ble_eq_true rfl) (c_X8_shareOfDebt hC67 hko hp hP67) ?_
  rintro _ ν79 ⟨rfl, hm79⟩
  have hF79 : Fr [117, 118] ν67 ν79 := by rw [← hm79]; exact (Fr.rf.wr (by decide)).wr (by decide)
  have u79 : ν79 117 0 = frc (am (cfg tx n hd lv) p) (6144 ^ ((cfg tx n hd lv) 125 0).toNat) 0 := by rw [← hm79]; simp (decide := true) only [wr_s, wr_n, wa_s, wa_n, mg_i, mg_o, if_true, eq_self, reduceIte]
  have w79 : ν79 118 0 = frc (am (cfg tx n hd lv) p) (6144 ^ ((cfg tx n hd lv) 125 0).toNat) 1 := by rw [← hm79]; simp (decide := true) only [wr_s, wr_n, wa_s, wa_n, mg_i, mg_o, if_true, eq_self, reduceIte]
  have hC79 := hC67.fr hF79 (by decide)
  have hP79 := hP67.fr hF79 (by decide)
  refine s_lload_4 (pc := 82) dX8_digestOfWhoOwes_82 ?_
  refine cV1l (pc := 84) (Ky := kX6_mixedInto) dX8_digestOfWhoOwes_84 rfl lnX8_331 okX6_mixedInto ⟨6, TX6, 2, rfl, rfl⟩ ⟨Nat.le_of_ble_eq_true rfl, Nat.le_of_ble_eq_true rfl⟩ (Nat.le_of_ble_eq_true rfl) (c_X6_mixedInto u79 w79) ?_
  rintro _ _ ⟨rfl, rfl⟩
  refine s_lstore_4 (pc := 87) dX8_digestOfWhoOwes_87 (Nat.le_of_ble_eq_true rfl) rfl ?_
  refine s_aload_0 (pc := 89) dX8_digestOfWhoOwes_89 ?_
  refine s_aload_0 (pc := 90) dX8_digestOfWhoOwes_90 ?_
  refine gfX8_40 (pc := 91) dX8_digestOfWhoOwes_91 rfl ?_
  refine s_iload_1 (pc := 94) dX8_digestOfWhoOwes_94 ?_
  refine cV1l (pc := 95) (Ky := kX0_costOf) dX8_digestOfWhoOwes_95 rfl lnX8_145 okX0_costOf ⟨0, TX0, 7, rfl, rfl⟩ ⟨Nat.le_of_ble_eq_true rfl, Nat.le_of_ble_eq_true rfl⟩ (Nat.le_of_ble_eq_true rfl) (c_X0_costOf hC79 hp hp.2 rfl hP79) ?_
  rintro _ _ ⟨rfl, rfl⟩
  refine cV1r (pc := 98) (Ky := kX8_shareOfCost) dX8_digestOfWhoOwes_98 rfl lnX8_148 okX8_shareOfCost ⟨8, TX8, 11, rfl, rfl⟩ ⟨Nat.le_of_ble_eq_true rfl, Nat.le_of_ble_eq_true rfl⟩ (Nat.le_of_ble_eq_true rfl) (c_X8_shareOfCost hC79 (by omega)) ?_
  rintro _ ν98 ⟨rfl, hm98⟩
  have hF98 : Fr [117, 118] ν79 ν98 := by rw [← hm98]; exact (Fr.rf.wr (by decide)).wr (by decide)
  have u98 : ν98 117 0 = frc (cst (cfg tx n hd lv) p) (6144 ^ ((cfg tx n hd lv) 125 0).toNat) 0 := by rw [← hm98]; simp (decide := true) only [wr_s, wr_n, wa_s, wa_n, mg_i, mg_o, if_true, eq_self, reduceIte]
  have w98 : ν98 118 0 = frc (cst (cfg tx n hd lv) p) (6144 ^ ((cfg tx n hd lv) 125 0).toNat) 1 := by rw [← hm98]; simp (decide := true) only [wr_s, wr_n, wa_s, wa_n, mg_i, mg_o, if_true, eq_self, reduceIte]
  have hC98 := hC79.fr hF98 (by decide)
  have hP98 := hP79.fr hF98 (by decide)
  refine s_lload_4 (pc := 101) dX8_digestOfWhoOwes_101 ?_
  refine cV1l (pc := 103) (Ky := kX6_mixedInto) dX8_digestOfWhoOwes_103 rfl lnX8_331 okX6_mixedInto ⟨6, TX6, 2, rfl, rfl⟩ ⟨Nat.le_of_ble_eq_true rfl, Nat.le_of_ble_eq_true rfl⟩ (Nat.le_of_ble_eq_true rfl) (c_X6_mixedInto u98 w98) ?_
  rintro _ _ ⟨rfl, rfl⟩
  refine s_lreturn (pc := 106) dX8_digestOfWhoOwes_106 rfl ?_
  exact ⟨rfl, ((((hF7.mono (by decide)).tr (hF55.mono (by decide))).tr (hF67.mono (by decide))).tr (hF79.mono (by decide))).tr (hF98.mono (by decide))⟩
theorem lp_X8_dgB {p h g T : Int} {q : Int → Int} {μ : Mem} {post : Option AV → Mem → Prop} (hT : 0 ≤ T ∧ T ≤ 4) (c103 : μ 103 0 = T) (hv : ∀ j : Int, 0 ≤ j → j < T → μ 28 j = q j) (hq : ∀ j : Int, 0 ≤ q j ∧ q j < 4) (hk : AW kX8_digestOfSearches 122 [some (.inr (.inr 0)), some (.inl p), some (.inr (.inl h)), none, some (.inr (.inl (mxs q g T.toNat))), none, none] [] μ post) : ∀ (f : Nat) (i : Int), (0 ≤ i) → (i ≤ T) → T - i < (f : Int) → AW kX8_digestOfSearches 84 [some (.inr (.inr 0)), some (.inl p), some (.inr (.inl h)), none, some (.inr (.inl (mxs q g i.toNat))), none, some (.inl i)] [] μ (post) := by
  intro f
  induction f with
  | zero =>
    intro i h0 h1 hm
    exfalso; omega
  | succ f ih =>
    intro i h0 h1 hm
    have hsu := mxs_succ (f := q) (h := g) h0
    refine s_iload_6 (pc := 84) dX8_digestOfSearches_84 ?_
    refine s_aload_0 (pc := 86) dX8_digestOfSearches_86 ?_
    refine gfX8_12 (pc := 87) dX8_digestOfSearches_87 rfl ?_
    refine gfX8_121 (pc := 90) dX8_digestOfSearches_90 rfl ?_
    try rw [c103]
    refine s_icmp_ge (pc := 93) 122 dX8_digestOfSearches_93 rfl (by omega) (by omega) (fun h93 => ?_) (fun h93 => ?_)
    · cases (show i = T by omega)
      refine s_le ?_ hk
      exact ⟨Or.inr rfl, Or.inr rfl, Or.inr rfl, Or.inl rfl, Or.inr rfl, Or.inl rfl, Or.inl rfl, trivial⟩
    · refine s_ldc2_w (pc := 96) dX8_digestOfSearches_96 rfl cnX8_308 ?_
      refine s_lload_4 (pc := 99) dX8_digestOfSearches_99 ?_
      refine s_lmul (pc := 101) dX8_digestOfSearches_101 ?_
      refine s_aload_0 (pc := 102) dX8_digestOfSearches_102 ?_
      refine gfX8_49 (pc := 103) dX8_digestOfSearches_103 rfl ?_
      refine gfX8_175 (pc := 106) dX8_digestOfSearches_106 rfl ?_
      refine s_iload_6 (pc := 109) dX8_digestOfSearches_109 ?_
      refine z_iaload (pc := 111) dX8_digestOfSearches_111 ly_28 (by omega) (by omega) ?_
      try rw [c103]
      rw [hv i h0 (by omega)]
      have hqi := hq i
      refine s_i2l (pc := 112) dX8_digestOfSearches_112 (by omega) ?_
      refine s_ladd (pc := 113) dX8_digestOfSearches_113 ?_
      refine s_lstore_4 (pc := 114) dX8_digestOfSearches_114 (Nat.le_of_ble_eq_true rfl) rfl ?_
      refine s_iinc_6 (pc := 116) dX8_digestOfSearches_116 (Nat.le_of_ble_eq_true rfl) rfl ?_
      refine s_goto (pc := 119) 84 dX8_digestOfSearches_119 rfl ?_
      refine s_le ?_ (ih (i + 1) (by omega) (by omega) (by omega))
      rw [hsu]
      exact ⟨Or.inr rfl, Or.inr rfl, Or.inr rfl, Or.inl rfl, Or.inr rfl, Or.inl rfl, Or.inr rfl, trivial⟩
theorem c_X8_digestOfSearches {tx : Int → Int} {n p h : Int} {hd lv : Int → Int} {μ : Mem} (hp : 0 ≤ p ∧ p < pPe tx n) (h26 : μ 26 p = (rs (cfg tx n hd lv)).1 49 p) (h27 : μ 27 p = (rs (cfg tx n hd lv)).1 50 p) (hQ : RQ tx n μ) (hn : 0 ≤ n ∧ n ≤ 60) (e10 : μ 10 = hd) (e11 : μ 11 = lv) (hhd : ∀ p : Int, 0 ≤ p → p < 4 → 0 ≤ hd p ∧ hd p ≤ 15) (hlv : ∀ p : Int, 0 ≤ p → p < 4 → 0 ≤ lv p ∧ lv p ≤ 4) : Mc kX8_digestOfSearches [.inr (.inr 0), .inl p, .inr (.inl h)] μ (pL (fun z ν => dgB (cfg tx n hd lv) p h = z ∧ Fr [17, 18, 19, 20, 21, 22, 23, 24, 25, 28, 29, 30, 105, 106, 107, 108, 109, 110, 111, 112, 113, 114, 116, 117, 118] μ ν)) := by
  refine Mc_of (by decide +kernel) (fun _ => Nat.le_of_ble_eq_true rfl) ?_
  show AW kX8_digestOfSearches 0 [some (.inr (.inr 0)), some (.inl p), some (.inr (.inl h)), none, none, none, none] [] μ _
  obtain ⟨q1, q2, q3, q4, q5⟩ := id hQ
  have hpe := pPe_in (tx := tx) hn.1
  have hta := pTa_in (tx := tx) hn.1
  refine s_aload_0 (pc := 0) dX8_digestOfSearches_0 ?_
  refine gfX8_49 (pc := 1) dX8_digestOfSearches_1 rfl ?_
  refine s_iload_1 (pc := 4) dX8_digestOfSearches_4 ?_
  refine cV1v (pc := 5) (Ky := kX4_findBest) dX8_digestOfSearches_5 rfl lnX8_152 okX4_findBest ⟨4, TX4, 11, rfl, rfl⟩ ⟨Nat.le_of_ble_eq_true rfl, Nat.le_of_ble_eq_true rfl⟩ (Nat.le_of_ble_eq_true rfl) (c_X4_findBest hQ hn e10 e11 hhd hlv hp) ?_
  rintro ν5 ⟨hC5, hB5, hF5⟩
  have hko := cfg_KO hC5.1 (by omega)
  have hbg := best_g hko (p := p) hp.1 hp.2 hp.2
  obtain ⟨b112, b113, b114⟩ := RC_g hbg hB5
  obtain ⟨g1, g2, g3, g4⟩ := id hbg
  have hQ := hQ.fr hF5 (by decide)
  have e10 := (hF5.fn 10 rfl).trans e10
  have e11 := (hF5.fn 11 rfl).trans e11
  have h26 := (hF5.at 26 rfl p).trans h26
  have h27 := (hF5.at 27 rfl p).trans h27
  have hrs := (rsN_ok (cfg_okW hC5.1) rfl 20).1.1.2.2.2.2.2.2.1 p (by omega) (by omega)
  have hrs1 : 0 ≤ (rs (cfg tx n hd lv)).1 49 p ∧ (rs (cfg tx n hd lv)).1 49 p ≤ 15 := hrs.1
  have hrs2 : 0 ≤ (rs (cfg tx n hd lv)).1 50 p ∧ (rs (cfg tx n hd lv)).1 50 p ≤ 4 := hrs.2.1
  refine s_ldc2_w (pc := 8) dX8_digestOfSearches_8 rfl cnX8_308 ?_
  refine s_lload_2 (pc := 11) dX8_digestOfSearches_11 ?_
  refine s_lmul (pc := 12) dX8_digestOfSearches_12 ?_
  refine s_aload_0 (pc := 13) dX8_digestOfSearches_13 ?_
  refine gfX8_49 (pc := 14) dX8_digestOfSearches_14 rfl ?_
  refine gfX8_156 (pc := 17) dX8_digestOfSearches_17 rfl ?_
  try rw [b113]
  try rw [b114]
  refine s_i2l (pc := 20) dX8_digestOfSearches_20 (by omega) ?_
  refine s_ladd (pc := 21) dX8_digestOfSearches_21 ?_
  refine s_lstore_4 (pc := 22) dX8_digestOfSearches_22 (Nat.le_of_ble_eq_true rfl) rfl ?_
  refine s_ldc2_w (pc := 24) dX8_digestOfSearches_24 rfl cnX8_308 ?_
  refine s_lload_4 (pc := 27) dX8_digestOfSearches_27 ?_
  refine s_lmul (pc := 29) dX8_digestOfSearches_29 ?_
  refine s_aload_0 (pc := 30) dX8_digestOfSearches_30 ?_
  refine gfX8_49 (pc := 31) dX8_digestOfSearches_31 rfl ?_
  refine gfX8_159 (pc := 34) dX8_digestOfSearches_34 rfl ?_
  try rw [b113]
  try rw [b114]
  refine s_i2l (pc := 37) dX8_digestOfSearches_37 (by omega) ?_
  refine s_ladd (pc := 38) dX8_digestOfSearches_38 ?_
  refine s_lstore_4 (pc := 39) dX8_digestOfSearches_39 (Nat.le_of_ble_eq_true rfl) rfl ?_
  refine s_ldc2_w (pc := 41) dX8_digestOfSearches_41 rfl cnX8_308 ?_
  refine s_lload_4 (pc := 44) dX8_digestOfSearches_44 ?_
  refine s_lmul (pc := 46) dX8_digestOfSearches_46 ?_
  refine s_aload_0 (pc := 47) dX8_digestOfSearches_47 ?_
  refine s_iload_1 (pc := 48) dX8_digestOfSearches_48 ?_
  refine s_iconst_0 (pc := 49) dX8_digestOfSearches_49 ?_
  refine cV2i (pc := 50) (Ky := kX8_restTold) dX8_digestOfSearches_50 rfl lnX8_169 okX8_restTold ⟨8, TX8, 11, rfl, rfl⟩ ⟨Nat.le_of_ble_eq_true rfl, Nat.le_of_ble_eq_true rfl⟩ (Nat.le_of_ble_eq_true rfl) (c_X8_restTold (by omega) (by omega)) ?_
  rintro _ _ ⟨rfl, rfl⟩
  rw [if_neg (by omega), if_pos rfl, h26]
  refine s_i2l (pc := 53) dX8_digestOfSearches_53 (by omega) ?_
  refine s_ladd (pc := 54) dX8_digestOfSearches_54 ?_
  refine s_lstore_4 (pc := 55) dX8_digestOfSearches_55 (Nat.le_of_ble_eq_true rfl) rfl ?_
  refine s_ldc2_w (pc := 57) dX8_digestOfSearches_57 rfl cnX8_308 ?_
  refine s_lload_4 (pc := 60) dX8_digestOfSearches_60 ?_
  refine s_lmul (pc := 62) dX8_digestOfSearches_62 ?_
  refine s_aload_0 (pc := 63) dX8_digestOfSearches_63 ?_
  refine s_iload_1 (pc := 64) dX8_digestOfSearches_64 ?_
  refine s_iconst_1 (pc := 65) dX8_digestOfSearches_65 ?_
  refine cV2i (pc := 66) (Ky := kX8_restTold) dX8_digestOfSearches_66 rfl lnX8_169 okX8_restTold ⟨8, TX8, 11, rfl, rfl⟩ ⟨Nat.le_of_ble_eq_true rfl, Nat.le_of_ble_eq_true rfl⟩ (Nat.le_of_ble_eq_true rfl) (c_X8_restTold (by omega) (by omega)) ?_
  rintro _ _ ⟨rfl, rfl⟩
  rw [if_neg (by omega), if_neg (by decide), h27]
  refine s_i2l (pc := 69) dX8_digestOfSearches_69 (by omega) ?_
  refine s_ladd (pc := 70) dX8_digestOfSearches_70 ?_
  refine s_lstore_4 (pc := 71) dX8_digestOfSearches_71 (Nat.le_of_ble_eq_true rfl) rfl ?_
  refine s_aload_0 (pc := 73) dX8_digestOfSearches_73 ?_
  refine gfX8_49 (pc := 74) dX8_digestOfSearches_74 rfl ?_
  refine s_iload_1 (pc := 77) dX8_digestOfSearches_77 ?_
  refine cV1v (pc := 78) (Ky := kX4_findOrder) dX8_digestOfSearches_78 rfl lnX8_172 okX4_findOrder ⟨4, TX4, 11, rfl, rfl⟩ ⟨Nat.le_of_ble_eq_true rfl, Nat.le_of_ble_eq_true rfl⟩ (Nat.le_of_ble_eq_true rfl) (c_X4_findOrder hQ hn e10 e11 hhd hlv hp) ?_
  rintro ν78 ⟨hO78, hF78⟩
  have hQ := hQ.fr hF78 (by decide)
  have e10 := (hF78.fn 10 rfl).trans e10
  have e11 := (hF78.fn 11 rfl).trans e11
  have c103 : ν78 103 0 = pTa tx n := hQ.2.1
  refine s_iconst_0 (pc := 81) dX8_digestOfSearches_81 ?_
  refine s_istore_6 (pc := 82) dX8_digestOfSearches_82 (Nat.le_of_ble_eq_true rfl) rfl ?_
  refine s_le ?_ (lp_X8_dgB (p := p) (h := h) (g := dgW (cfg tx n hd lv) p h) (T := pTa tx n) (q := dg (pTa tx n) (ord (cfg tx n hd lv) p).2) hta c103 hO78 (fun _ => dg_in) ?_ 5 0 (by omega) hta.1 (by omega))
  · exact ⟨Or.inr rfl, Or.inr rfl, Or.inr rfl, Or.inl rfl, Or.inr rfl, Or.inl rfl, Or.inr rfl, trivial⟩
  refine s_ldc2_w (pc := 122) dX8_digestOfSearches_122 rfl cnX8_308 ?_
  refine s_lload_4 (pc := 125) dX8_digestOfSearches_125 ?_
  refine s_lmul (pc := 127) dX8_digestOfSearches_127 ?_
  refine s_aload_0 (pc := 128) dX8_digestOfSearches_128 ?_
  refine gfX8_49 (pc := 129) dX8_digestOfSearches_129 rfl ?_
  refine s_iload_1 (pc := 132) dX8_digestOfSearches_132 ?_
  refine cV1i (pc := 133) (Ky := kX4_bestCompany) dX8_digestOfSearches_133 rfl lnX8_178 okX4_bestCompany ⟨4, TX4, 11, rfl, rfl⟩ ⟨Nat.le_of_ble_eq_true rfl, Nat.le_of_ble_eq_true rfl⟩ (Nat.le_of_ble_eq_true rfl) (c_X4_bestCompany hQ hn e10 e11 hhd hlv hp) ?_
  rintro _ ν133 ⟨rfl, hF133⟩
  have hQ := hQ.fr hF133 (by decide)
  have e10 := (hF133.fn 10 rfl).trans e10
  have e11 := (hF133.fn 11 rfl).trans e11
  have hli := lst_in2 (a := fun i => am (kA (cfg tx n hd lv) p i) p) (ok := okA (cfg tx n hd lv) p) (2 ^ (pPe tx n).toNat)
  have hl1 : -3 ≤ (if pPe tx n = 1 then -3 else (amg (cfg tx n hd lv) p (2 ^ (pPe tx n).toNat)).2) ∧ (if pPe tx n = 1 then -3 else (amg (cfg tx n hd lv) p (2 ^ (pPe tx n).toNat)).2) ≤ 16 := by
    have e16 : (2 : Nat) ^ (pPe tx n).toNat ≤ 16 := by have := (pw_small (k := pPe tx n) hpe).2; have := pw_nat (k := pPe tx n); omega
    unfold amg
    split <;> omega
  refine s_i2l (pc := 136) dX8_digestOfSearches_136 (by omega) ?_
  refine s_ladd (pc := 137) dX8_digestOfSearches_137 ?_
  refine s_lstore_4 (pc := 138) dX8_digestOfSearches_138 (Nat.le_of_ble_eq_true rfl) rfl ?_
  refine s_ldc2_w (pc := 140) dX8_digestOfSearches_140 rfl cnX8_308 ?_
  refine s_lload_4 (pc := 143) dX8_digestOfSearches_143 ?_
  refine s_lmul (pc := 145) dX8_digestOfSearches_145 ?_
  refine s_aload_0 (pc := 146) dX8_digestOfSearches_146 ?_
  refine gfX8_49 (pc := 147) dX8_digestOfSearches_147 rfl ?_
  refine s_iload_1 (pc := 150) dX8_digestOfSearches_150 ?_
  refine cV1i (pc := 151) (Ky := kX4_bestLaw) dX8_digestOfSearches_151 rfl lnX8_194 okX4_bestLaw ⟨4, TX4, 11, rfl, rfl⟩ ⟨Nat.le_of_ble_eq_true rfl, Nat.le_of_ble_eq_true rfl⟩ (Nat.le_of_ble_eq_true rfl) (c_X4_bestLaw hQ hn e10 e11 hhd hlv hp) ?_
  rintro _ ν151 ⟨rfl, hF151⟩
  have hQ := hQ.fr hF151 (by decide)
  have e10 := (hF151.fn 10 rfl).trans e10
  have e11 := (hF151.fn 11 rfl).trans e11
  have hl2 := lst_in2 (a := fun i => am (kO (cfg tx n hd lv) (i / 3) (i % 3)) p) (ok := fun _ => True) 9
  have hl3 : -1 ≤ (lwf (cfg tx n hd lv) p 9).2 ∧ (lwf (cfg tx n hd lv) p 9).2 ≤ 9 := by unfold lwf; omega
  refine s_i2l (pc := 154) dX8_digestOfSearches_154 (by omega) ?_
  refine s_ladd (pc := 155) dX8_digestOfSearches_155 ?_
  refine s_lstore_4 (pc := 156) dX8_digestOfSearches_156 (Nat.le_of_ble_eq_true rfl) rfl ?_
  refine s_ldc2_w (pc := 158) dX8_digestOfSearches_158 rfl cnX8_308 ?_
  refine s_lload_4 (pc := 161) dX8_digestOfSearches_161 ?_
  refine s_lmul (pc := 163) dX8_digestOfSearches_163 ?_
  refine s_aload_0 (pc := 164) dX8_digestOfSearches_164 ?_
  refine gfX8_49 (pc := 165) dX8_digestOfSearches_165 rfl ?_
  refine s_iload_1 (pc := 168) dX8_digestOfSearches_168 ?_
  refine cV1i (pc := 169) (Ky := kX4_leastFunnyToLeave) dX8_digestOfSearches_169 rfl lnX8_197 okX4_leastFunnyToLeave ⟨4, TX4, 11, rfl, rfl⟩ ⟨Nat.le_of_ble_eq_true rfl, Nat.le_of_ble_eq_true rfl⟩ (Nat.le_of_ble_eq_true rfl) (c_X4_leastFunnyToLeave hQ hn e10 e11 hhd hlv hp) ?_
  rintro _ ν169 ⟨rfl, hF169⟩
  have hl4 := edg_in (κ := cfg tx n hd lv) (p := p) 10 (by omega)
  have hl5 : -3 ≤ (if pTa tx n = 0 then -3 else edg (cfg tx n hd lv) p 10) ∧ (if pTa tx n = 0 then -3 else edg (cfg tx n hd lv) p 10) ≤ 9 := by split <;> omega
  refine s_i2l (pc := 172) dX8_digestOfSearches_172 (by omega) ?_
  refine s_ladd (pc := 173) dX8_digestOfSearches_173 ?_
  refine s_lreturn (pc := 174) dX8_digestOfSearches_174 rfl ?_
  exact ⟨rfl, ((((hF5.mono (by decide)).tr (hF78.mono (by decide))).tr (hF133.mono (by decide))).tr (hF151.mono (by decide))).tr (hF169.mono (by decide))⟩
theorem c_X8_digestOfStrokes {tx : Int → Int} {n p h : Int} {hd lv wt : Int → Int} {κ μ : Mem} (hp : 0 ≤ p ∧ p < pPe tx n) (hS : SQ κ μ) (e12 : μ 12 = wt) (hwt : ∀ k : Int, 0 ≤ k → k < 5 → 0 ≤ wt k ∧ wt k ≤ 9) (hQ : RQ tx n μ) (hn : 0 ≤ n ∧ n ≤ 60) (e10 : μ 10 = hd) (e11 : μ 11 = lv) (hhd : ∀ p : Int, 0 ≤ p → p < 4 → 0 ≤ hd p ∧ hd p ≤ 15) (hlv : ∀ p : Int, 0 ≤ p → p < 4 → 0 ≤ lv p ∧ lv p ≤ 4) : Mc kX8_digestOfStrokes [.inr (.inr 0), .inl p, .inr (.inl h)] μ (pL (fun z ν => dgC (cfg tx n hd lv) wt κ p h = z ∧ Fr [17, 18, 19, 20, 21, 22, 23, 24, 25, 28, 29, 30, 105, 106, 107, 108, 109, 110, 111, 112, 113, 114, 116, 117, 118] μ ν)) := by
  refine Mc_of (by decide +kernel) (fun _ => Nat.le_of_ble_eq_true rfl) ?_
  show AW kX8_digestOfStrokes 0 [some (.inr (.inr 0)), some (.inl p), some (.inr (.inl h)), none, none, none] [] μ _
  obtain ⟨q1, q2, q3, q4, q5⟩ := id hQ
  have hpe := pPe_in (tx := tx) hn.1
  have hta := pTa_in (tx := tx) hn.1
  refine s_ldc2_w (pc := 0) dX8_digestOfStrokes_0 rfl cnX8_308 ?_
  refine s_lload_2 (pc := 3) dX8_digestOfStrokes_3 ?_
  refine s_lmul (pc := 4) dX8_digestOfStrokes_4 ?_
  refine s_aload_0 (pc := 5) dX8_digestOfStrokes_5 ?_
  refine s_iload_1 (pc := 6) dX8_digestOfStrokes_6 ?_
  refine s_iconst_0 (pc := 7) dX8_digestOfStrokes_7 ?_
  refine cV2l (pc := 8) (Ky := kX8_early) dX8_digestOfStrokes_8 rfl lnX8_335 okX8_early ⟨8, TX8, 11, rfl, rfl⟩ ⟨Nat.le_of_ble_eq_true rfl, Nat.le_of_ble_eq_true rfl⟩ (Nat.le_of_ble_eq_true rfl) (c_X8_early (by omega) (by omega) e12 hwt hQ hn e10 e11 hhd hlv) ?_
  rintro _ ν8 ⟨rfl, hF8⟩
  rw [if_pos ⟨hp, by decide⟩]
  have hQ := hQ.fr hF8 (by decide)
  have e10 := (hF8.fn 10 rfl).trans e10
  have e11 := (hF8.fn 11 rfl).trans e11
  have e12 := (hF8.fn 12 rfl).trans e12
  refine s_ladd (pc := 11) dX8_digestOfStrokes_11 ?_
  refine s_lstore_4 (pc := 12) dX8_digestOfStrokes_12 (Nat.le_of_ble_eq_true rfl) rfl ?_
  refine s_ldc2_w (pc := 14) dX8_digestOfStrokes_14 rfl cnX8_308 ?_
  refine s_lload_4 (pc := 17) dX8_digestOfStrokes_17 ?_
  refine s_lmul (pc := 19) dX8_digestOfStrokes_19 ?_
  refine s_aload_0 (pc := 20) dX8_digestOfStrokes_20 ?_
  refine s_iload_1 (pc := 21) dX8_digestOfStrokes_21 ?_
  refine s_iconst_1 (pc := 22) dX8_digestOfStrokes_22 ?_
  refine cV2l (pc := 23) (Ky := kX8_early) dX8_digestOfStrokes_23 rfl lnX8_335 okX8_early ⟨8, TX8, 11, rfl, rfl⟩ ⟨Nat.le_of_ble_eq_true rfl, Nat.le_of_ble_eq_true rfl⟩ (Nat.le_of_ble_eq_true rfl) (c_X8_early (by omega) (by omega) e12 hwt hQ hn e10 e11 hhd hlv) ?_
  rintro _ ν23 ⟨rfl, hF23⟩
  rw [if_pos ⟨hp, by decide⟩]
  have hQ := hQ.fr hF23 (by decide)
  have e10 := (hF23.fn 10 rfl).trans e10
  have e11 := (hF23.fn 11 rfl).trans e11
  refine s_ladd (pc := 26) dX8_digestOfStrokes_26 ?_
  refine s_lstore_4 (pc := 27) dX8_digestOfStrokes_27 (Nat.le_of_ble_eq_true rfl) rfl ?_
  refine s_ldc2_w (pc := 29) dX8_digestOfStrokes_29 rfl cnX8_308 ?_
  refine s_lload_4 (pc := 32) dX8_digestOfStrokes_32 ?_
  refine s_lmul (pc := 34) dX8_digestOfStrokes_34 ?_
  refine s_aload_0 (pc := 35) dX8_digestOfStrokes_35 ?_
  refine s_bipush (pc := 36) (z := 7) dX8_digestOfStrokes_36 rfl ?_
  refine s_bipush (pc := 38) (z := 9) dX8_digestOfStrokes_38 rfl ?_
  refine s_iload_1 (pc := 40) dX8_digestOfStrokes_40 ?_
  refine cV3i (pc := 41) (Ky := kX8_evenings) dX8_digestOfStrokes_41 rfl lnX8_338 okX8_evenings ⟨8, TX8, 11, rfl, rfl⟩ ⟨Nat.le_of_ble_eq_true rfl, Nat.le_of_ble_eq_true rfl⟩ (Nat.le_of_ble_eq_true rfl) (c_X8_evenings (by omega) (by omega) (by omega) hQ hn e10 e11 hhd hlv) ?_
  rintro _ ν41 ⟨rfl, hF41⟩
  rw [if_pos ⟨by decide, hp⟩]
  have hl6 := evsN_in (κ := cfg tx n hd lv) (q := p) (z := 7) (9 : Int).toNat
  have hS41 := ((hS.fr hF8 (by decide)).fr hF23 (by decide)).fr hF41 (by decide)
  refine s_i2l (pc := 44) dX8_digestOfStrokes_44 (by omega) ?_
  refine s_ladd (pc := 45) dX8_digestOfStrokes_45 ?_
  refine s_lstore_4 (pc := 46) dX8_digestOfStrokes_46 (Nat.le_of_ble_eq_true rfl) rfl ?_
  refine s_ldc2_w (pc := 48) dX8_digestOfStrokes_48 rfl cnX8_308 ?_
  refine s_lload_4 (pc := 51) dX8_digestOfStrokes_51 ?_
  refine s_lmul (pc := 53) dX8_digestOfStrokes_53 ?_
  refine s_aload_0 (pc := 54) dX8_digestOfStrokes_54 ?_
  refine s_iload_1 (pc := 55) dX8_digestOfStrokes_55 ?_
  refine cV1i (pc := 56) (Ky := kX8_guess) dX8_digestOfStrokes_56 rfl lnX8_341 okX8_guess ⟨8, TX8, 11, rfl, rfl⟩ ⟨Nat.le_of_ble_eq_true rfl, Nat.le_of_ble_eq_true rfl⟩ (Nat.le_of_ble_eq_true rfl) (c_X8_guess hS41 (by omega)) ?_
  rintro _ _ ⟨rfl, rfl⟩
  rw [if_pos (by omega)]
  have hl7 := gss_in (κ := κ) (a := p)
  refine s_i2l (pc := 59) dX8_digestOfStrokes_59 (by omega) ?_
  refine s_ladd (pc := 60) dX8_digestOfStrokes_60 ?_
  refine s_lreturn (pc := 61) dX8_digestOfStrokes_61 rfl ?_
  exact ⟨rfl, (hF8.tr hF23).tr hF41⟩
