/-! ===== who comes early ===== -/
theorem parts_ow {κ ν : Mem} {m p : Int} (h : KO κ) (hm : 0 ≤ m ∧ m ≤ κ 125 0) (hp : 0 ≤ p ∧ p < κ 129 0) (hv : ∀ k : Int, 0 ≤ k → k < 50 → ν 53 k = DD κ m.toNat k) : sm (fun k => ν 53 (10 * p + k)) 10 = ow κ m.toNat p := by
  have r1 := h.1.1
  have r2 := h.1.2.1
  rw [(ow_bk h m.toNat (by omega) p hp.1 hp.2).1, ← sm_bk ⟨hp.1, by omega⟩]
  exact sm_congr fun k k0 k1 => hv _ (by omega) (by omega)
def erF (wt : Int → Int) (κ : Mem) (p i : Int) : Int := wt i * ow κ (if κ 125 0 ≤ i then κ 125 0 else i).toNat p * 3072 ^ (κ 125 0 - (if κ 125 0 ≤ i then κ 125 0 else i)).toNat
theorem erF_in {wt : Int → Int} {κ : Mem} {p i : Int} (h : KO κ) (hw : ∀ k : Int, 0 ≤ k → k < 5 → 0 ≤ wt k ∧ wt k ≤ 9) (hp : 0 ≤ p ∧ p < κ 129 0) (hi : 0 ≤ i ∧ i < 5) : 0 ≤ erF wt κ p i ∧ erF wt κ p i ≤ 9 * 3072 ^ (κ 125 0).toNat := by
  have r2 := h.1.2.1
  have hw1 := hw i hi.1 hi.2
  unfold erF
  generalize hm : (if κ 125 0 ≤ i then κ 125 0 else i) = m
  have hm1 : 0 ≤ m ∧ m ≤ κ 125 0 := by omega
  have ho := ow_in h (i := m.toNat) (by omega) hp.1 hp.2
  have h3 : (0 : Int) < 3072 ^ (κ 125 0 - m).toNat := Int.pow_pos (by decide)
  refine ⟨Int.mul_nonneg (Int.mul_nonneg hw1.1 ho.1) (by omega), ?_⟩
  have e : (3072 : Int) ^ (κ 125 0).toNat = 3072 ^ m.toNat * 3072 ^ (κ 125 0 - m).toNat := by rw [← Int.pow_add]; congr 1; omega
  rw [e, ← Int.mul_assoc]
  exact Int.mul_le_mul_of_nonneg_right (Int.mul_le_mul hw1.2 ho.2 ho.1 (by decide)) (by omega)
theorem erF_sum {wt : Int → Int} {κ : Mem} {p : Int} (h : KO κ) (hw : ∀ k : Int, 0 ≤ k → k < 5 → 0 ≤ wt k ∧ wt k ≤ 9) (hp : 0 ≤ p ∧ p < κ 129 0) : 0 ≤ sm (erF wt κ p) 5 ∧ sm (erF wt κ p) 5 ≤ 45 * 3072 ^ (κ 125 0).toNat := by
  have h1 := erF_in h hw hp (i := 0) (by omega)
  have h2 := erF_in h hw hp (i := 1) (by omega)
  have h3 := erF_in h hw hp (i := 2) (by omega)
  have h4 := erF_in h hw hp (i := 3) (by omega)
  have h5 := erF_in h hw hp (i := 4) (by omega)
  show 0 ≤ 0 + erF wt κ p 0 + erF wt κ p 1 + erF wt κ p 2 + erF wt κ p 3 + erF wt κ p 4 ∧ 0 + erF wt κ p 0 + erF wt κ p 1 + erF wt κ p 2 + erF wt κ p 3 + erF wt κ p 4 ≤ _
  omega
theorem wt_sum {wt : Int → Int} (hw : ∀ k : Int, 0 ≤ k → k < 5 → 0 ≤ wt k ∧ wt k ≤ 9) : 0 ≤ sm wt 5 ∧ sm wt 5 ≤ 45 := by
  have h1 := hw 0 (by omega) (by omega)
  have h2 := hw 1 (by omega) (by omega)
  have h3 := hw 2 (by omega) (by omega)
  have h4 := hw 3 (by omega) (by omega)
  have h5 := hw 4 (by omega) (by omega)
  show 0 ≤ 0 + wt 0 + wt 1 + wt 2 + wt 3 + wt 4 ∧ 0 + wt 0 + wt 1 + wt 2 + wt 3 + wt 4 ≤ 45
  omega
def erl (wt : Int → Int) (κ : Mem) (p w : Int) : Int := if sm wt 5 = 0 then -9223372036854775805 else frc (sm (erF wt κ p) 5) (sm wt 5 * 3072 ^ (κ 125 0).toNat) w
def twA (κ : Mem) : Int := 3072 ^ (κ 125 0).toNat - ow (wr κ 128 0 0) (κ 125 0).toNat 0
def twB (κ : Mem) : Int := ow (wr κ 128 0 1) (κ 125 0).toNat 0
def two (κ : Mem) (w : Int) : Int := if κ 129 0 ≠ 2 ∨ twA κ + twB κ = 0 then -9223372036854775805 else frc (twB κ) (twA κ + twB κ) w
theorem lp_X9_allWeights {μ : Mem} : ∀ (f : Nat) (i : Int), (0 ≤ i) → (i ≤ 5) → 5 - i < (f : Int) → AW kX9_allWeights 4 [some (.inr (.inr 9)), some (.inl (sm (fun k => μ 57 k) i.toNat)), some (.inl i)] [] μ (pI (fun z ν => sm (μ 57) 5 = z ∧ μ = ν)) := by
  intro f
  induction f with
  | zero =>
    intro i h0 h1 hm
    exfalso; omega
  | succ f ih =>
    intro i h0 h1 hm
    refine s_iload_2 (pc := 4) dX9_allWeights_4 ?_
    refine s_iconst_5 (pc := 5) dX9_allWeights_5 ?_
    refine s_icmp_ge (pc := 6) 24 dX9_allWeights_6 rfl (by omega) (by omega) (fun h6 => ?_) (fun h6 => ?_)
    · refine s_iload_1 (pc := 24) dX9_allWeights_24 ?_
      refine s_ireturn (pc := 25) dX9_allWeights_25 rfl ?_
      cases (show i = 5 by omega)
      exact ⟨rfl, rfl⟩
    · refine s_iload_1 (pc := 9) dX9_allWeights_9 ?_
      refine s_aload_0 (pc := 10) dX9_allWeights_10 ?_
      refine gfX9_65 (pc := 11) dX9_allWeights_11 rfl ?_
      refine s_iload_2 (pc := 14) dX9_allWeights_14 ?_
      refine z_iaload (pc := 15) dX9_allWeights_15 ly_57 (by omega) (by omega) ?_
      refine s_iadd (pc := 16) dX9_allWeights_16 ?_
      refine s_valI (sm_succ (f := fun k => μ 57 k) h0).symm ?_
      refine s_istore_1 (pc := 17) dX9_allWeights_17 (Nat.le_of_ble_eq_true rfl) rfl ?_
      refine s_iinc_2 (pc := 18) dX9_allWeights_18 (Nat.le_of_ble_eq_true rfl) rfl ?_
      refine s_goto (pc := 21) 4 dX9_allWeights_21 rfl ?_
      exact ih (i + 1) (by omega) (by omega) (by omega)
theorem c_X9_allWeights {μ : Mem} : Mc kX9_allWeights [.inr (.inr 9)] μ (pI (fun z ν => sm (μ 57) 5 = z ∧ μ = ν)) := by
  refine Mc_of (by decide +kernel) (fun _ => Nat.le_of_ble_eq_true rfl) ?_
  show AW kX9_allWeights 0 [some (.inr (.inr 9)), none, none] [] μ _
  refine s_iconst_0 (pc := 0) dX9_allWeights_0 ?_
  refine s_istore_1 (pc := 1) dX9_allWeights_1 (Nat.le_of_ble_eq_true rfl) rfl ?_
  refine s_iconst_0 (pc := 2) dX9_allWeights_2 ?_
  refine s_istore_2 (pc := 3) dX9_allWeights_3 (Nat.le_of_ble_eq_true rfl) rfl ?_
  exact lp_X9_allWeights 6 0 (by omega) (by omega) (by omega)
theorem lp_X9_earlyOf {κ : Mem} {p w : Int} {wt : Int → Int} {μ : Mem} (hko : KO κ) (hp : 0 ≤ p ∧ p < κ 129 0) (hw : w = 0 ∨ w = 1) (e57 : μ 57 = wt) (hwt : ∀ k : Int, 0 ≤ k → k < 5 → 0 ≤ wt k ∧ wt k ≤ 9) (hpos : sm wt 5 ≠ 0) : ∀ (f : Nat) (i : Int) (ν : Mem), (0 ≤ i) → (i ≤ 5) → (Fr [53, 54] μ ν) → (MR κ ν) → 5 - i < (f : Int) → AW kX9_earlyOf 22 [some (.inr (.inr 9)), some (.inl p), some (.inl w), some (.inr (.inl (sm (erF wt κ p) i.toNat))), none, some (.inl i), none] [] ν (pL (fun z ν => frc (sm (erF wt κ p) 5) (sm wt 5 * 3072 ^ (κ 125 0).toNat) w = z ∧ Fr [53, 54] μ ν)) := by
  intro f
  induction f with
  | zero =>
    intro i ν h0 h1 hF hM hm
    exfalso; omega
  | succ f ih =>
    intro i ν h0 h1 hF hM hm
    have hk1 := hko.1
    have r129 := hk1.1
    have r125 := hk1.2.1
    have m125 := hM.2.2.1
    have e57n : ν 57 = wt := (hF.fn 57 rfl).trans e57
    have hes := erF_sum hko hwt hp
    have hws := wt_sum hwt
    have hp3 := p3072 (κ 125 0).toNat (by omega)
    have hmu : sm wt 5 * 3072 ^ (κ 125 0).toNat ≤ 45 * 3072 ^ (κ 125 0).toNat := Int.mul_le_mul_of_nonneg_right hws.2 (by omega)
    have hmu0 : 0 < sm wt 5 * 3072 ^ (κ 125 0).toNat := Int.mul_pos (by omega) (by omega)
    refine s_iload_5 (pc := 22) dX9_earlyOf_22 ?_
    refine s_iconst_5 (pc := 24) dX9_earlyOf_24 ?_
    refine s_icmp_ge (pc := 25) 88 dX9_earlyOf_25 rfl (by omega) (by omega) (fun h25 => ?_) (fun h25 => ?_)
    · refine s_lload_3 (pc := 88) dX9_earlyOf_88 ?_
      refine s_aload_0 (pc := 89) dX9_earlyOf_89 ?_
      refine cV0i (pc := 90) (Ky := kX9_allWeights) dX9_earlyOf_90 rfl lnX9_308 okX9_allWeights ⟨9, TX9, 40, rfl, rfl⟩ ⟨Nat.le_of_ble_eq_true rfl, Nat.le_of_ble_eq_true rfl⟩ (Nat.le_of_ble_eq_true rfl) (c_X9_allWeights) ?_
      rintro _ _ ⟨rfl, rfl⟩
      rw [e57n]
      refine s_i2l (pc := 93) dX9_earlyOf_93 (by omega) ?_
      refine s_aload_0 (pc := 94) dX9_earlyOf_94 ?_
      refine gfX9_129 (pc := 95) dX9_earlyOf_95 rfl ?_
      try rw [m125]
      try rw [m125b]
      refine cS1l (pc := 98) (Ky := kX9_whole) dX9_earlyOf_98 rfl lnX9_226 okX9_whole ⟨Nat.le_of_ble_eq_true rfl, Nat.le_of_ble_eq_true rfl⟩ (Nat.le_of_ble_eq_true rfl) (c_X9_whole (by omega)) ?_
      rintro _ _ ⟨rfl, rfl⟩
      refine s_lmul (pc := 101) dX9_earlyOf_101 ?_
      refine s_iload_2 (pc := 102) dX9_earlyOf_102 ?_
      cases (show i = 5 by omega)
      have he5 : sm (erF wt κ p) (5 : Int).toNat = sm (erF wt κ p) 5 := rfl
      refine cS3l (pc := 103) (Ky := kX9_part) dX9_earlyOf_103 rfl lnX9_240 okX9_part ⟨Nat.le_of_ble_eq_true rfl, Nat.le_of_ble_eq_true rfl⟩ (Nat.le_of_ble_eq_true rfl) (c_X9_part hw (by omega) (by omega)) ?_
      rintro _ _ ⟨rfl, rfl⟩
      refine s_lreturn (pc := 106) dX9_earlyOf_106 rfl ?_
      exact ⟨rfl, hF⟩
    · refine s_iload_5 (pc := 28) dX9_earlyOf_28 ?_
      refine s_aload_0 (pc := 30) dX9_earlyOf_30 ?_
      refine gfX9_129 (pc := 31) dX9_earlyOf_31 rfl ?_
      try rw [m125]
      try rw [m125b]
      refine s_icmp_ge (pc := 34) 42 dX9_earlyOf_34 rfl (by omega) (by omega) (fun h34 => ?_) (fun h34 => ?_)
      · refine s_aload_0 (pc := 42) dX9_earlyOf_42 ?_
        refine gfX9_129 (pc := 43) dX9_earlyOf_43 rfl ?_
        try rw [m125]
        try rw [m125b]
        refine s_istore_6 (pc := 46) dX9_earlyOf_46 (Nat.le_of_ble_eq_true rfl) rfl ?_
        refine s_aload_0 (pc := 48) dX9_earlyOf_48 ?_
        refine s_iload_6 (pc := 49) dX9_earlyOf_49 ?_
        refine cV1v (pc := 51) (Ky := kX9_goes) dX9_earlyOf_51 rfl lnX9_221 okX9_goes ⟨9, TX9, 40, rfl, rfl⟩ ⟨Nat.le_of_ble_eq_true rfl, Nat.le_of_ble_eq_true rfl⟩ (Nat.le_of_ble_eq_true rfl) (c_X9_goes hM (by omega)) ?_
        rintro ν51 ⟨hF51, hv51⟩
        have hM51 := hM.fr hF51 (by decide)
        have m125b := hM51.2.2.1
        have hFF := hF.tr hF51
        have e57b : ν51 57 = wt := (hFF.fn 57 rfl).trans e57
        have hwi := hwt i h0 (by omega)
        rw [← e57b] at hwi
        refine s_lload_3 (pc := 54) dX9_earlyOf_54 ?_
        refine s_aload_0 (pc := 55) dX9_earlyOf_55 ?_
        refine gfX9_65 (pc := 56) dX9_earlyOf_56 rfl ?_
        refine s_iload_5 (pc := 59) dX9_earlyOf_59 ?_
        refine z_iaload (pc := 61) dX9_earlyOf_61 ly_57 (by omega) (by omega) ?_
        try rw [m125]
        try rw [m125b]
        refine s_i2l (pc := 62) dX9_earlyOf_62 (by omega) ?_
        refine s_aload_0 (pc := 63) dX9_earlyOf_63 ?_
        refine s_iload_1 (pc := 64) dX9_earlyOf_64 ?_
        refine cV1l (pc := 65) (Ky := kX9_partsOf) dX9_earlyOf_65 rfl lnX9_237 okX9_partsOf ⟨9, TX9, 40, rfl, rfl⟩ ⟨Nat.le_of_ble_eq_true rfl, Nat.le_of_ble_eq_true rfl⟩ (Nat.le_of_ble_eq_true rfl) (c_X9_partsOf (by omega)) ?_
        rintro _ _ ⟨rfl, rfl⟩
        first
          | rw [parts_ow hko (m := κ 125 0) (by omega) hp hv51]
          | rw [parts_ow hko (m := i) (by omega) hp hv51]
        refine s_lmul (pc := 68) dX9_earlyOf_68 ?_
        refine s_aload_0 (pc := 69) dX9_earlyOf_69 ?_
        refine gfX9_129 (pc := 70) dX9_earlyOf_70 rfl ?_
        try rw [m125]
        try rw [m125b]
        refine s_iload_6 (pc := 73) dX9_earlyOf_73 ?_
        refine s_isub (pc := 75) dX9_earlyOf_75 ?_
        refine cS1l (pc := 76) (Ky := kX9_whole) dX9_earlyOf_76 rfl lnX9_226 okX9_whole ⟨Nat.le_of_ble_eq_true rfl, Nat.le_of_ble_eq_true rfl⟩ (Nat.le_of_ble_eq_true rfl) (c_X9_whole (by omega)) ?_
        rintro _ _ ⟨rfl, rfl⟩
        refine s_lmul (pc := 79) dX9_earlyOf_79 ?_
        refine s_ladd (pc := 80) dX9_earlyOf_80 ?_
        refine s_valL (y := sm (erF wt κ p) (i + 1).toNat) ?_ ?_
        · rw [sm_succ h0, erF, e57b]
          first | rw [if_pos (by omega)] | rw [if_neg (by omega)]
        refine s_lstore_3 (pc := 81) dX9_earlyOf_81 (Nat.le_of_ble_eq_true rfl) rfl ?_
        refine s_iinc_5 (pc := 82) dX9_earlyOf_82 (Nat.le_of_ble_eq_true rfl) rfl ?_
        refine s_goto (pc := 85) 22 dX9_earlyOf_85 rfl ?_
        refine s_le ?_ (ih (i + 1) _ (by omega) (by omega) hFF hM51 (by omega))
        exact ⟨Or.inr rfl, Or.inr rfl, Or.inr rfl, Or.inr rfl, Or.inl rfl, Or.inr rfl, Or.inl rfl, trivial⟩
      · refine s_iload_5 (pc := 37) dX9_earlyOf_37 ?_
        refine s_goto (pc := 39) 46 dX9_earlyOf_39 rfl ?_
        refine s_istore_6 (pc := 46) dX9_earlyOf_46 (Nat.le_of_ble_eq_true rfl) rfl ?_
        refine s_aload_0 (pc := 48) dX9_earlyOf_48 ?_
        refine s_iload_6 (pc := 49) dX9_earlyOf_49 ?_
        refine cV1v (pc := 51) (Ky := kX9_goes) dX9_earlyOf_51 rfl lnX9_221 okX9_goes ⟨9, TX9, 40, rfl, rfl⟩ ⟨Nat.le_of_ble_eq_true rfl, Nat.le_of_ble_eq_true rfl⟩ (Nat.le_of_ble_eq_true rfl) (c_X9_goes hM (by omega)) ?_
        rintro ν51 ⟨hF51, hv51⟩
        have hM51 := hM.fr hF51 (by decide)
        have m125b := hM51.2.2.1
        have hFF := hF.tr hF51
        have e57b : ν51 57 = wt := (hFF.fn 57 rfl).trans e57
        have hwi := hwt i h0 (by omega)
        rw [← e57b] at hwi
        refine s_lload_3 (pc := 54) dX9_earlyOf_54 ?_
        refine s_aload_0 (pc := 55) dX9_earlyOf_55 ?_
        refine gfX9_65 (pc := 56) dX9_earlyOf_56 rfl ?_
        refine s_iload_5 (pc := 59) dX9_earlyOf_59 ?_
        refine z_iaload (pc := 61) dX9_earlyOf_61 ly_57 (by omega) (by omega) ?_
        try rw [m125]
        try rw [m125b]
        refine s_i2l (pc := 62) dX9_earlyOf_62 (by omega) ?_
        refine s_aload_0 (pc := 63) dX9_earlyOf_63 ?_
        refine s_iload_1 (pc := 64) dX9_earlyOf_64 ?_
        refine cV1l (pc := 65) (Ky := kX9_partsOf) dX9_earlyOf_65 rfl lnX9_237 okX9_partsOf ⟨9, TX9, 40, rfl, rfl⟩ ⟨Nat.le_of_ble_eq_true rfl, Nat.le_of_ble_eq_true rfl⟩ (Nat.le_of_ble_eq_true rfl) (c_X9_partsOf (by omega)) ?_
        rintro _ _ ⟨rfl, rfl⟩
        first
          | rw [parts_ow hko (m := κ 125 0) (by omega) hp hv51]
          | rw [parts_ow hko (m := i) (by omega) hp hv51]
        refine s_lmul (pc := 68) dX9_earlyOf_68 ?_
        refine s_aload_0 (pc := 69) dX9_earlyOf_69 ?_
        refine gfX9_129 (pc := 70) dX9_earlyOf_70 rfl ?_
        try rw [m125]
        try rw [m125b]
        refine s_iload_6 (pc := 73) dX9_earlyOf_73 ?_
        refine s_isub (pc := 75) dX9_earlyOf_75 ?_
        refine cS1l (pc := 76) (Ky := kX9_whole) dX9_earlyOf_76 rfl lnX9_226 okX9_whole ⟨Nat.le_of_ble_eq_true rfl, Nat.le_of_ble_eq_true rfl⟩ (Nat.le_of_ble_eq_true rfl) (c_X9_whole (by omega)) ?_
        rintro _ _ ⟨rfl, rfl⟩
        refine s_lmul (pc := 79) dX9_earlyOf_79 ?_
        refine s_ladd (pc := 80) dX9_earlyOf_80 ?_
        refine s_valL (y := sm (erF wt κ p) (i + 1).toNat) ?_ ?_
        · rw [sm_succ h0, erF, e57b]
          first | rw [if_pos (by omega)] | rw [if_neg (by omega)]
        refine s_lstore_3 (pc := 81) dX9_earlyOf_81 (Nat.le_of_ble_eq_true rfl) rfl ?_
        refine s_iinc_5 (pc := 82) dX9_earlyOf_82 (Nat.le_of_ble_eq_true rfl) rfl ?_
        refine s_goto (pc := 85) 22 dX9_earlyOf_85 rfl ?_
        refine s_le ?_ (ih (i + 1) _ (by omega) (by omega) hFF hM51 (by omega))
        exact ⟨Or.inr rfl, Or.inr rfl, Or.inr rfl, Or.inr rfl, Or.inl rfl, Or.inr rfl, Or.inl rfl, trivial⟩
theorem c_X9_earlyOf {tx : Int → Int} {n p w : Int} {hd lv : Int → Int} {wt : Int → Int} {μ : Mem} (hp : 0 ≤ p ∧ p < pPe tx n) (hw : w = 0 ∨ w = 1) (e57 : μ 57 = wt) (hwt : ∀ k : Int, 0 ≤ k → k < 5 → 0 ≤ wt k ∧ wt k ≤ 9) (e43 : μ 43 = tx) (e122 : μ 122 0 = n) (hn : 0 ≤ n ∧ n ≤ 60) (ht : ∀ k : Int, 0 ≤ k → k < n → 0 ≤ tx k ∧ tx k ≤ 255) (e47 : μ 47 = hd) (e48 : μ 48 = lv) (hhd : ∀ p : Int, 0 ≤ p → p < 4 → 0 ≤ hd p ∧ hd p ≤ 15) (hlv : ∀ p : Int, 0 ≤ p → p < 4 → 0 ≤ lv p ∧ lv p ≤ 4) : Mc kX9_earlyOf [.inr (.inr 9), .inl p, .inl w] μ (pL (fun z ν => erl wt (cfg tx n hd lv) p w = z ∧ FrT tx n [42, 44, 45, 46, 49, 50, 51, 52, 53, 54, 55, 56, 123, 124, 125, 126, 127, 128, 129, 130, 131, 132, 133, 134] μ ν)) := by
  refine Mc_of (by decide +kernel) (fun _ => Nat.le_of_ble_eq_true rfl) ?_
  show AW kX9_earlyOf 0 [some (.inr (.inr 9)), some (.inl p), some (.inl w), none, none, none, none] [] μ _
  have hpe := pPe_in (tx := tx) hn.1
  have hta := pTa_in (tx := tx) hn.1
  refine s_aload_0 (pc := 0) dX9_earlyOf_0 ?_
  refine cV0v (pc := 1) (Ky := kX9_tries) dX9_earlyOf_1 rfl lnX9_194 okX9_tries ⟨9, TX9, 40, rfl, rfl⟩ ⟨Nat.le_of_ble_eq_true rfl, Nat.le_of_ble_eq_true rfl⟩ (Nat.le_of_ble_eq_true rfl) (c_X9_tries e43 e122 hn ht e47 e48 hhd hlv) ?_
  rintro ν1 ⟨hF1, hR1, hM1⟩
  have hF1 := FrT.of hF1 hR1
  have hko := cfg_KO hM1.1 (by omega)
  have e57a : ν1 57 = wt := (hF1.fn 57 rfl).trans e57
  have hws := wt_sum hwt
  refine s_aload_0 (pc := 4) dX9_earlyOf_4 ?_
  refine cV0i (pc := 5) (Ky := kX9_allWeights) dX9_earlyOf_5 rfl lnX9_308 okX9_allWeights ⟨9, TX9, 40, rfl, rfl⟩ ⟨Nat.le_of_ble_eq_true rfl, Nat.le_of_ble_eq_true rfl⟩ (Nat.le_of_ble_eq_true rfl) (c_X9_allWeights) ?_
  rintro _ _ ⟨rfl, rfl⟩
  rw [e57a]
  refine s_if_ne (pc := 8) 17 dX9_earlyOf_8 rfl (by omega) (fun h8 => ?_) (fun h8 => ?_)
  · refine s_lconst_0 (pc := 17) dX9_earlyOf_17 ?_
    refine s_lstore_3 (pc := 18) dX9_earlyOf_18 (Nat.le_of_ble_eq_true rfl) rfl ?_
    refine s_iconst_0 (pc := 19) dX9_earlyOf_19 ?_
    refine s_istore_5 (pc := 20) dX9_earlyOf_20 (Nat.le_of_ble_eq_true rfl) rfl ?_
    have := lp_X9_earlyOf (μ := ν1) hko (p := p) hp hw e57a hwt (by omega) 6 0 ν1 (by omega) (by omega) Fr.rf hM1 (by omega)
    refine AW.mono this ?_
    rintro r ν ⟨z, rfl, rfl, hF2⟩
    exact ⟨_, rfl, by rw [erl, if_neg (by omega)], (hF1.mono (by decide)).tr (hF2.mono (by decide))⟩
  · refine s_bipush (pc := 11) (z := -3) dX9_earlyOf_11 rfl ?_
    refine cS1l (pc := 13) (Ky := kX9_no) dX9_earlyOf_13 rfl lnX9_251 okX9_no ⟨Nat.le_of_ble_eq_true rfl, Nat.le_of_ble_eq_true rfl⟩ (Nat.le_of_ble_eq_true rfl) (c_X9_no (by omega)) ?_
    rintro _ _ ⟨rfl, rfl⟩
    refine s_lreturn (pc := 16) dX9_earlyOf_16 rfl ?_
    exact ⟨by rw [erl, if_pos (by omega)]; rfl, hF1.mono (by decide)⟩
theorem c_X9_early {tx : Int → Int} {n p w : Int} {hd lv : Int → Int} {wt : Int → Int} {μ : Mem} (h_p : -2147483648 ≤ p ∧ p < 2147483648) (h_w : -2147483648 ≤ w ∧ w < 2147483648) (e57 : μ 57 = wt) (hwt : ∀ k : Int, 0 ≤ k → k < 5 → 0 ≤ wt k ∧ wt k ≤ 9) (e43 : μ 43 = tx) (e122 : μ 122 0 = n) (hn : 0 ≤ n ∧ n ≤ 60) (ht : ∀ k : Int, 0 ≤ k → k < n → 0 ≤ tx k ∧ tx k ≤ 255) (e47 : μ 47 = hd) (e48 : μ 48 = lv) (hhd : ∀ p : Int, 0 ≤ p → p < 4 → 0 ≤ hd p ∧ hd p ≤ 15) (hlv : ∀ p : Int, 0 ≤ p → p < 4 → 0 ≤ lv p ∧ lv p ≤ 4) : Mc kX9_early [.inr (.inr 9), .inl p, .inl w] μ (pL (fun z ν => (if (0 ≤ p ∧ p < pPe tx n) ∧ (0 ≤ w ∧ w ≤ 1) then erl wt (cfg tx n hd lv) p w else -9223372036854775806) = z ∧ Fr [42, 44, 45, 46, 49, 50, 51, 52, 53, 54, 55, 56, 123, 124, 125, 126, 127, 128, 129, 130, 131, 132, 133, 134] μ ν)) := by
  refine Mc_of (by decide +kernel) (fun _ => Nat.le_of_ble_eq_true rfl) ?_
  show AW kX9_early 0 [some (.inr (.inr 9)), some (.inl p), some (.inl w)] [] μ _
  have hpe := pPe_in (tx := tx) hn.1
  have hta := pTa_in (tx := tx) hn.1
  refine s_aload_0 (pc := 0) dX9_early_0 ?_
  refine s_iload_1 (pc := 1) dX9_early_1 ?_
  refine cV1i (pc := 2) (Ky := kX9_isPerson) dX9_early_2 rfl lnX9_158 okX9_isPerson ⟨9, TX9, 40, rfl, rfl⟩ ⟨Nat.le_of_ble_eq_true rfl, Nat.le_of_ble_eq_true rfl⟩ (Nat.le_of_ble_eq_true rfl) (c_X9_isPerson (by omega) e43 e122 hn ht) ?_
  rintro _ ν2 ⟨rfl, hF2, hM2⟩
  refine s_if_eq (pc := 5) 24 dX9_early_5 rfl (by omega) (fun h5 => ?_) (fun h5 => ?_)
  · refine s_bipush (pc := 24) (z := -2) dX9_early_24 rfl ?_
    refine cS1l (pc := 26) (Ky := kX9_no) dX9_early_26 rfl lnX9_251 okX9_no ⟨Nat.le_of_ble_eq_true rfl, Nat.le_of_ble_eq_true rfl⟩ (Nat.le_of_ble_eq_true rfl) (c_X9_no (by omega)) ?_
    rintro _ _ ⟨rfl, rfl⟩
    refine s_lreturn (pc := 29) dX9_early_29 rfl ?_
    first | exact ⟨by rw [if_neg (by omega)]; rfl, hF2.mono (by decide)⟩ | exact ⟨by rw [if_pos (by omega)], (hF2.mono (by decide)).tr hF18.1⟩
  · refine s_iload_2 (pc := 8) dX9_early_8 ?_
    refine cS1i (pc := 9) (Ky := kX9_isTwo) dX9_early_9 rfl lnX9_244 okX9_isTwo ⟨Nat.le_of_ble_eq_true rfl, Nat.le_of_ble_eq_true rfl⟩ (Nat.le_of_ble_eq_true rfl) (c_X9_isTwo (by omega)) ?_
    rintro _ _ ⟨rfl, rfl⟩
    refine s_if_eq (pc := 12) 24 dX9_early_12 rfl (by omega) (fun h12 => ?_) (fun h12 => ?_)
    · refine s_bipush (pc := 24) (z := -2) dX9_early_24 rfl ?_
      refine cS1l (pc := 26) (Ky := kX9_no) dX9_early_26 rfl lnX9_251 okX9_no ⟨Nat.le_of_ble_eq_true rfl, Nat.le_of_ble_eq_true rfl⟩ (Nat.le_of_ble_eq_true rfl) (c_X9_no (by omega)) ?_
      rintro _ _ ⟨rfl, rfl⟩
      refine s_lreturn (pc := 29) dX9_early_29 rfl ?_
      first | exact ⟨by rw [if_neg (by omega)]; rfl, hF2.mono (by decide)⟩ | exact ⟨by rw [if_pos (by omega)], (hF2.mono (by decide)).tr hF18.1⟩
    · refine s_aload_0 (pc := 15) dX9_early_15 ?_
      refine s_iload_1 (pc := 16) dX9_early_16 ?_
      refine s_iload_2 (pc := 17) dX9_early_17 ?_
      refine cV2l (pc := 18) (Ky := kX9_earlyOf) dX9_early_18 rfl lnX9_311 okX9_earlyOf ⟨9, TX9, 40, rfl, rfl⟩ ⟨Nat.le_of_ble_eq_true rfl, Nat.le_of_ble_eq_true rfl⟩ (Nat.le_of_ble_eq_true rfl) (c_X9_earlyOf (tx := tx) (n := n) (hd := hd) (lv := lv) (by omega) (by omega) (by rw [hF2.fn 57 rfl]; exact e57) hwt (by rw [hF2.fn 43 rfl]; exact e43) (by rw [hF2.at 122 rfl 0]; exact e122) hn ht (by rw [hF2.fn 47 rfl]; exact e47) (by rw [hF2.fn 48 rfl]; exact e48) hhd hlv) ?_
      rintro _ ν18 ⟨rfl, hF18⟩
      refine s_goto (pc := 21) 29 dX9_early_21 rfl ?_
      refine s_lreturn (pc := 29) dX9_early_29 rfl ?_
      first | exact ⟨by rw [if_neg (by omega)]; rfl, hF2.mono (by decide)⟩ | exact ⟨by rw [if_pos (by omega)], (hF2.mono (by decide)).tr hF18.1⟩
theorem c_X9_twoOf {tx : Int → Int} {n w : Int} {hd lv : Int → Int} {μ : Mem} (hw : w = 0 ∨ w = 1) (e43 : μ 43 = tx) (e122 : μ 122 0 = n) (hn : 0 ≤ n ∧ n ≤ 60) (ht : ∀ k : Int, 0 ≤ k → k < n → 0 ≤ tx k ∧ tx k ≤ 255) (e47 : μ 47 = hd) (e48 : μ 48 = lv) (hhd : ∀ p : Int, 0 ≤ p → p < 4 → 0 ≤ hd p ∧ hd p ≤ 15) (hlv : ∀ p : Int, 0 ≤ p → p < 4 → 0 ≤ lv p ∧ lv p ≤ 4) : Mc kX9_twoOf [.inr (.inr 9), .inl w] μ (pL (fun z ν => two (cfg tx n hd lv) w = z ∧ FrT tx n [42, 44, 45, 46, 49, 50, 51, 52, 53, 54, 55, 56, 123, 124, 125, 126, 127, 128, 129, 130, 131, 132, 133, 134] μ ν)) := by
  refine Mc_of (by decide +kernel) (fun _ => Nat.le_of_ble_eq_true rfl) ?_
  show AW kX9_twoOf 0 [some (.inr (.inr 9)), some (.inl w), none, none, none, none] [] μ _
  have hpe := pPe_in (tx := tx) hn.1
  have hta := pTa_in (tx := tx) hn.1
  refine s_aload_0 (pc := 0) dX9_twoOf_0 ?_
  refine cV0v (pc := 1) (Ky := kX9_tries) dX9_twoOf_1 rfl lnX9_194 okX9_tries ⟨9, TX9, 40, rfl, rfl⟩ ⟨Nat.le_of_ble_eq_true rfl, Nat.le_of_ble_eq_true rfl⟩ (Nat.le_of_ble_eq_true rfl) (c_X9_tries e43 e122 hn ht e47 e48 hhd hlv) ?_
  rintro ν1 ⟨hF1, hR1, hM1⟩
  have hF1 := FrT.of hF1 hR1
  have c124 : ν1 124 0 = pPe tx n := hR1.1
  have m125 : ν1 125 0 = pTa tx n := hR1.2.1
  refine s_aload_0 (pc := 4) dX9_twoOf_4 ?_
  refine gfX9_126 (pc := 5) dX9_twoOf_5 rfl ?_
  try simp (decide := true) only [wr_s, wr_n, wa_s, wa_n, mg_i, mg_o, if_true, eq_self, reduceIte]
  try rw [m125]
  try rw [m125b]
  try rw [m125c]
  refine s_iconst_2 (pc := 8) dX9_twoOf_8 ?_
  refine s_icmp_eq (pc := 9) 18 dX9_twoOf_9 rfl (by omega) (by omega) (fun h9 => ?_) (fun h9 => ?_)
  · refine s_aload_0 (pc := 18) dX9_twoOf_18 ?_
    refine s_iconst_0 (pc := 19) dX9_twoOf_19 ?_
    refine pfX9_180 (pc := 20) dX9_twoOf_20 rfl ?_
    refine s_aload_0 (pc := 23) dX9_twoOf_23 ?_
    refine s_aload_0 (pc := 24) dX9_twoOf_24 ?_
    refine gfX9_129 (pc := 25) dX9_twoOf_25 rfl ?_
    try simp (decide := true) only [wr_s, wr_n, wa_s, wa_n, mg_i, mg_o, if_true, eq_self, reduceIte]
    try rw [m125]
    try rw [m125b]
    try rw [m125c]
    have hko := cfg_KO hM1.1 (by omega)
    have hMa := hM1.w128 (x := 0) (by omega)
    have hkoa : KO (wr (cfg tx n hd lv) 128 0 0) := ⟨hMa.1, by rw [wr_s, if_pos rfl, wr_n (by decide)]; show (0 : Int) < pPe tx n; omega⟩
    have hMb0 := hko.1.w128 (x := 1) (by omega)
    have hkob : KO (wr (cfg tx n hd lv) 128 0 1) := ⟨hMb0, by rw [wr_s, if_pos rfl, wr_n (by decide)]; show (1 : Int) < pPe tx n; omega⟩
    have hp3 := p3072 (pTa tx n).toNat (by omega)
    have ha := ow_in hkoa (i := (pTa tx n).toNat) (p := 0) (by omega) (by omega) (by rw [wr_n (by decide)]; show (0 : Int) < pPe tx n; omega)
    have hb := ow_in hkob (i := (pTa tx n).toNat) (p := 0) (by omega) (by omega) (by rw [wr_n (by decide)]; show (0 : Int) < pPe tx n; omega)
    refine cV1v (pc := 28) (Ky := kX9_goes) dX9_twoOf_28 rfl lnX9_221 okX9_goes ⟨9, TX9, 40, rfl, rfl⟩ ⟨Nat.le_of_ble_eq_true rfl, Nat.le_of_ble_eq_true rfl⟩ (Nat.le_of_ble_eq_true rfl) (c_X9_goes hMa (by omega)) ?_
    rintro ν28 ⟨hF28, hv28⟩
    have hM28 := hMa.fr hF28 (by decide)
    have m125b : ν28 125 0 = pTa tx n := by have := hM28.2.2.1; rwa [wr_n (by decide)] at this
    have hFa : FrT tx n [42, 44, 45, 46, 49, 50, 51, 52, 53, 54, 55, 56, 123, 124, 125, 126, 127, 128, 129, 130, 131, 132, 133, 134] μ ν28 := ((hF1.mono (by decide)).wr (by decide)).tr (hF28.mono (by decide))
    refine s_aload_0 (pc := 31) dX9_twoOf_31 ?_
    refine gfX9_129 (pc := 32) dX9_twoOf_32 rfl ?_
    try simp (decide := true) only [wr_s, wr_n, wa_s, wa_n, mg_i, mg_o, if_true, eq_self, reduceIte]
    try rw [m125]
    try rw [m125b]
    try rw [m125c]
    refine cS1l (pc := 35) (Ky := kX9_whole) dX9_twoOf_35 rfl lnX9_226 okX9_whole ⟨Nat.le_of_ble_eq_true rfl, Nat.le_of_ble_eq_true rfl⟩ (Nat.le_of_ble_eq_true rfl) (c_X9_whole (by omega)) ?_
    rintro _ _ ⟨rfl, rfl⟩
    refine s_aload_0 (pc := 38) dX9_twoOf_38 ?_
    refine s_iconst_0 (pc := 39) dX9_twoOf_39 ?_
    refine cV1l (pc := 40) (Ky := kX9_partsOf) dX9_twoOf_40 rfl lnX9_237 okX9_partsOf ⟨9, TX9, 40, rfl, rfl⟩ ⟨Nat.le_of_ble_eq_true rfl, Nat.le_of_ble_eq_true rfl⟩ (Nat.le_of_ble_eq_true rfl) (c_X9_partsOf (by omega)) ?_
    rintro _ _ ⟨rfl, rfl⟩
    rw [parts_ow hkoa (m := pTa tx n) (p := 0) (by rw [wr_n (by decide)]; exact ⟨hta.1, Int.le_refl _⟩) (by rw [wr_n (by decide)]; show 0 ≤ 0 ∧ (0 : Int) < pPe tx n; omega) hv28]
    refine s_lsub (pc := 43) dX9_twoOf_43 ?_
    refine s_lstore_2 (pc := 44) dX9_twoOf_44 (Nat.le_of_ble_eq_true rfl) rfl ?_
    refine s_aload_0 (pc := 45) dX9_twoOf_45 ?_
    refine s_iconst_1 (pc := 46) dX9_twoOf_46 ?_
    refine pfX9_180 (pc := 47) dX9_twoOf_47 rfl ?_
    refine s_aload_0 (pc := 50) dX9_twoOf_50 ?_
    refine s_aload_0 (pc := 51) dX9_twoOf_51 ?_
    refine gfX9_129 (pc := 52) dX9_twoOf_52 rfl ?_
    try simp (decide := true) only [wr_s, wr_n, wa_s, wa_n, mg_i, mg_o, if_true, eq_self, reduceIte]
    try rw [m125]
    try rw [m125b]
    try rw [m125c]
    have hMb := hM28.w128 (x := 1) (by omega)
    rw [wr_wr] at hMb
    refine cV1v (pc := 55) (Ky := kX9_goes) dX9_twoOf_55 rfl lnX9_221 okX9_goes ⟨9, TX9, 40, rfl, rfl⟩ ⟨Nat.le_of_ble_eq_true rfl, Nat.le_of_ble_eq_true rfl⟩ (Nat.le_of_ble_eq_true rfl) (c_X9_goes hMb (by omega)) ?_
    rintro ν55 ⟨hF55, hv55⟩
    have hFb : FrT tx n [42, 44, 45, 46, 49, 50, 51, 52, 53, 54, 55, 56, 123, 124, 125, 126, 127, 128, 129, 130, 131, 132, 133, 134] μ ν55 := (hFa.wr (by decide)).tr (hF55.mono (by decide))
    refine s_aload_0 (pc := 58) dX9_twoOf_58 ?_
    refine s_iconst_0 (pc := 59) dX9_twoOf_59 ?_
    refine cV1l (pc := 60) (Ky := kX9_partsOf) dX9_twoOf_60 rfl lnX9_237 okX9_partsOf ⟨9, TX9, 40, rfl, rfl⟩ ⟨Nat.le_of_ble_eq_true rfl, Nat.le_of_ble_eq_true rfl⟩ (Nat.le_of_ble_eq_true rfl) (c_X9_partsOf (by omega)) ?_
    rintro _ _ ⟨rfl, rfl⟩
    rw [parts_ow hkob (m := pTa tx n) (p := 0) (by rw [wr_n (by decide)]; exact ⟨hta.1, Int.le_refl _⟩) (by rw [wr_n (by decide)]; show 0 ≤ 0 ∧ (0 : Int) < pPe tx n; omega) hv55]
    refine s_lstore_4 (pc := 63) dX9_twoOf_63 (Nat.le_of_ble_eq_true rfl) rfl ?_
    refine s_lload_2 (pc := 65) dX9_twoOf_65 ?_
    refine s_lload_4 (pc := 66) dX9_twoOf_66 ?_
    refine s_ladd (pc := 68) dX9_twoOf_68 ?_
    refine s_lconst_0 (pc := 69) dX9_twoOf_69 ?_
    refine s_lif_ne (pc := 70) 82 dX9_twoOf_70 dX9_twoOf_71 rfl (by omega) (by omega) (fun h71 => ?_) (fun h71 => ?_)
    · refine s_lload_4 (pc := 82) dX9_twoOf_82 ?_
      refine s_lload_2 (pc := 84) dX9_twoOf_84 ?_
      refine s_lload_4 (pc := 85) dX9_twoOf_85 ?_
      refine s_ladd (pc := 87) dX9_twoOf_87 ?_
      refine s_iload_1 (pc := 88) dX9_twoOf_88 ?_
      refine cS3l (pc := 89) (Ky := kX9_part) dX9_twoOf_89 rfl lnX9_240 okX9_part ⟨Nat.le_of_ble_eq_true rfl, Nat.le_of_ble_eq_true rfl⟩ (Nat.le_of_ble_eq_true rfl) (c_X9_part hw (by omega) (by omega)) ?_
      rintro _ _ ⟨rfl, rfl⟩
      refine s_lreturn (pc := 92) dX9_twoOf_92 rfl ?_
      have q1 : (cfg tx n hd lv) 129 0 = pPe tx n := rfl
      have q2 : twA (cfg tx n hd lv) = 3072 ^ (pTa tx n).toNat - ow (wr (cfg tx n hd lv) 128 0 0) (pTa tx n).toNat 0 := rfl
      have q3 : twB (cfg tx n hd lv) = ow (wr (cfg tx n hd lv) 128 0 1) (pTa tx n).toNat 0 := rfl
      first
        | exact ⟨by rw [two, if_pos (by omega)]; rfl, hF1.mono (by decide)⟩
        | exact ⟨by rw [two, if_pos (by omega)]; rfl, hFb⟩
        | exact ⟨by rw [two, if_neg (by omega), q2, q3], hFb⟩
    · refine s_bipush (pc := 74) (z := -3) dX9_twoOf_74 rfl ?_
      refine cS1l (pc := 76) (Ky := kX9_no) dX9_twoOf_76 rfl lnX9_251 okX9_no ⟨Nat.le_of_ble_eq_true rfl, Nat.le_of_ble_eq_true rfl⟩ (Nat.le_of_ble_eq_true rfl) (c_X9_no (by omega)) ?_
      rintro _ _ ⟨rfl, rfl⟩
      refine s_goto (pc := 79) 92 dX9_twoOf_79 rfl ?_
      refine s_lreturn (pc := 92) dX9_twoOf_92 rfl ?_
      have q1 : (cfg tx n hd lv) 129 0 = pPe tx n := rfl
      have q2 : twA (cfg tx n hd lv) = 3072 ^ (pTa tx n).toNat - ow (wr (cfg tx n hd lv) 128 0 0) (pTa tx n).toNat 0 := rfl
      have q3 : twB (cfg tx n hd lv) = ow (wr (cfg tx n hd lv) 128 0 1) (pTa tx n).toNat 0 := rfl
      first
        | exact ⟨by rw [two, if_pos (by omega)]; rfl, hF1.mono (by decide)⟩
        | exact ⟨by rw [two, if_pos (by omega)]; rfl, hFb⟩
        | exact ⟨by rw [two, if_neg (by omega), q2, q3], hFb⟩
  · refine s_bipush (pc := 12) (z := -3) dX9_twoOf_12 rfl ?_
    refine cS1l (pc := 14) (Ky := kX9_no) dX9_twoOf_14 rfl lnX9_251 okX9_no ⟨Nat.le_of_ble_eq_true rfl, Nat.le_of_ble_eq_true rfl⟩ (Nat.le_of_ble_eq_true rfl) (c_X9_no (by omega)) ?_
    rintro _ _ ⟨rfl, rfl⟩
    refine s_lreturn (pc := 17) dX9_twoOf_17 rfl ?_
    have q1 : (cfg tx n hd lv) 129 0 = pPe tx n := rfl
    have q2 : twA (cfg tx n hd lv) = 3072 ^ (pTa tx n).toNat - ow (wr (cfg tx n hd lv) 128 0 0) (pTa tx n).toNat 0 := rfl
    have q3 : twB (cfg tx n hd lv) = ow (wr (cfg tx n hd lv) 128 0 1) (pTa tx n).toNat 0 := rfl
    first
      | exact ⟨by rw [two, if_pos (by omega)]; rfl, hF1.mono (by decide)⟩
      | exact ⟨by rw [two, if_pos (by omega)]; rfl, hFb⟩
      | exact ⟨by rw [two, if_neg (by omega), q2, q3], hFb⟩
theorem c_X9_two {tx : Int → Int} {n w : Int} {hd lv : Int → Int} {μ : Mem} (h_w : -2147483648 ≤ w ∧ w < 2147483648) (e43 : μ 43 = tx) (e122 : μ 122 0 = n) (hn : 0 ≤ n ∧ n ≤ 60) (ht : ∀ k : Int, 0 ≤ k → k < n → 0 ≤ tx k ∧ tx k ≤ 255) (e47 : μ 47 = hd) (e48 : μ 48 = lv) (hhd : ∀ p : Int, 0 ≤ p → p < 4 → 0 ≤ hd p ∧ hd p ≤ 15) (hlv : ∀ p : Int, 0 ≤ p → p < 4 → 0 ≤ lv p ∧ lv p ≤ 4) : Mc kX9_two [.inr (.inr 9), .inl w] μ (pL (fun z ν => (if 0 ≤ w ∧ w ≤ 1 then two (cfg tx n hd lv) w else -9223372036854775806) = z ∧ Fr [42, 44, 45, 46, 49, 50, 51, 52, 53, 54, 55, 56, 123, 124, 125, 126, 127, 128, 129, 130, 131, 132, 133, 134] μ ν)) := by
  refine Mc_of (by decide +kernel) (fun _ => Nat.le_of_ble_eq_true rfl) ?_
  show AW kX9_two 0 [some (.inr (.inr 9)), some (.inl w)] [] μ _
  have hpe := pPe_in (tx := tx) hn.1
  have hta := pTa_in (tx := tx) hn.1
  refine s_iload_1 (pc := 0) dX9_two_0 ?_
  refine cS1i (pc := 1) (Ky := kX9_isTwo) dX9_two_1 rfl lnX9_244 okX9_isTwo ⟨Nat.le_of_ble_eq_true rfl, Nat.le_of_ble_eq_true rfl⟩ (Nat.le_of_ble_eq_true rfl) (c_X9_isTwo (by omega)) ?_
  rintro _ _ ⟨rfl, rfl⟩
  refine s_if_eq (pc := 4) 15 dX9_two_4 rfl (by omega) (fun h4 => ?_) (fun h4 => ?_)
  · refine s_bipush (pc := 15) (z := -2) dX9_two_15 rfl ?_
    refine cS1l (pc := 17) (Ky := kX9_no) dX9_two_17 rfl lnX9_251 okX9_no ⟨Nat.le_of_ble_eq_true rfl, Nat.le_of_ble_eq_true rfl⟩ (Nat.le_of_ble_eq_true rfl) (c_X9_no (by omega)) ?_
    rintro _ _ ⟨rfl, rfl⟩
    refine s_lreturn (pc := 20) dX9_two_20 rfl ?_
    first | exact ⟨by rw [if_neg (by omega)]; rfl, Fr.rf⟩ | exact ⟨by rw [if_pos (by omega)], hF9.1⟩
  · refine s_aload_0 (pc := 7) dX9_two_7 ?_
    refine s_iload_1 (pc := 8) dX9_two_8 ?_
    refine cV1l (pc := 9) (Ky := kX9_twoOf) dX9_two_9 rfl lnX9_314 okX9_twoOf ⟨9, TX9, 40, rfl, rfl⟩ ⟨Nat.le_of_ble_eq_true rfl, Nat.le_of_ble_eq_true rfl⟩ (Nat.le_of_ble_eq_true rfl) (c_X9_twoOf (tx := tx) (n := n) (hd := hd) (lv := lv) (by omega) e43 e122 hn ht e47 e48 hhd hlv) ?_
    rintro _ ν9 ⟨rfl, hF9⟩
    refine s_goto (pc := 12) 20 dX9_two_12 rfl ?_
    refine s_lreturn (pc := 20) dX9_two_20 rfl ?_
    first | exact ⟨by rw [if_neg (by omega)]; rfl, Fr.rf⟩ | exact ⟨by rw [if_pos (by omega)], hF9.1⟩
