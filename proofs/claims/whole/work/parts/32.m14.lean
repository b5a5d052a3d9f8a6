def feeF (κ : Mem) (p i : Int) : Int := if bt (κ 49 p) i = 1 ∧ i < κ 50 p then κ 44 (4 * p + 1) else 0
def feeN (κ : Mem) (p : Int) (m : Nat) : Int := (if κ 50 p < κ 125 0 then κ 44 (4 * p + 2) else 0) + sm (feeF κ p) m
theorem feeN_fees {κ : Mem} {p : Int} : feeN κ p (κ 125 0).toNat = fees κ p := rfl
theorem gcd_st {x y : Int} (hx : 0 ≤ x) (hy : 0 ≤ y) : Int.gcd y (x % y) = Int.gcd x y := by
  obtain ⟨m, rfl⟩ := Int.eq_ofNat_of_zero_le hx
  obtain ⟨n, rfl⟩ := Int.eq_ofNat_of_zero_le hy
  rw [← Int.natCast_emod]
  show Nat.gcd n (m % n) = Nat.gcd m n
  rw [Nat.gcd_comm m n, Nat.gcd_comm n (m % n), ← Nat.gcd_rec]
/-- a fraction in lowest terms: above (0), below (1) -/
def frc (a b w : Int) : Int := (if w = 0 then a else b).tdiv (Int.gcd a b)
theorem frc_mul {a b c w : Int} (hc : 0 < c) : frc (a * c) (b * c) w = frc a b w := by
  unfold frc
  rw [Int.gcd_mul_right, Int.natCast_mul, show ((c.natAbs : Nat) : Int) = c by omega]
  have h1 : (if w = 0 then a * c else b * c) = (if w = 0 then a else b) * c := by split <;> rfl
  rw [h1, Int.mul_comm _ c, Int.mul_comm _ c, Int.mul_tdiv_mul_of_pos _ _ hc]
theorem lp_X9_costNow {κ : Mem} {p : Int} {μ : Mem} (hM : MR κ μ) (ho : κ 128 0 < κ 129 0) (hp : 0 ≤ p ∧ p < κ 129 0) (hp2 : p < κ 124 0) : ∀ (f : Nat) (i : Int), (0 ≤ i) → (i ≤ κ 125 0) → (0 ≤ feeN κ p i.toNat ∧ feeN κ p i.toNat ≤ 9 + 9 * i) → κ 125 0 - i < (f : Int) → AW kX9_costNow 30 [some (.inr (.inr 9)), some (.inl p), some (.inl (feeN κ p i.toNat)), some (.inl i)] [] μ (pL (fun z ν => cst κ p * sc κ = z ∧ Fr [53, 54] μ ν)) := by
  intro f
  induction f with
  | zero =>
    intro i h0 h1 hc hm
    exfalso; omega
  | succ f ih =>
    intro i h0 h1 hc hm
    have hkr := hM.1
    obtain ⟨⟨r129, r125, r126, r127, r128, r130, rP, r124, r44⟩, m129, m125, m126, m127, m128, m130, mP, m124, m44⟩ := id hM
    obtain ⟨m49, m50, m51, m52⟩ := mP p hp.1 (by omega)
    obtain ⟨r49, r50, r51, r52⟩ := rP p hp.1 (by omega)
    have n1 := m44 (4 * p + 1) (by omega) (by omega)
    have n2 := m44 (4 * p + 2) (by omega) (by omega)
    have n3 := m44 (4 * p + 3) (by omega) (by omega)
    have s1 := r44 (4 * p + 1) (by omega) (by omega)
    have s2 := r44 (4 * p + 2) (by omega) (by omega)
    have s3 := r44 (4 * p + 3) (by omega) (by omega)
    have hs : feeN κ p (i + 1).toNat = feeN κ p i.toNat + feeF κ p i := by unfold feeN; rw [sm_succ h0]; omega
    refine s_iload_3 (pc := 30) dX9_costNow_30 ?_
    refine s_aload_0 (pc := 31) dX9_costNow_31 ?_
    refine gfX9_129 (pc := 32) dX9_costNow_32 rfl ?_
    refine s_icmp_ge (pc := 35) 85 dX9_costNow_35 rfl (by omega) (by omega) (fun h35 => ?_) (fun h35 => ?_)
    · refine s_aload_0 (pc := 85) dX9_costNow_85 ?_
      refine gfX9_25 (pc := 86) dX9_costNow_86 rfl ?_
      refine s_iconst_4 (pc := 89) dX9_costNow_89 ?_
      refine s_iload_1 (pc := 90) dX9_costNow_90 ?_
      refine s_imul (pc := 91) dX9_costNow_91 ?_
      refine s_iconst_3 (pc := 92) dX9_costNow_92 ?_
      refine s_iadd (pc := 93) dX9_costNow_93 ?_
      refine z_iaload (pc := 94) dX9_costNow_94 ly_44 (by omega) (by omega) ?_
      refine s_i2l (pc := 95) dX9_costNow_95 (by omega) ?_
      refine s_aload_0 (pc := 96) dX9_costNow_96 ?_
      refine s_iload_1 (pc := 97) dX9_costNow_97 ?_
      refine cV1l (pc := 98) (Ky := kX9_amountNow) dX9_costNow_98 rfl lnX9_230 okX9_amountNow ⟨9, TX9, 40, rfl, rfl⟩ ⟨Nat.le_of_ble_eq_true rfl, Nat.le_of_ble_eq_true rfl⟩ (Nat.le_of_ble_eq_true rfl) (c_X9_amountNow hM ho hp) ?_
      rintro _ ν98 ⟨rfl, hF98⟩
      have hF2 := hM.fr hF98 (by decide)
      refine s_lmul (pc := 101) dX9_costNow_101 ?_
      refine s_iload_2 (pc := 102) dX9_costNow_102 ?_
      refine s_i2l (pc := 103) dX9_costNow_103 (by omega) ?_
      refine s_aload_0 (pc := 104) dX9_costNow_104 ?_
      refine cV0l (pc := 105) (Ky := kX9_all) dX9_costNow_105 rfl lnX9_233 okX9_all ⟨9, TX9, 40, rfl, rfl⟩ ⟨Nat.le_of_ble_eq_true rfl, Nat.le_of_ble_eq_true rfl⟩ (Nat.le_of_ble_eq_true rfl) (c_X9_all hF2) ?_
      rintro _ _ ⟨rfl, rfl⟩
      refine s_lmul (pc := 108) dX9_costNow_108 ?_
      refine s_ladd (pc := 109) dX9_costNow_109 ?_
      refine s_lreturn (pc := 110) dX9_costNow_110 rfl ?_
      cases (show i = κ 125 0 by omega)
      refine ⟨?_, hF98⟩
      rw [n3, feeN_fees, cst, Int.add_mul, Int.mul_assoc, Int.mul_assoc]
    · refine s_iload_2 (pc := 38) dX9_costNow_38 ?_
      refine s_aload_0 (pc := 39) dX9_costNow_39 ?_
      refine gfX9_40 (pc := 40) dX9_costNow_40 rfl ?_
      refine s_iload_1 (pc := 43) dX9_costNow_43 ?_
      refine z_iaload (pc := 44) dX9_costNow_44 ly_49 (by omega) (by omega) ?_
      refine s_iload_3 (pc := 45) dX9_costNow_45 ?_
      refine s_ishr (pc := 46) dX9_costNow_46 ?_
      refine s_iconst_1 (pc := 47) dX9_costNow_47 ?_
      refine s_iand (pc := 48) dX9_costNow_48 ?_
      rw [shr_bt (by omega) (by omega)]
      have hbt := bt_in (b := μ 49 p) (k := i)
      refine s_iconst_1 (pc := 49) dX9_costNow_49 ?_
      refine s_icmp_ne (pc := 50) 76 dX9_costNow_50 rfl (by omega) (by omega) (fun h50 => ?_) (fun h50 => ?_)
      · refine s_iconst_0 (pc := 76) dX9_costNow_76 ?_
        refine s_iadd (pc := 77) dX9_costNow_77 ?_
        refine s_valI (y := feeN κ p (i + 1).toNat) ?_ ?_
        · rw [hs, feeF]
          first
            | (rw [if_neg (fun q => by rw [← m49] at q; omega)]; done)
            | (rw [if_pos ⟨by rw [← m49]; omega, by omega⟩, n1]; done)
        refine s_istore_2 (pc := 78) dX9_costNow_78 (Nat.le_of_ble_eq_true rfl) rfl ?_
        refine s_iinc_3 (pc := 79) dX9_costNow_79 (Nat.le_of_ble_eq_true rfl) rfl ?_
        refine s_goto (pc := 82) 30 dX9_costNow_82 rfl ?_
        have hf : 0 ≤ feeF κ p i ∧ feeF κ p i ≤ 9 := by unfold feeF; split <;> omega
        exact ih (i + 1) (by omega) (by omega) (by omega) (by omega)
      · refine s_aload_0 (pc := 53) dX9_costNow_53 ?_
        refine gfX9_43 (pc := 54) dX9_costNow_54 rfl ?_
        refine s_iload_1 (pc := 57) dX9_costNow_57 ?_
        refine z_iaload (pc := 58) dX9_costNow_58 ly_50 (by omega) (by omega) ?_
        refine s_iload_3 (pc := 59) dX9_costNow_59 ?_
        refine s_icmp_le (pc := 60) 76 dX9_costNow_60 rfl (by omega) (by omega) (fun h60 => ?_) (fun h60 => ?_)
        · refine s_iconst_0 (pc := 76) dX9_costNow_76 ?_
          refine s_iadd (pc := 77) dX9_costNow_77 ?_
          refine s_valI (y := feeN κ p (i + 1).toNat) ?_ ?_
          · rw [hs, feeF]
            first
              | (rw [if_neg (fun q => by rw [← m49] at q; omega)]; done)
              | (rw [if_pos ⟨by rw [← m49]; omega, by omega⟩, n1]; done)
          refine s_istore_2 (pc := 78) dX9_costNow_78 (Nat.le_of_ble_eq_true rfl) rfl ?_
          refine s_iinc_3 (pc := 79) dX9_costNow_79 (Nat.le_of_ble_eq_true rfl) rfl ?_
          refine s_goto (pc := 82) 30 dX9_costNow_82 rfl ?_
          have hf : 0 ≤ feeF κ p i ∧ feeF κ p i ≤ 9 := by unfold feeF; split <;> omega
          exact ih (i + 1) (by omega) (by omega) (by omega) (by omega)
        · refine s_aload_0 (pc := 63) dX9_costNow_63 ?_
          refine gfX9_25 (pc := 64) dX9_costNow_64 rfl ?_
          refine s_iconst_4 (pc := 67) dX9_costNow_67 ?_
          refine s_iload_1 (pc := 68) dX9_costNow_68 ?_
          refine s_imul (pc := 69) dX9_costNow_69 ?_
          refine s_iconst_1 (pc := 70) dX9_costNow_70 ?_
          refine s_iadd (pc := 71) dX9_costNow_71 ?_
          refine z_iaload (pc := 72) dX9_costNow_72 ly_44 (by omega) (by omega) ?_
          refine s_goto (pc := 73) 77 dX9_costNow_73 rfl ?_
          refine s_iadd (pc := 77) dX9_costNow_77 ?_
          refine s_valI (y := feeN κ p (i + 1).toNat) ?_ ?_
          · rw [hs, feeF]
            first
              | (rw [if_neg (fun q => by rw [← m49] at q; omega)]; done)
              | (rw [if_pos ⟨by rw [← m49]; omega, by omega⟩, n1]; done)
          refine s_istore_2 (pc := 78) dX9_costNow_78 (Nat.le_of_ble_eq_true rfl) rfl ?_
          refine s_iinc_3 (pc := 79) dX9_costNow_79 (Nat.le_of_ble_eq_true rfl) rfl ?_
          refine s_goto (pc := 82) 30 dX9_costNow_82 rfl ?_
          have hf : 0 ≤ feeF κ p i ∧ feeF κ p i ≤ 9 := by unfold feeF; split <;> omega
          exact ih (i + 1) (by omega) (by omega) (by omega) (by omega)
theorem c_X9_costNow {κ : Mem} {p : Int} {μ : Mem} (hM : MR κ μ) (ho : κ 128 0 < κ 129 0) (hp : 0 ≤ p ∧ p < κ 129 0) (hp2 : p < κ 124 0) : Mc kX9_costNow [.inr (.inr 9), .inl p] μ (pL (fun z ν => cst κ p * sc κ = z ∧ Fr [53, 54] μ ν)) := by
  refine Mc_of (by decide +kernel) (fun _ => Nat.le_of_ble_eq_true rfl) ?_
  show AW kX9_costNow 0 [some (.inr (.inr 9)), some (.inl p), none, none] [] μ _
  have hkr := hM.1
  obtain ⟨⟨r129, r125, r126, r127, r128, r130, rP, r124, r44⟩, m129, m125, m126, m127, m128, m130, mP, m124, m44⟩ := id hM
  obtain ⟨m49, m50, m51, m52⟩ := mP p hp.1 (by omega)
  obtain ⟨r49, r50, r51, r52⟩ := rP p hp.1 (by omega)
  have n1 := m44 (4 * p + 1) (by omega) (by omega)
  have n2 := m44 (4 * p + 2) (by omega) (by omega)
  have n3 := m44 (4 * p + 3) (by omega) (by omega)
  have s1 := r44 (4 * p + 1) (by omega) (by omega)
  have s2 := r44 (4 * p + 2) (by omega) (by omega)
  have s3 := r44 (4 * p + 3) (by omega) (by omega)
  refine s_aload_0 (pc := 0) dX9_costNow_0 ?_
  refine gfX9_43 (pc := 1) dX9_costNow_1 rfl ?_
  refine s_iload_1 (pc := 4) dX9_costNow_4 ?_
  refine z_iaload (pc := 5) dX9_costNow_5 ly_50 (by omega) (by omega) ?_
  refine s_aload_0 (pc := 6) dX9_costNow_6 ?_
  refine gfX9_129 (pc := 7) dX9_costNow_7 rfl ?_
  refine s_icmp_ge (pc := 10) 26 dX9_costNow_10 rfl (by omega) (by omega) (fun h10 => ?_) (fun h10 => ?_)
  · refine s_iconst_0 (pc := 26) dX9_costNow_26 ?_
    refine s_valI (y := feeN κ p (0 : Int).toNat) ?_ ?_
    · show _ = (if κ 50 p < κ 125 0 then κ 44 (4 * p + 2) else 0) + 0
      first | (rw [if_pos (by omega)]; omega) | (rw [if_neg (by omega)]; omega)
    refine s_istore_2 (pc := 27) dX9_costNow_27 (Nat.le_of_ble_eq_true rfl) rfl ?_
    refine s_iconst_0 (pc := 28) dX9_costNow_28 ?_
    refine s_istore_3 (pc := 29) dX9_costNow_29 (Nat.le_of_ble_eq_true rfl) rfl ?_
    exact lp_X9_costNow hM ho hp hp2 5 0 (by omega) (by omega) (by
      show 0 ≤ (if κ 50 p < κ 125 0 then κ 44 (4 * p + 2) else 0) + 0 ∧ (if κ 50 p < κ 125 0 then κ 44 (4 * p + 2) else 0) + 0 ≤ 9 + 9 * 0
      split <;> omega) (by omega)
  · refine s_aload_0 (pc := 13) dX9_costNow_13 ?_
    refine gfX9_25 (pc := 14) dX9_costNow_14 rfl ?_
    refine s_iconst_4 (pc := 17) dX9_costNow_17 ?_
    refine s_iload_1 (pc := 18) dX9_costNow_18 ?_
    refine s_imul (pc := 19) dX9_costNow_19 ?_
    refine s_iconst_2 (pc := 20) dX9_costNow_20 ?_
    refine s_iadd (pc := 21) dX9_costNow_21 ?_
    refine z_iaload (pc := 22) dX9_costNow_22 ly_44 (by omega) (by omega) ?_
    refine s_goto (pc := 23) 27 dX9_costNow_23 rfl ?_
    refine s_valI (y := feeN κ p (0 : Int).toNat) ?_ ?_
    · show _ = (if κ 50 p < κ 125 0 then κ 44 (4 * p + 2) else 0) + 0
      first | (rw [if_pos (by omega)]; omega) | (rw [if_neg (by omega)]; omega)
    refine s_istore_2 (pc := 27) dX9_costNow_27 (Nat.le_of_ble_eq_true rfl) rfl ?_
    refine s_iconst_0 (pc := 28) dX9_costNow_28 ?_
    refine s_istore_3 (pc := 29) dX9_costNow_29 (Nat.le_of_ble_eq_true rfl) rfl ?_
    exact lp_X9_costNow hM ho hp hp2 5 0 (by omega) (by omega) (by
      show 0 ≤ (if κ 50 p < κ 125 0 then κ 44 (4 * p + 2) else 0) + 0 ∧ (if κ 50 p < κ 125 0 then κ 44 (4 * p + 2) else 0) + 0 ≤ 9 + 9 * 0
      split <;> omega) (by omega)
theorem lp_X9_part {a b w : Int} {μ : Mem} (hw : w = 0 ∨ w = 1) (ha : -9223372036854775808 < a ∧ a < 9223372036854775808) (hb : 0 < b ∧ b < 9223372036854775808) : ∀ (f : Nat) (x y : Int), (0 ≤ x ∧ x < 9223372036854775808) → (0 ≤ y ∧ y < 9223372036854775808) → (Int.gcd x y = Int.gcd a b) → y < (f : Int) → AW kX9_part 17 [some (.inr (.inl a)), none, some (.inr (.inl b)), none, some (.inl w), some (.inr (.inl x)), none, some (.inr (.inl y)), none, none, none] [] μ (pL (fun z ν => frc a b w = z ∧ μ = ν)) := by
  intro f
  induction f with
  | zero =>
    intro x y h0 h1 hg hm
    exfalso; omega
  | succ f ih =>
    intro x y h0 h1 hg hm
    refine s_lload_7 (pc := 17) dX9_part_17 ?_
    refine s_lconst_0 (pc := 19) dX9_part_19 ?_
    refine s_lif_eq (pc := 20) 42 dX9_part_20 dX9_part_21 rfl (by omega) (by omega) (fun h21 => ?_) (fun h21 => ?_)
    · have hy0 : y = 0 := by omega
      rw [hy0, Int.gcd_zero_right] at hg
      have hx : x = (Int.gcd a b : Int) := by rw [← hg]; omega
      have hgp : 0 < Int.gcd a b := Int.gcd_pos_of_ne_zero_right a (by omega)
      refine s_iload_4 (pc := 42) dX9_part_42 ?_
      refine s_if_ne (pc := 44) 51 dX9_part_44 rfl (by omega) (fun h44 => ?_) (fun h44 => ?_)
      · refine s_lload_2 (pc := 51) dX9_part_51 ?_
        refine s_lload_5 (pc := 52) dX9_part_52 ?_
        refine s_ldiv (pc := 54) dX9_part_54 (by omega) (by omega) ?_
        refine s_lreturn (pc := 55) dX9_part_55 rfl ?_
        refine ⟨?_, rfl⟩
        rw [frc, ← hx]
        first | rw [if_pos (by omega)] | rw [if_neg (by omega)]
      · refine s_lload_0 (pc := 47) dX9_part_47 ?_
        refine s_goto (pc := 48) 52 dX9_part_48 rfl ?_
        refine s_lload_5 (pc := 52) dX9_part_52 ?_
        refine s_ldiv (pc := 54) dX9_part_54 (by omega) (by omega) ?_
        refine s_lreturn (pc := 55) dX9_part_55 rfl ?_
        refine ⟨?_, rfl⟩
        rw [frc, ← hx]
        first | rw [if_pos (by omega)] | rw [if_neg (by omega)]
    · refine s_lload_5 (pc := 24) dX9_part_24 ?_
      refine s_lload_7 (pc := 26) dX9_part_26 ?_
      refine s_lrem (pc := 28) dX9_part_28 (by omega) (by omega) ?_
      rw [Int.tmod_eq_emod_of_nonneg h0.1]
      have hm1 := Int.emod_nonneg x (show y ≠ 0 by omega)
      have hm2 := Int.emod_lt_of_pos x (show 0 < y by omega)
      refine s_lstore_9 (pc := 29) dX9_part_29 (Nat.le_of_ble_eq_true rfl) rfl ?_
      refine s_lload_7 (pc := 31) dX9_part_31 ?_
      refine s_lstore_5 (pc := 33) dX9_part_33 (Nat.le_of_ble_eq_true rfl) rfl ?_
      refine s_lload_9 (pc := 35) dX9_part_35 ?_
      refine s_lstore_7 (pc := 37) dX9_part_37 (Nat.le_of_ble_eq_true rfl) rfl ?_
      refine s_goto (pc := 39) 17 dX9_part_39 rfl ?_
      refine s_le ?_ (ih y (x % y) (by omega) (by omega) (by rw [gcd_st h0.1 h1.1]; exact hg) (by omega))
      exact ⟨Or.inr rfl, Or.inl rfl, Or.inr rfl, Or.inl rfl, Or.inr rfl, Or.inr rfl, Or.inl rfl, Or.inr rfl, Or.inl rfl, Or.inl rfl, Or.inl rfl, trivial⟩
theorem c_X9_part {a b w : Int} {μ : Mem} (hw : w = 0 ∨ w = 1) (ha : -9223372036854775808 < a ∧ a < 9223372036854775808) (hb : 0 < b ∧ b < 9223372036854775808) : Mc kX9_part [.inr (.inl a), .inr (.inl b), .inl w] μ (pL (fun z ν => frc a b w = z ∧ μ = ν)) := by
  refine Mc_of (by decide +kernel) (fun _ => Nat.le_of_ble_eq_true rfl) ?_
  show AW kX9_part 0 [some (.inr (.inl a)), none, some (.inr (.inl b)), none, some (.inl w), none, none, none, none, none, none] [] μ _
  refine s_lload_0 (pc := 0) dX9_part_0 ?_
  refine s_lconst_0 (pc := 1) dX9_part_1 ?_
  refine s_lif_ge (pc := 2) 11 dX9_part_2 dX9_part_3 rfl (by omega) (by omega) (fun h3 => ?_) (fun h3 => ?_)
  · refine s_lload_0 (pc := 11) dX9_part_11 ?_
    refine s_lstore_5 (pc := 12) dX9_part_12 (Nat.le_of_ble_eq_true rfl) rfl ?_
    refine s_lload_2 (pc := 14) dX9_part_14 ?_
    refine s_lstore_7 (pc := 15) dX9_part_15 (Nat.le_of_ble_eq_true rfl) rfl ?_
    exact lp_X9_part hw ha hb (b.toNat + 1) _ b (by omega) (by omega) (by first | rfl | exact Int.gcd_neg_left ..| exact Int.neg_gcd) (by omega)
  · refine s_lload_0 (pc := 6) dX9_part_6 ?_
    refine s_lneg (pc := 7) dX9_part_7 ?_
    refine s_goto (pc := 8) 12 dX9_part_8 rfl ?_
    refine s_lstore_5 (pc := 12) dX9_part_12 (Nat.le_of_ble_eq_true rfl) rfl ?_
    refine s_lload_2 (pc := 14) dX9_part_14 ?_
    refine s_lstore_7 (pc := 15) dX9_part_15 (Nat.le_of_ble_eq_true rfl) rfl ?_
    exact lp_X9_part hw ha hb (b.toNat + 1) _ b (by omega) (by omega) (by first | rfl | exact Int.gcd_neg_left ..| exact Int.neg_gcd) (by omega)
