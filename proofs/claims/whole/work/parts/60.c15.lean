/-! ===== a share in lowest terms ===== -/
theorem euc_mul {x y : Int} (hy : 0 < y) (hyx : y < x) : 2 * (y * (x % y)) ≤ x * y := by
  have h1 := Int.emod_add_mul_ediv x y
  have h2 := Int.emod_nonneg x (show y ≠ 0 by omega)
  have h3 := Int.emod_lt_of_pos x hy
  have h4 : 1 ≤ x / y := (Int.le_ediv_iff_mul_le hy).mpr (by omega)
  have h5 : y * 1 ≤ y * (x / y) := Int.mul_le_mul_of_nonneg_left h4 (by omega)
  have h6 : 2 * (x % y) ≤ x := by omega
  have h7 : y * (2 * (x % y)) ≤ y * x := Int.mul_le_mul_of_nonneg_left h6 (by omega)
  rw [Int.mul_comm x y]
  rw [← Int.mul_assoc, Int.mul_comm 2 y, Int.mul_assoc]
  exact h7
theorem p2_le {s : Int} (h : 1 ≤ s) (h2 : s ≤ 126) : (2 : Int) ^ (127 - s).toNat = 2 * 2 ^ (127 - (s + 1)).toNat := by
  rw [show (127 - s).toNat = (127 - (s + 1)).toNat + 1 by omega, Int.pow_succ, Int.mul_comm]
theorem p2_hi {s : Int} (h : 127 ≤ s) : (2 : Int) ^ (127 - s).toNat = 1 := by
  rw [show (127 - s).toNat = 0 by omega]; rfl
theorem euc_in {s x y : Int} (h1 : 1 ≤ s) (hy : 0 < y) (hyx : y < x) (hb : x * y < 2 ^ (127 - s).toNat) : s ≤ 126 ∧ y * (x % y) < 2 ^ (127 - (s + 1)).toNat := by
  have hp : 1 * 1 ≤ x * y := Int.mul_le_mul (by omega) (by omega) (by omega) (by omega)
  have hs : s ≤ 126 := Decidable.byContradiction fun q => by rw [p2_hi (by omega)] at hb; omega
  refine ⟨hs, ?_⟩
  rw [p2_le h1 hs] at hb
  have := euc_mul hy hyx
  omega
theorem euc_first {x y : Int} (hx : 0 ≤ x ∧ x < 9223372036854775808) (hy : 0 < y ∧ y < 9223372036854775808) : x % y < y ∧ y * (x % y) < 2 ^ (127 - (0 + 1) : Int).toNat := by
  have h2 := Int.emod_nonneg x (show y ≠ 0 by omega)
  have h3 := Int.emod_lt_of_pos x hy.1
  refine ⟨h3, ?_⟩
  have h4 : y * (x % y) ≤ 9223372036854775808 * 9223372036854775807 := Int.mul_le_mul (by omega) (by omega) h2 (by omega)
  have h5 : (2 : Int) ^ (127 - (0 + 1) : Int).toNat = 85070591730234615865843651857942052864 := by decide +kernel
  omega
theorem lp_X6_cd {a b : Int} {μ : Mem} : ∀ (f : Nat) (s x y : Int), (0 ≤ s ∧ s ≤ 200) → (0 ≤ x ∧ x < 9223372036854775808) → (0 ≤ y ∧ y < 9223372036854775808) → (Int.gcd x y = Int.gcd a b) → (s = 0 ∨ (1 ≤ s ∧ y < x ∧ x * y < 2 ^ (127 - s).toNat)) → 200 - s < (f : Int) → AW kX6_commonDivisor 9 [some (.inr (.inl a)), none, some (.inr (.inl b)), none, some (.inr (.inl x)), none, some (.inr (.inl y)), none, some (.inl s), none, none] [] μ (pL (fun z ν => (Int.gcd a b : Int) = z ∧ μ = ν)) := by
  intro f
  induction f with
  | zero =>
    intro s x y h0 hx hy hg hi hm
    exfalso; omega
  | succ f ih =>
    intro s x y h0 hx hy hg hi hm
    refine s_iload_8 (pc := 9) dX6_commonDivisor_9 ?_
    refine s_sipush (pc := 11) (z := 200) dX6_commonDivisor_11 rfl ?_
    refine s_icmp_ge (pc := 14) 45 dX6_commonDivisor_14 rfl (by omega) (by omega) (fun h14 => ?_) (fun h14 => ?_)
    · have hy0 : y = 0 := by
        rcases hi with q | ⟨q0, q1, q2⟩
        · omega
        · exact Decidable.byContradiction fun r => by have := (euc_in (s := s) (x := x) (y := y) (by omega) (by omega) q1 q2).1; omega
      refine s_lload_4 (pc := 45) dX6_commonDivisor_45 ?_
      refine s_lreturn (pc := 47) dX6_commonDivisor_47 rfl ?_
      rw [hy0, Int.gcd_zero_right] at hg
      refine ⟨?_, rfl⟩
      rw [← hg]
      omega
    · refine s_lload_6 (pc := 17) dX6_commonDivisor_17 ?_
      refine s_lconst_0 (pc := 19) dX6_commonDivisor_19 ?_
      refine s_lif_eq (pc := 20) 45 dX6_commonDivisor_20 dX6_commonDivisor_21 rfl (by omega) (by omega) (fun h21 => ?_) (fun h21 => ?_)
      · have hy0 : y = 0 := by omega
        refine s_lload_4 (pc := 45) dX6_commonDivisor_45 ?_
        refine s_lreturn (pc := 47) dX6_commonDivisor_47 rfl ?_
        rw [hy0, Int.gcd_zero_right] at hg
        refine ⟨?_, rfl⟩
        rw [← hg]
        omega
      · refine s_lload_4 (pc := 24) dX6_commonDivisor_24 ?_
        refine s_lload_6 (pc := 26) dX6_commonDivisor_26 ?_
        refine s_lrem (pc := 28) dX6_commonDivisor_28 (by omega) (by omega) ?_
        rw [Int.tmod_eq_emod_of_nonneg hx.1]
        have hm1 := Int.emod_nonneg x (show y ≠ 0 by omega)
        have hm2 := Int.emod_lt_of_pos x (show 0 < y by omega)
        refine s_lstore_9 (pc := 29) dX6_commonDivisor_29 (Nat.le_of_ble_eq_true rfl) rfl ?_
        refine s_lload_6 (pc := 31) dX6_commonDivisor_31 ?_
        refine s_lstore_4 (pc := 33) dX6_commonDivisor_33 (Nat.le_of_ble_eq_true rfl) rfl ?_
        refine s_lload_9 (pc := 35) dX6_commonDivisor_35 ?_
        refine s_lstore_6 (pc := 37) dX6_commonDivisor_37 (Nat.le_of_ble_eq_true rfl) rfl ?_
        refine s_iinc_8 (pc := 39) dX6_commonDivisor_39 (Nat.le_of_ble_eq_true rfl) rfl ?_
        refine s_goto (pc := 42) 9 dX6_commonDivisor_42 rfl ?_
        refine s_le ?_ (ih (s + 1) y (x % y) (by omega) (by omega) (by omega) (by rw [gcd_st hx.1 hy.1]; exact hg) ?_ (by omega))
        · exact ⟨Or.inr rfl, Or.inl rfl, Or.inr rfl, Or.inl rfl, Or.inr rfl, Or.inl rfl, Or.inr rfl, Or.inl rfl, Or.inr rfl, Or.inl rfl, Or.inl rfl, trivial⟩
        · rcases hi with q | ⟨q0, q1, q2⟩
          · have := euc_first hx (show 0 < y ∧ y < 9223372036854775808 by omega)
            rw [q]
            exact Or.inr ⟨by omega, this⟩
          · exact Or.inr ⟨by omega, hm2, (euc_in (by omega) (by omega) q1 q2).2⟩
theorem c_X6_commonDivisor {a b : Int} {μ : Mem} (ha : 0 ≤ a ∧ a < 9223372036854775808) (hb : 0 ≤ b ∧ b < 9223372036854775808) : Mc kX6_commonDivisor [.inr (.inl a), .inr (.inl b)] μ (pL (fun z ν => (Int.gcd a b : Int) = z ∧ μ = ν)) := by
  refine Mc_of (by decide +kernel) (fun _ => Nat.le_of_ble_eq_true rfl) ?_
  show AW kX6_commonDivisor 0 [some (.inr (.inl a)), none, some (.inr (.inl b)), none, none, none, none, none, none, none, none] [] μ _
  refine s_lload_0 (pc := 0) dX6_commonDivisor_0 ?_
  refine s_lstore_4 (pc := 1) dX6_commonDivisor_1 (Nat.le_of_ble_eq_true rfl) rfl ?_
  refine s_lload_2 (pc := 3) dX6_commonDivisor_3 ?_
  refine s_lstore_6 (pc := 4) dX6_commonDivisor_4 (Nat.le_of_ble_eq_true rfl) rfl ?_
  refine s_iconst_0 (pc := 6) dX6_commonDivisor_6 ?_
  refine s_istore_8 (pc := 7) dX6_commonDivisor_7 (Nat.le_of_ble_eq_true rfl) rfl ?_
  exact lp_X6_cd 201 0 a b (by omega) ha hb rfl (Or.inl rfl) (by omega)
theorem c_X6_put {a b : Int} {μ : Mem} (ha : -9223372036854775808 < a ∧ a < 9223372036854775808) (hb : 0 < b ∧ b < 9223372036854775808) : Mc kX6_put [.inr (.inr 6), .inr (.inl a), .inr (.inl b)] μ (pR (fun z ν => z = 6 ∧ wr (wr μ 117 0 (frc a b 0)) 118 0 (frc a b 1) = ν)) := by
  refine Mc_of (by decide +kernel) (fun _ => Nat.le_of_ble_eq_true rfl) ?_
  show AW kX6_put 0 [some (.inr (.inr 6)), some (.inr (.inl a)), none, some (.inr (.inl b)), none, none, none] [] μ _
  have hgp : 0 < Int.gcd a b := Int.gcd_pos_of_ne_zero_right a (by omega)
  have hgl : (Int.gcd a b : Int) ≤ b := Int.le_of_dvd hb.1 (Int.gcd_dvd_right ..)
  have hge : Int.gcd ((a.natAbs : Nat) : Int) b = Int.gcd a b := rfl
  have f0 : frc a b 0 = a.tdiv (Int.gcd a b) := by unfold frc; rw [if_pos rfl]
  have f1 : frc a b 1 = b.tdiv (Int.gcd a b) := by unfold frc; rw [if_neg (by decide)]
  refine s_lload_1 (pc := 0) dX6_put_0 ?_
  refine z_absL (pc := 1) dX6_put_1 rfl lnX6_13 (Nat.le_of_ble_eq_true rfl) (Nat.le_of_ble_eq_true rfl) (by omega) ?_
  refine s_lload_3 (pc := 4) dX6_put_4 ?_
  refine cS2l (pc := 5) (Ky := kX6_commonDivisor) dX6_put_5 rfl lnX6_19 okX6_commonDivisor ⟨Nat.le_of_ble_eq_true rfl, Nat.le_of_ble_eq_true rfl⟩ (Nat.le_of_ble_eq_true rfl) (c_X6_commonDivisor (by omega) (by omega)) ?_
  rintro _ _ ⟨rfl, rfl⟩
  rw [hge]
  refine s_lstore_5 (pc := 8) dX6_put_8 (Nat.le_of_ble_eq_true rfl) rfl ?_
  refine s_aload_0 (pc := 10) dX6_put_10 ?_
  refine s_lload_5 (pc := 11) dX6_put_11 ?_
  refine s_lconst_0 (pc := 13) dX6_put_13 ?_
  refine s_lif_le (pc := 14) 25 dX6_put_14 dX6_put_15 rfl (by omega) (by omega) (fun h15 => ?_) (fun h15 => ?_)
  · exfalso; omega
  · refine s_lload_1 (pc := 18) dX6_put_18 ?_
    refine s_lload_5 (pc := 19) dX6_put_19 ?_
    refine s_ldiv (pc := 21) dX6_put_21 (by omega) (by omega) ?_
    refine s_goto (pc := 22) 26 dX6_put_22 rfl ?_
    refine pfX6_23 (pc := 26) dX6_put_26 rfl ?_
    refine s_aload_0 (pc := 29) dX6_put_29 ?_
    refine s_lload_5 (pc := 30) dX6_put_30 ?_
    refine s_lconst_0 (pc := 32) dX6_put_32 ?_
    refine s_lif_le (pc := 33) 44 dX6_put_33 dX6_put_34 rfl (by omega) (by omega) (fun h34 => ?_) (fun h34 => ?_)
    · exfalso; omega
    · refine s_lload_3 (pc := 37) dX6_put_37 ?_
      refine s_lload_5 (pc := 38) dX6_put_38 ?_
      refine s_ldiv (pc := 40) dX6_put_40 (by omega) (by omega) ?_
      refine s_goto (pc := 41) 45 dX6_put_41 rfl ?_
      refine pfX6_7 (pc := 45) dX6_put_45 rfl ?_
      refine s_aload_0 (pc := 48) dX6_put_48 ?_
      refine s_areturn (pc := 49) dX6_put_49 rfl ?_
      exact ⟨rfl, by rw [f0, f1]⟩
theorem c_X6_part {a b w : Int} {μ : Mem} (hw : w = 0 ∨ w = 1) (e1 : μ 117 0 = frc a b 0) (e2 : μ 118 0 = frc a b 1) : Mc kX6_part [.inr (.inr 6), .inl w] μ (pL (fun z ν => frc a b w = z ∧ μ = ν)) := by
  refine Mc_of (by decide +kernel) (fun _ => Nat.le_of_ble_eq_true rfl) ?_
  show AW kX6_part 0 [some (.inr (.inr 6)), some (.inl w)] [] μ _
  refine s_iload_1 (pc := 0) dX6_part_0 ?_
  refine s_if_ne (pc := 1) 11 dX6_part_1 rfl (by omega) (fun h1 => ?_) (fun h1 => ?_)
  · refine s_aload_0 (pc := 11) dX6_part_11 ?_
    refine gfX6_7 (pc := 12) dX6_part_12 rfl ?_
    try rw [e1]
    try rw [e2]
    refine s_lreturn (pc := 15) dX6_part_15 rfl ?_
    exact ⟨by rcases hw with rfl | rfl <;> first | rfl | (exfalso; omega), rfl⟩
  · refine s_aload_0 (pc := 4) dX6_part_4 ?_
    refine gfX6_23 (pc := 5) dX6_part_5 rfl ?_
    try rw [e1]
    try rw [e2]
    refine s_goto (pc := 8) 15 dX6_part_8 rfl ?_
    refine s_lreturn (pc := 15) dX6_part_15 rfl ?_
    exact ⟨by rcases hw with rfl | rfl <;> first | rfl | (exfalso; omega), rfl⟩
theorem c_X6_mixedInto {a b h : Int} {μ : Mem} (e1 : μ 117 0 = frc a b 0) (e2 : μ 118 0 = frc a b 1) : Mc kX6_mixedInto [.inr (.inr 6), .inr (.inl h)] μ (pL (fun z ν => mx (mx h (frc a b 0)) (frc a b 1) = z ∧ μ = ν)) := by
  refine Mc_of (by decide +kernel) (fun _ => Nat.le_of_ble_eq_true rfl) ?_
  show AW kX6_mixedInto 0 [some (.inr (.inr 6)), some (.inr (.inl h)), none] [] μ _
  refine s_ldc2_w (pc := 0) dX6_mixedInto_0 rfl cnX6_26 ?_
  refine s_ldc2_w (pc := 3) dX6_mixedInto_3 rfl cnX6_26 ?_
  refine s_lload_1 (pc := 6) dX6_mixedInto_6 ?_
  refine s_lmul (pc := 7) dX6_mixedInto_7 ?_
  refine s_aload_0 (pc := 8) dX6_mixedInto_8 ?_
  refine gfX6_23 (pc := 9) dX6_mixedInto_9 rfl ?_
  try rw [e1]
  try rw [e2]
  refine s_ladd (pc := 12) dX6_mixedInto_12 ?_
  refine s_lmul (pc := 13) dX6_mixedInto_13 ?_
  refine s_aload_0 (pc := 14) dX6_mixedInto_14 ?_
  refine gfX6_7 (pc := 15) dX6_mixedInto_15 rfl ?_
  try rw [e1]
  try rw [e2]
  refine s_ladd (pc := 18) dX6_mixedInto_18 ?_
  refine s_lreturn (pc := 19) dX6_mixedInto_19 rfl ?_
  exact ⟨rfl, rfl⟩
theorem c_X2_draw {k : Int} {μ : Mem} (hk : 1 ≤ k ∧ k ≤ 4) : Mc kX2_draw [.inr (.inr 5), .inl k] μ (pI (fun z ν => lt (μ 116 0) k = z ∧ wr μ 116 0 (sd (μ 116 0)) = ν)) := by
  refine Mc_of (by decide +kernel) (fun _ => Nat.le_of_ble_eq_true rfl) ?_
  show AW kX2_draw 0 [some (.inr (.inr 5)), some (.inl k)] [] μ _
  refine s_aload_0 (pc := 0) dX2_draw_0 ?_
  refine s_ldc (pc := 1) dX2_draw_1 rfl cnX2_56 ?_
  refine s_aload_0 (pc := 3) dX2_draw_3 ?_
  refine gfX2_57 (pc := 4) dX2_draw_4 rfl ?_
  try simp (decide := true) only [wr_s, wr_n, wa_s, wa_n, mg_i, mg_o, if_true, eq_self, reduceIte]
  refine s_imul (pc := 7) dX2_draw_7 ?_
  refine s_sipush (pc := 8) (z := 12345) dX2_draw_8 rfl ?_
  refine s_iadd (pc := 11) dX2_draw_11 ?_
  refine pfX2_57 (pc := 12) dX2_draw_12 rfl ?_
  refine s_iload_1 (pc := 15) dX2_draw_15 ?_
  refine s_if_le (pc := 16) 31 dX2_draw_16 rfl (by omega) (fun h16 => ?_) (fun h16 => ?_)
  · exfalso; omega
  · refine s_aload_0 (pc := 19) dX2_draw_19 ?_
    refine gfX2_57 (pc := 20) dX2_draw_20 rfl ?_
    try simp (decide := true) only [wr_s, wr_n, wa_s, wa_n, mg_i, mg_o, if_true, eq_self, reduceIte]
    refine s_bipush (pc := 23) (z := 16) dX2_draw_23 rfl ?_
    refine s_iushr (pc := 25) dX2_draw_25 ?_
    have hu := ushr_in (x := 1103515245 * μ 116 0 + 12345)
    refine s_iload_1 (pc := 26) dX2_draw_26 ?_
    refine s_irem (pc := 27) dX2_draw_27 (by omega) (by omega) ?_
    rw [Int.tmod_eq_emod_of_nonneg (by omega)]
    refine s_goto (pc := 28) 32 dX2_draw_28 rfl ?_
    refine s_ireturn (pc := 32) dX2_draw_32 rfl ?_
    exact ⟨rfl, rfl⟩
theorem lp_X2_laughing {κ : Mem} {i z : Int} {μ : Mem} (hC : CR κ μ) (hi : 0 ≤ i ∧ i < κ 125 0) : ∀ (f : Nat) (p : Int) (ν : Mem), (0 ≤ p) → (p ≤ κ 129 0) → (Fr [116] μ ν) → (ν 116 0 = (lgN κ i z p.toNat).2) → κ 129 0 - p < (f : Int) → AW kX2_laughing 5 [some (.inr (.inr 5)), some (.inr (.inr 2)), some (.inl i), some (.inl (lgN κ i z p.toNat).1), some (.inl p)] [] ν (pI (fun y ν => (lgN κ i z (κ 129 0).toNat).1 = y ∧ Fr [116] μ ν ∧ ν 116 0 = (lgN κ i z (κ 129 0).toNat).2)) := by
  intro f
  induction f with
  | zero =>
    intro p ν h0 h1 hF hs hm
    exfalso; omega
  | succ f ih =>
    intro p ν h0 h1 hF hs hm
    have hCν := hC.fr hF (by decide)
    have r129 := hC.1.1
    have r125 := hC.1.2.1
    have c105 := hCν.2.1
    have hsu := lgN_succ (κ := κ) (i := i) (z := z) h0
    have hlg := lgN_in (κ := κ) (i := i) (z := z) p.toNat
    have hps := pw_small (k := p) (by omega)
    have hlt := lt_in (z := (lgN κ i z p.toNat).2) (k := 4) (by omega)
    refine s_iload_4 (pc := 5) dX2_laughing_5 ?_
    refine s_aload_1 (pc := 7) dX2_laughing_7 ?_
    refine gfX2_34 (pc := 8) dX2_laughing_8 rfl ?_
    try rw [c105]
    refine s_icmp_ge (pc := 11) 52 dX2_laughing_11 rfl (by omega) (by omega) (fun h11 => ?_) (fun h11 => ?_)
    · refine s_iload_3 (pc := 52) dX2_laughing_52 ?_
      refine s_ireturn (pc := 53) dX2_laughing_53 rfl ?_
      cases (show p = κ 129 0 by omega)
      exact ⟨rfl, hF, hs⟩
    · refine s_aload_1 (pc := 14) dX2_laughing_14 ?_
      refine s_iload_4 (pc := 15) dX2_laughing_15 ?_
      refine s_iload_2 (pc := 17) dX2_laughing_17 ?_
      refine cV2i (pc := 18) (Ky := kX1_isThere) dX2_laughing_18 rfl lnX2_37 okX1_isThere ⟨1, TX1, 13, rfl, rfl⟩ ⟨Nat.le_of_ble_eq_true rfl, Nat.le_of_ble_eq_true rfl⟩ (Nat.le_of_ble_eq_true rfl) (c_X1_isThere hCν (by omega) (by omega)) ?_
      rintro _ _ ⟨rfl, rfl⟩
      refine s_if_eq (pc := 21) 46 dX2_laughing_21 rfl (by omega) (fun h21 => ?_) (fun h21 => ?_)
      · have hth : ¬ (i < κ 50 p ∧ bt (κ 130 0) p = 0) := fun q => by rw [if_pos q] at h21; exact absurd h21 (by decide)
        rw [if_neg hth] at hsu
        refine s_iinc_4 (pc := 46) dX2_laughing_46 (Nat.le_of_ble_eq_true rfl) rfl ?_
        refine s_goto (pc := 49) 5 dX2_laughing_49 rfl ?_
        first
          | (have _ := hlq
             refine s_le ?_ (ih (p + 1) _ (by omega) (by omega) (hF.wr (by decide)) (by rw [hsu, wr_s, if_pos rfl]) (by omega))
             rw [hsu]
             exact ⟨Or.inr rfl, Or.inr rfl, Or.inr rfl, Or.inr rfl, Or.inr rfl, trivial⟩
             done)
          | (refine s_le ?_ (ih (p + 1) _ (by omega) (by omega) hF (by rw [hsu]; exact hs) (by omega))
             rw [hsu]
             exact ⟨Or.inr rfl, Or.inr rfl, Or.inr rfl, Or.inr rfl, Or.inr rfl, trivial⟩)
      · have hth : i < κ 50 p ∧ bt (κ 130 0) p = 0 := Decidable.byContradiction fun q => by rw [if_neg q] at h21; exact h21 rfl
        rw [if_pos hth] at hsu
        refine s_aload_0 (pc := 24) dX2_laughing_24 ?_
        refine s_iconst_4 (pc := 25) dX2_laughing_25 ?_
        refine cV1i (pc := 26) (Ky := kX2_draw) dX2_laughing_26 rfl lnX2_41 okX2_draw ⟨2, TX2, 1, rfl, rfl⟩ ⟨Nat.le_of_ble_eq_true rfl, Nat.le_of_ble_eq_true rfl⟩ (Nat.le_of_ble_eq_true rfl) (c_X2_draw (by omega)) ?_
        rintro _ _ ⟨rfl, rfl⟩
        rw [hs]
        have hC26 := hCν.fr (F := [116]) (Fr.rf.wr (c := 116) (k := 0) (z := sd (lgN κ i z p.toNat).2) (by decide)) (by decide)
        have hq := kq_in hC.1 (p := p) (i := i) (by omega) (by omega)
        refine s_aload_1 (pc := 29) dX2_laughing_29 ?_
        refine s_iload_4 (pc := 30) dX2_laughing_30 ?_
        refine s_iload_2 (pc := 32) dX2_laughing_32 ?_
        refine cV2i (pc := 33) (Ky := kX1_quartersAt) dX2_laughing_33 rfl lnX2_45 okX1_quartersAt ⟨1, TX1, 13, rfl, rfl⟩ ⟨Nat.le_of_ble_eq_true rfl, Nat.le_of_ble_eq_true rfl⟩ (Nat.le_of_ble_eq_true rfl) (c_X1_quartersAt hC26 (by omega) hi) ?_
        rintro _ _ ⟨rfl, rfl⟩
        refine s_icmp_ge (pc := 36) 46 dX2_laughing_36 rfl (by omega) (by omega) (fun h36 => ?_) (fun h36 => ?_)
        · have hlq : ¬ lt (lgN κ i z p.toNat).2 4 < kq κ p i := by omega
          rw [if_neg hlq] at hsu
          refine s_iinc_4 (pc := 46) dX2_laughing_46 (Nat.le_of_ble_eq_true rfl) rfl ?_
          refine s_goto (pc := 49) 5 dX2_laughing_49 rfl ?_
          first
            | (have _ := hlq
               refine s_le ?_ (ih (p + 1) _ (by omega) (by omega) (hF.wr (by decide)) (by rw [hsu, wr_s, if_pos rfl]) (by omega))
               rw [hsu]
               exact ⟨Or.inr rfl, Or.inr rfl, Or.inr rfl, Or.inr rfl, Or.inr rfl, trivial⟩
               done)
            | (refine s_le ?_ (ih (p + 1) _ (by omega) (by omega) hF (by rw [hsu]; exact hs) (by omega))
               rw [hsu]
               exact ⟨Or.inr rfl, Or.inr rfl, Or.inr rfl, Or.inr rfl, Or.inr rfl, trivial⟩)
        · have hlq : lt (lgN κ i z p.toNat).2 4 < kq κ p i := by omega
          rw [if_pos hlq] at hsu
          refine s_iload_3 (pc := 39) dX2_laughing_39 ?_
          refine s_iconst_1 (pc := 40) dX2_laughing_40 ?_
          refine s_iload_4 (pc := 41) dX2_laughing_41 ?_
          refine s_ishl (pc := 43) dX2_laughing_43 ?_
          refine s_ior (pc := 44) dX2_laughing_44 ?_
          rw [or_top (by omega) hlg]
          refine s_istore_3 (pc := 45) dX2_laughing_45 (Nat.le_of_ble_eq_true rfl) rfl ?_
          refine s_iinc_4 (pc := 46) dX2_laughing_46 (Nat.le_of_ble_eq_true rfl) rfl ?_
          refine s_goto (pc := 49) 5 dX2_laughing_49 rfl ?_
          first
            | (have _ := hlq
               refine s_le ?_ (ih (p + 1) _ (by omega) (by omega) (hF.wr (by decide)) (by rw [hsu, wr_s, if_pos rfl]) (by omega))
               rw [hsu]
               exact ⟨Or.inr rfl, Or.inr rfl, Or.inr rfl, Or.inr rfl, Or.inr rfl, trivial⟩
               done)
            | (refine s_le ?_ (ih (p + 1) _ (by omega) (by omega) hF (by rw [hsu]; exact hs) (by omega))
               rw [hsu]
               exact ⟨Or.inr rfl, Or.inr rfl, Or.inr rfl, Or.inr rfl, Or.inr rfl, trivial⟩)
theorem c_X2_laughing {κ : Mem} {i z : Int} {μ : Mem} (hC : CR κ μ) (hi : 0 ≤ i ∧ i < κ 125 0) (hz : μ 116 0 = z) : Mc kX2_laughing [.inr (.inr 5), .inr (.inr 2), .inl i] μ (pI (fun y ν => (lgN κ i z (κ 129 0).toNat).1 = y ∧ Fr [116] μ ν ∧ ν 116 0 = (lgN κ i z (κ 129 0).toNat).2)) := by
  refine Mc_of (by decide +kernel) (fun _ => Nat.le_of_ble_eq_true rfl) ?_
  show AW kX2_laughing 0 [some (.inr (.inr 5)), some (.inr (.inr 2)), some (.inl i), none, none] [] μ _
  refine s_iconst_0 (pc := 0) dX2_laughing_0 ?_
  refine s_istore_3 (pc := 1) dX2_laughing_1 (Nat.le_of_ble_eq_true rfl) rfl ?_
  refine s_iconst_0 (pc := 2) dX2_laughing_2 ?_
  refine s_istore_4 (pc := 3) dX2_laughing_3 (Nat.le_of_ble_eq_true rfl) rfl ?_
  have r129 := hC.1.1
  exact lp_X2_laughing hC hi 5 0 μ (by omega) (by omega) Fr.rf hz (by omega)
theorem tk_end {b r : Int} : tk b r 3 = -1 := by unfold tk; simp (decide := true)
theorem tk_some {b r : Int} (hb : 0 ≤ b ∧ b < 16) (hr : 0 ≤ r ∧ r < on b) : 0 ≤ tk b r (-1) := by
  have key : ∀ b < 16, ∀ r < 5, ((r : Nat) : Int) < on ((b : Nat) : Int) → 0 ≤ tk b ((r : Nat) : Int) (-1) := by decide +kernel
  have h4 := on_in (b := b)
  have := key b.toNat (by omega) r.toNat (by omega)
  rw [show ((b.toNat : Nat) : Int) = b by omega, show ((r.toNat : Nat) : Int) = r by omega] at this
  exact this hr.2
theorem tk_none {b r : Int} (hb : on b = 0) : tk b r (-1) = -1 := by
  have h0 := bt_in (b := b) (k := 0)
  have h1 := bt_in (b := b) (k := 1)
  have h2 := bt_in (b := b) (k := 2)
  have h3 := bt_in (b := b) (k := 3)
  unfold on at hb
  unfold tk
  rw [if_neg (fun q => by have := q.2.1; omega), if_neg (fun q => by have := q.2.1; omega), if_neg (fun q => by have := q.2.1; omega), if_neg (fun q => by have := q.2.1; omega)]
def tkr (sev b z : Int) : Int := if 1 < on b ∧ sev = 0 then -1 else tk b (if draws sev (on b) then lt z (on b) else 0) (-1)
theorem lp_X2_taker {sev b r : Int} {μ : Mem} (hb : 0 ≤ b ∧ b < 16) (hr : 0 ≤ r ∧ r < 4) : ∀ (f : Nat) (p w : Int), (0 ≤ p) → (p ≤ 4) → (w = r - on (b % (2 : Int) ^ p.toNat)) → (0 ≤ w) → (tk b r (-1) = tk b r (p - 1)) → 4 - p < (f : Int) → AW kX2_takerOf 40 [some (.inr (.inr 5)), some (.inl sev), some (.inl b), some (.inl (on b)), some (.inl w), some (.inl p)] [] μ (pI (fun y ν => tk b r (-1) = y ∧ μ = ν)) := by
  intro f
  induction f with
  | zero =>
    intro p w h0 h1 hw hw0 ht hm
    exfalso; omega
  | succ f ih =>
    intro p w h0 h1 hw hw0 ht hm
    have hbt := bt_in (b := b) (k := p)
    have hon := on_in (b := b)
    have hom := on_in (b := b % (2 : Int) ^ p.toNat)
    refine s_iload_5 (pc := 40) dX2_takerOf_40 ?_
    refine s_iconst_4 (pc := 42) dX2_takerOf_42 ?_
    refine s_icmp_ge (pc := 43) 72 dX2_takerOf_43 rfl (by omega) (by omega) (fun h43 => ?_) (fun h43 => ?_)
    · refine s_iconst_m1 (pc := 72) dX2_takerOf_72 ?_
      refine s_ireturn (pc := 73) dX2_takerOf_73 rfl ?_
      cases (show p = 4 by omega)
      exact ⟨by rw [ht]; exact tk_end, rfl⟩
    · have hmo := on_mod hb (p := p) (by omega)
      have hup := tk_up (b := b) (r := r) (p := p) (by omega)
      refine s_iload_2 (pc := 46) dX2_takerOf_46 ?_
      refine s_iload_5 (pc := 47) dX2_takerOf_47 ?_
      refine cN2i (pc := 49) (Ky := kX8_hasBit) dX2_takerOf_49 rfl nsX2_53 okX8_hasBit ⟨Nat.le_of_ble_eq_true rfl, Nat.le_of_ble_eq_true rfl⟩ (Nat.le_of_ble_eq_true rfl) (c_X8_hasBit (by omega) (by omega)) ?_
      rintro _ _ ⟨rfl, rfl⟩
      refine s_if_eq (pc := 52) 66 dX2_takerOf_52 rfl (by omega) (fun h52 => ?_) (fun h52 => ?_)
      · refine s_iinc_5 (pc := 66) dX2_takerOf_66 (Nat.le_of_ble_eq_true rfl) rfl ?_
        refine s_goto (pc := 69) 40 dX2_takerOf_69 rfl ?_
        first
          | (have _ := h57
             refine s_le ?_ (ih (p + 1) (w + -1) (by omega) (by omega) (by omega) (by omega) ?_ (by omega))
             · exact ⟨Or.inr rfl, Or.inr rfl, Or.inr rfl, Or.inr rfl, Or.inr rfl, Or.inr rfl, trivial⟩
             · rw [ht, hup, if_neg (fun q => by have := q.2; omega), show p + 1 - 1 = p by omega])
          | (refine s_le ?_ (ih (p + 1) w (by omega) (by omega) (by omega) (by omega) ?_ (by omega))
             · exact ⟨Or.inr rfl, Or.inr rfl, Or.inr rfl, Or.inr rfl, Or.inr rfl, Or.inr rfl, trivial⟩
             · rw [ht, hup, if_neg (fun q => by have := q.1; omega), show p + 1 - 1 = p by omega])
      · refine s_iload_4 (pc := 55) dX2_takerOf_55 ?_
        refine s_if_ne (pc := 57) 63 dX2_takerOf_57 rfl (by omega) (fun h57 => ?_) (fun h57 => ?_)
        · refine s_iinc_4 (pc := 63) dX2_takerOf_63 (Nat.le_of_ble_eq_true rfl) rfl ?_
          refine s_iinc_5 (pc := 66) dX2_takerOf_66 (Nat.le_of_ble_eq_true rfl) rfl ?_
          refine s_goto (pc := 69) 40 dX2_takerOf_69 rfl ?_
          first
            | (have _ := h57
               refine s_le ?_ (ih (p + 1) (w + -1) (by omega) (by omega) (by omega) (by omega) ?_ (by omega))
               · exact ⟨Or.inr rfl, Or.inr rfl, Or.inr rfl, Or.inr rfl, Or.inr rfl, Or.inr rfl, trivial⟩
               · rw [ht, hup, if_neg (fun q => by have := q.2; omega), show p + 1 - 1 = p by omega])
            | (refine s_le ?_ (ih (p + 1) w (by omega) (by omega) (by omega) (by omega) ?_ (by omega))
               · exact ⟨Or.inr rfl, Or.inr rfl, Or.inr rfl, Or.inr rfl, Or.inr rfl, Or.inr rfl, trivial⟩
               · rw [ht, hup, if_neg (fun q => by have := q.1; omega), show p + 1 - 1 = p by omega])
        · refine s_iload_5 (pc := 60) dX2_takerOf_60 ?_
          refine s_ireturn (pc := 62) dX2_takerOf_62 rfl ?_
          exact ⟨by rw [ht, hup, if_pos ⟨by omega, by omega⟩], rfl⟩
theorem c_X2_takerOf {sev b : Int} {μ : Mem} (hb : 0 ≤ b ∧ b < 16) (hs : 0 ≤ sev ∧ sev ≤ 2) : Mc kX2_takerOf [.inr (.inr 5), .inl sev, .inl b] μ (pI (fun y ν => tkr sev b (μ 116 0) = y ∧ (if draws sev (on b) then wr μ 116 0 (sd (μ 116 0)) else μ) = ν)) := by
  refine Mc_of (by decide +kernel) (fun _ => Nat.le_of_ble_eq_true rfl) ?_
  show AW kX2_takerOf 0 [some (.inr (.inr 5)), some (.inl sev), some (.inl b), none, none, none] [] μ _
  have hon := on_in (b := b)
  have hlt := fun q => lt_in (z := μ 116 0) (k := on b) q
  have hm0 : on (b % (2 : Int) ^ (0 : Int).toNat) = 0 := by rw [show b % (2 : Int) ^ (0 : Int).toNat = 0 by show b % 1 = 0; omega, on_0]
  refine s_iload_2 (pc := 0) dX2_takerOf_0 ?_
  refine cS1i (pc := 1) (Ky := kJ6_bitCount_0f7a4) dX2_takerOf_1 rfl lnX2_48 okJ6_bitCount_0f7a4 ⟨Nat.le_of_ble_eq_true rfl, Nat.le_of_ble_eq_true rfl⟩ (Nat.le_of_ble_eq_true rfl) (c_J6_bitCount_0f7a4 hb) ?_
  rintro _ _ ⟨rfl, rfl⟩
  refine s_istore_3 (pc := 4) dX2_takerOf_4 (Nat.le_of_ble_eq_true rfl) rfl ?_
  refine s_iload_3 (pc := 5) dX2_takerOf_5 ?_
  refine s_iconst_1 (pc := 6) dX2_takerOf_6 ?_
  refine s_icmp_le (pc := 7) 16 dX2_takerOf_7 rfl (by omega) (by omega) (fun h7 => ?_) (fun h7 => ?_)
  · refine s_iload_3 (pc := 16) dX2_takerOf_16 ?_
    refine s_iconst_1 (pc := 17) dX2_takerOf_17 ?_
    refine s_icmp_le (pc := 18) 34 dX2_takerOf_18 rfl (by omega) (by omega) (fun h18 => ?_) (fun h18 => ?_)
    · refine s_iconst_0 (pc := 34) dX2_takerOf_34 ?_
      refine s_istore_4 (pc := 35) dX2_takerOf_35 (Nat.le_of_ble_eq_true rfl) rfl ?_
      refine s_iconst_0 (pc := 37) dX2_takerOf_37 ?_
      refine s_istore_5 (pc := 38) dX2_takerOf_38 (Nat.le_of_ble_eq_true rfl) rfl ?_
      first
        | (have _ := hdr
           refine AW.mono (lp_X2_taker (r := lt (μ 116 0) (on b)) hb (by have := hlt (by omega); omega) 5 0 (lt (μ 116 0) (on b)) (by omega) (by omega) (by omega) (by have := hlt (by omega); omega) rfl (by omega)) ?_
           rintro r ν ⟨y, rfl, rfl, rfl⟩
           exact ⟨_, rfl, by rw [tkr, if_neg (by omega), if_pos hdr], by rw [if_pos hdr]⟩)
        | (have hnd : ¬ draws sev (on b) := fun q => by have := q.1; have := q.2; omega
           refine AW.mono (lp_X2_taker (r := 0) hb (by omega) 5 0 0 (by omega) (by omega) (by omega) (by omega) rfl (by omega)) ?_
           rintro r ν ⟨y, rfl, rfl, rfl⟩
           exact ⟨_, rfl, by rw [tkr, if_neg (by omega), if_neg hnd], by rw [if_neg hnd]⟩)
    · refine s_iload_1 (pc := 21) dX2_takerOf_21 ?_
      refine s_iconst_2 (pc := 22) dX2_takerOf_22 ?_
      refine s_icmp_ne (pc := 23) 34 dX2_takerOf_23 rfl (by omega) (by omega) (fun h23 => ?_) (fun h23 => ?_)
      · refine s_iconst_0 (pc := 34) dX2_takerOf_34 ?_
        refine s_istore_4 (pc := 35) dX2_takerOf_35 (Nat.le_of_ble_eq_true rfl) rfl ?_
        refine s_iconst_0 (pc := 37) dX2_takerOf_37 ?_
        refine s_istore_5 (pc := 38) dX2_takerOf_38 (Nat.le_of_ble_eq_true rfl) rfl ?_
        first
          | (have _ := hdr
             refine AW.mono (lp_X2_taker (r := lt (μ 116 0) (on b)) hb (by have := hlt (by omega); omega) 5 0 (lt (μ 116 0) (on b)) (by omega) (by omega) (by omega) (by have := hlt (by omega); omega) rfl (by omega)) ?_
             rintro r ν ⟨y, rfl, rfl, rfl⟩
             exact ⟨_, rfl, by rw [tkr, if_neg (by omega), if_pos hdr], by rw [if_pos hdr]⟩)
          | (have hnd : ¬ draws sev (on b) := fun q => by have := q.1; have := q.2; omega
             refine AW.mono (lp_X2_taker (r := 0) hb (by omega) 5 0 0 (by omega) (by omega) (by omega) (by omega) rfl (by omega)) ?_
             rintro r ν ⟨y, rfl, rfl, rfl⟩
             exact ⟨_, rfl, by rw [tkr, if_neg (by omega), if_neg hnd], by rw [if_neg hnd]⟩)
      · refine s_aload_0 (pc := 26) dX2_takerOf_26 ?_
        refine s_iload_3 (pc := 27) dX2_takerOf_27 ?_
        refine cV1i (pc := 28) (Ky := kX2_draw) dX2_takerOf_28 rfl lnX2_41 okX2_draw ⟨2, TX2, 1, rfl, rfl⟩ ⟨Nat.le_of_ble_eq_true rfl, Nat.le_of_ble_eq_true rfl⟩ (Nat.le_of_ble_eq_true rfl) (c_X2_draw (by omega)) ?_
        rintro _ _ ⟨rfl, rfl⟩
        have hdr : draws sev (on b) := ⟨by omega, by omega⟩
        refine s_goto (pc := 31) 35 dX2_takerOf_31 rfl ?_
        refine s_istore_4 (pc := 35) dX2_takerOf_35 (Nat.le_of_ble_eq_true rfl) rfl ?_
        refine s_iconst_0 (pc := 37) dX2_takerOf_37 ?_
        refine s_istore_5 (pc := 38) dX2_takerOf_38 (Nat.le_of_ble_eq_true rfl) rfl ?_
        first
          | (have _ := hdr
             refine AW.mono (lp_X2_taker (r := lt (μ 116 0) (on b)) hb (by have := hlt (by omega); omega) 5 0 (lt (μ 116 0) (on b)) (by omega) (by omega) (by omega) (by have := hlt (by omega); omega) rfl (by omega)) ?_
             rintro r ν ⟨y, rfl, rfl, rfl⟩
             exact ⟨_, rfl, by rw [tkr, if_neg (by omega), if_pos hdr], by rw [if_pos hdr]⟩)
          | (have hnd : ¬ draws sev (on b) := fun q => by have := q.1; have := q.2; omega
             refine AW.mono (lp_X2_taker (r := 0) hb (by omega) 5 0 0 (by omega) (by omega) (by omega) (by omega) rfl (by omega)) ?_
             rintro r ν ⟨y, rfl, rfl, rfl⟩
             exact ⟨_, rfl, by rw [tkr, if_neg (by omega), if_neg hnd], by rw [if_neg hnd]⟩)
  · refine s_iload_1 (pc := 10) dX2_takerOf_10 ?_
    refine s_if_ne (pc := 11) 16 dX2_takerOf_11 rfl (by omega) (fun h11 => ?_) (fun h11 => ?_)
    · refine s_iload_3 (pc := 16) dX2_takerOf_16 ?_
      refine s_iconst_1 (pc := 17) dX2_takerOf_17 ?_
      refine s_icmp_le (pc := 18) 34 dX2_takerOf_18 rfl (by omega) (by omega) (fun h18 => ?_) (fun h18 => ?_)
      · refine s_iconst_0 (pc := 34) dX2_takerOf_34 ?_
        refine s_istore_4 (pc := 35) dX2_takerOf_35 (Nat.le_of_ble_eq_true rfl) rfl ?_
        refine s_iconst_0 (pc := 37) dX2_takerOf_37 ?_
        refine s_istore_5 (pc := 38) dX2_takerOf_38 (Nat.le_of_ble_eq_true rfl) rfl ?_
        first
          | (have _ := hdr
             refine AW.mono (lp_X2_taker (r := lt (μ 116 0) (on b)) hb (by have := hlt (by omega); omega) 5 0 (lt (μ 116 0) (on b)) (by omega) (by omega) (by omega) (by have := hlt (by omega); omega) rfl (by omega)) ?_
             rintro r ν ⟨y, rfl, rfl, rfl⟩
             exact ⟨_, rfl, by rw [tkr, if_neg (by omega), if_pos hdr], by rw [if_pos hdr]⟩)
          | (have hnd : ¬ draws sev (on b) := fun q => by have := q.1; have := q.2; omega
             refine AW.mono (lp_X2_taker (r := 0) hb (by omega) 5 0 0 (by omega) (by omega) (by omega) (by omega) rfl (by omega)) ?_
             rintro r ν ⟨y, rfl, rfl, rfl⟩
             exact ⟨_, rfl, by rw [tkr, if_neg (by omega), if_neg hnd], by rw [if_neg hnd]⟩)
      · refine s_iload_1 (pc := 21) dX2_takerOf_21 ?_
        refine s_iconst_2 (pc := 22) dX2_takerOf_22 ?_
        refine s_icmp_ne (pc := 23) 34 dX2_takerOf_23 rfl (by omega) (by omega) (fun h23 => ?_) (fun h23 => ?_)
        · refine s_iconst_0 (pc := 34) dX2_takerOf_34 ?_
          refine s_istore_4 (pc := 35) dX2_takerOf_35 (Nat.le_of_ble_eq_true rfl) rfl ?_
          refine s_iconst_0 (pc := 37) dX2_takerOf_37 ?_
          refine s_istore_5 (pc := 38) dX2_takerOf_38 (Nat.le_of_ble_eq_true rfl) rfl ?_
          first
            | (have _ := hdr
               refine AW.mono (lp_X2_taker (r := lt (μ 116 0) (on b)) hb (by have := hlt (by omega); omega) 5 0 (lt (μ 116 0) (on b)) (by omega) (by omega) (by omega) (by have := hlt (by omega); omega) rfl (by omega)) ?_
               rintro r ν ⟨y, rfl, rfl, rfl⟩
               exact ⟨_, rfl, by rw [tkr, if_neg (by omega), if_pos hdr], by rw [if_pos hdr]⟩)
            | (have hnd : ¬ draws sev (on b) := fun q => by have := q.1; have := q.2; omega
               refine AW.mono (lp_X2_taker (r := 0) hb (by omega) 5 0 0 (by omega) (by omega) (by omega) (by omega) rfl (by omega)) ?_
               rintro r ν ⟨y, rfl, rfl, rfl⟩
               exact ⟨_, rfl, by rw [tkr, if_neg (by omega), if_neg hnd], by rw [if_neg hnd]⟩)
        · refine s_aload_0 (pc := 26) dX2_takerOf_26 ?_
          refine s_iload_3 (pc := 27) dX2_takerOf_27 ?_
          refine cV1i (pc := 28) (Ky := kX2_draw) dX2_takerOf_28 rfl lnX2_41 okX2_draw ⟨2, TX2, 1, rfl, rfl⟩ ⟨Nat.le_of_ble_eq_true rfl, Nat.le_of_ble_eq_true rfl⟩ (Nat.le_of_ble_eq_true rfl) (c_X2_draw (by omega)) ?_
          rintro _ _ ⟨rfl, rfl⟩
          have hdr : draws sev (on b) := ⟨by omega, by omega⟩
          refine s_goto (pc := 31) 35 dX2_takerOf_31 rfl ?_
          refine s_istore_4 (pc := 35) dX2_takerOf_35 (Nat.le_of_ble_eq_true rfl) rfl ?_
          refine s_iconst_0 (pc := 37) dX2_takerOf_37 ?_
          refine s_istore_5 (pc := 38) dX2_takerOf_38 (Nat.le_of_ble_eq_true rfl) rfl ?_
          first
            | (have _ := hdr
               refine AW.mono (lp_X2_taker (r := lt (μ 116 0) (on b)) hb (by have := hlt (by omega); omega) 5 0 (lt (μ 116 0) (on b)) (by omega) (by omega) (by omega) (by have := hlt (by omega); omega) rfl (by omega)) ?_
               rintro r ν ⟨y, rfl, rfl, rfl⟩
               exact ⟨_, rfl, by rw [tkr, if_neg (by omega), if_pos hdr], by rw [if_pos hdr]⟩)
            | (have hnd : ¬ draws sev (on b) := fun q => by have := q.1; have := q.2; omega
               refine AW.mono (lp_X2_taker (r := 0) hb (by omega) 5 0 0 (by omega) (by omega) (by omega) (by omega) rfl (by omega)) ?_
               rintro r ν ⟨y, rfl, rfl, rfl⟩
               exact ⟨_, rfl, by rw [tkr, if_neg (by omega), if_neg hnd], by rw [if_neg hnd]⟩)
    · refine s_iconst_m1 (pc := 14) dX2_takerOf_14 ?_
      refine s_ireturn (pc := 15) dX2_takerOf_15 rfl ?_
      exact ⟨by rw [tkr, if_pos ⟨by omega, by omega⟩], by rw [if_neg (fun q => by have := q.2; omega)]⟩
theorem lp_X2_eve {κ : Mem} {z : Int} {μ : Mem} (hC : CR κ μ) : ∀ (f : Nat) (i ps : Int) (ν : Mem), (0 ≤ i) → (i ≤ κ 125 0) → (Fr [116] μ ν) → (ν 116 0 = (evN κ z i.toNat).2.2) → (0 ≤ ps ∧ ps ≤ 1) → (κ 126 0 = 1 → ps = (evN κ z i.toNat).2.1) → (κ 126 0 ≠ 1 → (evN κ z i.toNat).2.1 = 0) → κ 125 0 - i < (f : Int) → AW kX2_endOfEvening 10 [some (.inr (.inr 5)), some (.inr (.inr 2)), some (.inl (evN κ z i.toNat).1), some (.inl ps), some (.inl i), none] [] ν (pI (fun y ν => (ev κ z).1 = y ∧ Fr [116] μ ν ∧ ν 116 0 = (ev κ z).2)) := by
  intro f
  induction f with
  | zero =>
    intro i ps ν h0 h1 hF hs hp hpt ht0 hm
    exfalso; omega
  | succ f ih =>
    intro i ps ν h0 h1 hF hs hp hpt ht0 hm
    have hCν := hC.fr hF (by decide)
    have r129 := hC.1.1
    have r125 := hC.1.2.1
    have r126 := hC.1.2.2.1
    have r127 := hC.1.2.2.2.1
    have c106 := hCν.2.2.1
    have c108 : ν 108 0 = κ 127 0 := hCν.2.2.2.2.1
    have hei := evN_in hC.1 (z := z) i.toNat
    have hsu := evN_succ (κ := κ) (z := z) h0
    have hlg := lgN_in (κ := κ) (i := i) (z := (evN κ z i.toNat).2.2) (κ 129 0).toNat
    have hps := pw_small (k := κ 129 0) r129
    generalize hB : lgN κ i (evN κ z i.toNat).2.2 (κ 129 0).toNat = B at *
    have hon := on_in (b := B.1)
    have hlt := fun q => lt_in (z := B.2) (k := on B.1) q
    refine s_iload_4 (pc := 10) dX2_endOfEvening_10 ?_
    refine s_aload_1 (pc := 12) dX2_endOfEvening_12 ?_
    refine gfX2_15 (pc := 13) dX2_endOfEvening_13 rfl ?_
    try rw [c106]
    try rw [c108]
    try rw [c107]
    refine s_icmp_ge (pc := 16) 65 dX2_endOfEvening_16 rfl (by omega) (by omega) (fun h16 => ?_) (fun h16 => ?_)
    · refine s_iload_2 (pc := 65) dX2_endOfEvening_65 ?_
      refine s_ireturn (pc := 66) dX2_endOfEvening_66 rfl ?_
      cases (show i = κ 125 0 by omega)
      exact ⟨rfl, hF, hs⟩
    · refine s_aload_0 (pc := 19) dX2_endOfEvening_19 ?_
      refine s_aload_1 (pc := 20) dX2_endOfEvening_20 ?_
      refine gfX2_18 (pc := 21) dX2_endOfEvening_21 rfl ?_
      try rw [c106]
      try rw [c108]
      try rw [c107]
      refine s_aload_0 (pc := 24) dX2_endOfEvening_24 ?_
      refine s_aload_1 (pc := 25) dX2_endOfEvening_25 ?_
      refine s_iload_4 (pc := 26) dX2_endOfEvening_26 ?_
      refine cV2i (pc := 28) (Ky := kX2_laughing) dX2_endOfEvening_28 rfl lnX2_21 okX2_laughing ⟨2, TX2, 1, rfl, rfl⟩ ⟨Nat.le_of_ble_eq_true rfl, Nat.le_of_ble_eq_true rfl⟩ (Nat.le_of_ble_eq_true rfl) (c_X2_laughing hCν (by omega) hs) ?_
      rintro _ ν28 ⟨rfl, hF28, hs28⟩
      rw [hB]
      rw [hB] at hs28
      have hC28 := hCν.fr hF28 (by decide)
      refine cV2i (pc := 31) (Ky := kX2_takerOf) dX2_endOfEvening_31 rfl lnX2_27 okX2_takerOf ⟨2, TX2, 1, rfl, rfl⟩ ⟨Nat.le_of_ble_eq_true rfl, Nat.le_of_ble_eq_true rfl⟩ (Nat.le_of_ble_eq_true rfl) (c_X2_takerOf (by omega) (by omega)) ?_
      rintro _ _ ⟨rfl, rfl⟩
      rw [hs28]
      have hC31 : CR κ (if draws (κ 127 0) (on B.1) then wr ν28 116 0 (sd B.2) else ν28) := by
        split
        · exact hC28.fr (F := [116]) (Fr.rf.wr (by decide)) (by decide)
        · exact hC28
      have hF31 : Fr [116] μ (if draws (κ 127 0) (on B.1) then wr ν28 116 0 (sd B.2) else ν28) := by
        split
        · exact (hF.tr hF28).wr (by decide)
        · exact hF.tr hF28
      have hs31 : (if draws (κ 127 0) (on B.1) then wr ν28 116 0 (sd B.2) else ν28) 116 0 = if draws (κ 127 0) (on B.1) then sd B.2 else B.2 := by
        split
        · rw [wr_s, if_pos rfl]
        · exact hs28
      have htk : -1 ≤ tkr (κ 127 0) B.1 B.2 ∧ tkr (κ 127 0) B.1 B.2 ≤ 3 := by
        have := @tk_in B.1 (if draws (κ 127 0) (on B.1) then lt B.2 (on B.1) else 0) (-1)
        unfold tkr
        split <;> omega
      have hst : stirs (κ 127 0) (on B.1) ↔ tkr (κ 127 0) B.1 B.2 ≠ -1 := by
        constructor
        · intro q
          unfold tkr
          rw [if_neg (by omega)]
          by_cases hd : draws (κ 127 0) (on B.1)
          · rw [if_pos hd]
            have := tk_some (b := B.1) (r := lt B.2 (on B.1)) (by omega) (hlt (by omega))
            omega
          · rw [if_neg hd]
            have := tk_some (b := B.1) (r := 0) (by omega) (by omega)
            omega
        · intro q
          refine Decidable.byContradiction fun hn => q ?_
          unfold tkr
          by_cases h1 : 1 < on B.1 ∧ κ 127 0 = 0
          · rw [if_pos h1]
          · rw [if_neg h1]
            exact tk_none (by omega)
      have htv : stirs (κ 127 0) (on B.1) → tkr (κ 127 0) B.1 B.2 = tk B.1 (if draws (κ 127 0) (on B.1) then lt B.2 (on B.1) else 0) (-1) := fun q => by
        unfold tkr
        rw [if_neg (by omega)]
      have c107 := hC31.2.2.2.1
      generalize (if draws (κ 127 0) (on B.1) then wr ν28 116 0 (sd B.2) else ν28) = ν31 at *
      refine s_istore_5 (pc := 34) dX2_endOfEvening_34 (Nat.le_of_ble_eq_true rfl) rfl ?_
      refine s_iload_5 (pc := 36) dX2_endOfEvening_36 ?_
      refine s_iconst_m1 (pc := 38) dX2_endOfEvening_38 ?_
      refine s_icmp_eq (pc := 39) 59 dX2_endOfEvening_39 rfl (by omega) (by omega) (fun h39 => ?_) (fun h39 => ?_)
      · have hns : ¬ stirs (κ 127 0) (on B.1) := fun q => hst.mp q (by omega)
        have hd0 : ¬ draws (κ 127 0) (on B.1) := fun q => hns (Or.inr ⟨q.1, by have := q.2; omega⟩)
        rw [evS, if_neg hns] at hsu
        rw [if_neg hd0] at hs31
        refine s_iinc_4 (pc := 59) dX2_endOfEvening_59 (Nat.le_of_ble_eq_true rfl) rfl ?_
        refine s_goto (pc := 62) 10 dX2_endOfEvening_62 rfl ?_
        first
          | (have _ := hns
             refine s_le ?_ (ih (i + 1) ps ν31 (by omega) (by omega) hF31 (by rw [hsu]; exact hs31) hp (by rw [hsu]; exact hpt) (by rw [hsu]; exact ht0) (by omega))
             rw [hsu]
             exact ⟨Or.inr rfl, Or.inr rfl, Or.inr rfl, Or.inr rfl, Or.inr rfl, Or.inl rfl, trivial⟩
             done)
          | (have _ := h51
             have _ := h43
             have hl1 : κ 126 0 = 1 := by omega
             have hp1 := hpt hl1
             have ht1 : (evN κ z i.toNat).2.1 ≠ 0 := by omega
             rw [if_neg ht1, if_pos hl1] at hsu
             refine s_le ?_ (ih (i + 1) ps ν31 (by omega) (by omega) hF31 (by rw [hsu]; exact hs31) hp (by rw [hsu]; intro _; dsimp only; omega) (fun q => absurd hl1 q) (by omega))
             rw [hsu]
             exact ⟨Or.inr rfl, Or.inr rfl, Or.inr rfl, Or.inr rfl, Or.inr rfl, Or.inl rfl, trivial⟩
             done)
          | (have ht1 : (evN κ z i.toNat).2.1 = 0 := by
               by_cases hl1 : κ 126 0 = 1
               · have := hpt hl1; omega
               · exact ht0 hl1
             rw [if_pos ht1] at hsu
             refine s_le ?_ (ih (i + 1) 1 ν31 (by omega) (by omega) hF31 (by rw [hsu]; exact hs31) (by omega) (by rw [hsu]; intro q; dsimp only; rw [if_pos q]) (by rw [hsu]; intro q; dsimp only; rw [if_neg q]) (by omega))
             rw [hsu]
             exact ⟨Or.inr rfl, Or.inr rfl, Or.inr rfl, Or.inr rfl, Or.inr rfl, Or.inl rfl, trivial⟩)
      · have hys : stirs (κ 127 0) (on B.1) := hst.mpr h39
        rw [evS, if_pos hys, ← htv hys] at hsu
        refine s_iload_3 (pc := 42) dX2_endOfEvening_42 ?_
        refine s_if_eq (pc := 43) 54 dX2_endOfEvening_43 rfl (by omega) (fun h43 => ?_) (fun h43 => ?_)
        · refine s_iload_5 (pc := 54) dX2_endOfEvening_54 ?_
          refine s_istore_2 (pc := 56) dX2_endOfEvening_56 (Nat.le_of_ble_eq_true rfl) rfl ?_
          refine s_iconst_1 (pc := 57) dX2_endOfEvening_57 ?_
          refine s_istore_3 (pc := 58) dX2_endOfEvening_58 (Nat.le_of_ble_eq_true rfl) rfl ?_
          refine s_iinc_4 (pc := 59) dX2_endOfEvening_59 (Nat.le_of_ble_eq_true rfl) rfl ?_
          refine s_goto (pc := 62) 10 dX2_endOfEvening_62 rfl ?_
          first
            | (have _ := hns
               refine s_le ?_ (ih (i + 1) ps ν31 (by omega) (by omega) hF31 (by rw [hsu]; exact hs31) hp (by rw [hsu]; exact hpt) (by rw [hsu]; exact ht0) (by omega))
               rw [hsu]
               exact ⟨Or.inr rfl, Or.inr rfl, Or.inr rfl, Or.inr rfl, Or.inr rfl, Or.inl rfl, trivial⟩
               done)
            | (have _ := h51
               have _ := h43
               have hl1 : κ 126 0 = 1 := by omega
               have hp1 := hpt hl1
               have ht1 : (evN κ z i.toNat).2.1 ≠ 0 := by omega
               rw [if_neg ht1, if_pos hl1] at hsu
               refine s_le ?_ (ih (i + 1) ps ν31 (by omega) (by omega) hF31 (by rw [hsu]; exact hs31) hp (by rw [hsu]; intro _; dsimp only; omega) (fun q => absurd hl1 q) (by omega))
               rw [hsu]
               exact ⟨Or.inr rfl, Or.inr rfl, Or.inr rfl, Or.inr rfl, Or.inr rfl, Or.inl rfl, trivial⟩
               done)
            | (have ht1 : (evN κ z i.toNat).2.1 = 0 := by
                 by_cases hl1 : κ 126 0 = 1
                 · have := hpt hl1; omega
                 · exact ht0 hl1
               rw [if_pos ht1] at hsu
               refine s_le ?_ (ih (i + 1) 1 ν31 (by omega) (by omega) hF31 (by rw [hsu]; exact hs31) (by omega) (by rw [hsu]; intro q; dsimp only; rw [if_pos q]) (by rw [hsu]; intro q; dsimp only; rw [if_neg q]) (by omega))
               rw [hsu]
               exact ⟨Or.inr rfl, Or.inr rfl, Or.inr rfl, Or.inr rfl, Or.inr rfl, Or.inl rfl, trivial⟩)
        · refine s_aload_1 (pc := 46) dX2_endOfEvening_46 ?_
          refine gfX2_31 (pc := 47) dX2_endOfEvening_47 rfl ?_
          try rw [c106]
          try rw [c108]
          try rw [c107]
          refine s_iconst_1 (pc := 50) dX2_endOfEvening_50 ?_
          refine s_icmp_eq (pc := 51) 59 dX2_endOfEvening_51 rfl (by omega) (by omega) (fun h51 => ?_) (fun h51 => ?_)
          · refine s_iinc_4 (pc := 59) dX2_endOfEvening_59 (Nat.le_of_ble_eq_true rfl) rfl ?_
            refine s_goto (pc := 62) 10 dX2_endOfEvening_62 rfl ?_
            first
              | (have _ := hns
                 refine s_le ?_ (ih (i + 1) ps ν31 (by omega) (by omega) hF31 (by rw [hsu]; exact hs31) hp (by rw [hsu]; exact hpt) (by rw [hsu]; exact ht0) (by omega))
                 rw [hsu]
                 exact ⟨Or.inr rfl, Or.inr rfl, Or.inr rfl, Or.inr rfl, Or.inr rfl, Or.inl rfl, trivial⟩
                 done)
              | (have _ := h51
                 have _ := h43
                 have hl1 : κ 126 0 = 1 := by omega
                 have hp1 := hpt hl1
                 have ht1 : (evN κ z i.toNat).2.1 ≠ 0 := by omega
                 rw [if_neg ht1, if_pos hl1] at hsu
                 refine s_le ?_ (ih (i + 1) ps ν31 (by omega) (by omega) hF31 (by rw [hsu]; exact hs31) hp (by rw [hsu]; intro _; dsimp only; omega) (fun q => absurd hl1 q) (by omega))
                 rw [hsu]
                 exact ⟨Or.inr rfl, Or.inr rfl, Or.inr rfl, Or.inr rfl, Or.inr rfl, Or.inl rfl, trivial⟩
                 done)
              | (have ht1 : (evN κ z i.toNat).2.1 = 0 := by
                   by_cases hl1 : κ 126 0 = 1
                   · have := hpt hl1; omega
                   · exact ht0 hl1
                 rw [if_pos ht1] at hsu
                 refine s_le ?_ (ih (i + 1) 1 ν31 (by omega) (by omega) hF31 (by rw [hsu]; exact hs31) (by omega) (by rw [hsu]; intro q; dsimp only; rw [if_pos q]) (by rw [hsu]; intro q; dsimp only; rw [if_neg q]) (by omega))
                 rw [hsu]
                 exact ⟨Or.inr rfl, Or.inr rfl, Or.inr rfl, Or.inr rfl, Or.inr rfl, Or.inl rfl, trivial⟩)
          · refine s_iload_5 (pc := 54) dX2_endOfEvening_54 ?_
            refine s_istore_2 (pc := 56) dX2_endOfEvening_56 (Nat.le_of_ble_eq_true rfl) rfl ?_
            refine s_iconst_1 (pc := 57) dX2_endOfEvening_57 ?_
            refine s_istore_3 (pc := 58) dX2_endOfEvening_58 (Nat.le_of_ble_eq_true rfl) rfl ?_
            refine s_iinc_4 (pc := 59) dX2_endOfEvening_59 (Nat.le_of_ble_eq_true rfl) rfl ?_
            refine s_goto (pc := 62) 10 dX2_endOfEvening_62 rfl ?_
            first
              | (have _ := hns
                 refine s_le ?_ (ih (i + 1) ps ν31 (by omega) (by omega) hF31 (by rw [hsu]; exact hs31) hp (by rw [hsu]; exact hpt) (by rw [hsu]; exact ht0) (by omega))
                 rw [hsu]
                 exact ⟨Or.inr rfl, Or.inr rfl, Or.inr rfl, Or.inr rfl, Or.inr rfl, Or.inl rfl, trivial⟩
                 done)
              | (have _ := h51
                 have _ := h43
                 have hl1 : κ 126 0 = 1 := by omega
                 have hp1 := hpt hl1
                 have ht1 : (evN κ z i.toNat).2.1 ≠ 0 := by omega
                 rw [if_neg ht1, if_pos hl1] at hsu
                 refine s_le ?_ (ih (i + 1) ps ν31 (by omega) (by omega) hF31 (by rw [hsu]; exact hs31) hp (by rw [hsu]; intro _; dsimp only; omega) (fun q => absurd hl1 q) (by omega))
                 rw [hsu]
                 exact ⟨Or.inr rfl, Or.inr rfl, Or.inr rfl, Or.inr rfl, Or.inr rfl, Or.inl rfl, trivial⟩
                 done)
              | (have ht1 : (evN κ z i.toNat).2.1 = 0 := by
                   by_cases hl1 : κ 126 0 = 1
                   · have := hpt hl1; omega
                   · exact ht0 hl1
                 rw [if_pos ht1] at hsu
                 refine s_le ?_ (ih (i + 1) 1 ν31 (by omega) (by omega) hF31 (by rw [hsu]; exact hs31) (by omega) (by rw [hsu]; intro q; dsimp only; rw [if_pos q]) (by rw [hsu]; intro q; dsimp only; rw [if_neg q]) (by omega))
                 rw [hsu]
                 exact ⟨Or.inr rfl, Or.inr rfl, Or.inr rfl, Or.inr rfl, Or.inr rfl, Or.inl rfl, trivial⟩)
theorem c_X2_endOfEvening {κ : Mem} {z : Int} {μ : Mem} (hC : CR κ μ) (hz : μ 116 0 = z) : Mc kX2_endOfEvening [.inr (.inr 5), .inr (.inr 2)] μ (pI (fun y ν => (ev κ z).1 = y ∧ Fr [116] μ ν ∧ ν 116 0 = (ev κ z).2)) := by
  refine Mc_of (by decide +kernel) (fun _ => Nat.le_of_ble_eq_true rfl) ?_
  show AW kX2_endOfEvening 0 [some (.inr (.inr 5)), some (.inr (.inr 2)), none, none, none, none] [] μ _
  have r125 := hC.1.2.1
  have c109 : μ 109 0 = κ 128 0 := hC.2.2.2.2.2.1
  refine s_aload_1 (pc := 0) dX2_endOfEvening_0 ?_
  refine gfX2_9 (pc := 1) dX2_endOfEvening_1 rfl ?_
  try rw [c109]
  refine s_istore_2 (pc := 4) dX2_endOfEvening_4 (Nat.le_of_ble_eq_true rfl) rfl ?_
  refine s_iconst_0 (pc := 5) dX2_endOfEvening_5 ?_
  refine s_istore_3 (pc := 6) dX2_endOfEvening_6 (Nat.le_of_ble_eq_true rfl) rfl ?_
  refine s_iconst_0 (pc := 7) dX2_endOfEvening_7 ?_
  refine s_istore_4 (pc := 8) dX2_endOfEvening_8 (Nat.le_of_ble_eq_true rfl) rfl ?_
  exact lp_X2_eve hC 5 0 0 μ (by omega) (by omega) Fr.rf hz (by omega) (fun _ => rfl) (fun _ => rfl) (by omega)
