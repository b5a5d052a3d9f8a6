theorem hd0 {sev b : Int} (hd : ¬ undec sev b) : stp sev b = 0 := if_neg hd
theorem c_X0_passOn {κ : Mem} {a b w : Int} {μ : Mem} (hC : CR κ μ) (ha : 0 ≤ a ∧ a ≤ 55) (hb : 0 ≤ b ∧ b < 16) : Mc kX0_passOn [.inr (.inr 3), .inl a, .inl b, .inr (.inl w)] μ (pV (fun ν => Fr [22] μ ν ∧ ∀ j, ν 22 j = poA μ a b w (κ 127 0) (κ 129 0) j)) := by
  refine Mc_of (by decide +kernel) (fun _ => Nat.le_of_ble_eq_true rfl) ?_
  show AW kX0_passOn 0 [some (.inr (.inr 3)), some (.inl a), some (.inl b), some (.inr (.inl w)), none, none, none, none, none] [] μ _
  have r129 := hC.1.1
  have r127 := hC.1.2.2.2.1
  have c108 : μ 108 0 = κ 127 0 := hC.2.2.2.2.1
  have hon := on_in (b := b)
  refine s_iload_2 (pc := 0) dX0_passOn_0 ?_
  refine cS1i (pc := 1) (Ky := kJ6_bitCount_0f7a4) dX0_passOn_1 rfl lnX0_102 okJ6_bitCount_0f7a4 ⟨Nat.le_of_ble_eq_true rfl, Nat.le_of_ble_eq_true rfl⟩ (Nat.le_of_ble_eq_true rfl) (c_J6_bitCount_0f7a4 hb) ?_
  rintro _ _ ⟨rfl, rfl⟩
  refine s_istore_5 (pc := 4) dX0_passOn_4 (Nat.le_of_ble_eq_true rfl) rfl ?_
  refine s_iload_5 (pc := 6) dX0_passOn_6 ?_
  refine s_if_eq (pc := 8) 27 dX0_passOn_8 rfl (by omega) (fun h8 => ?_) (fun h8 => ?_)
  · have hu : undec (κ 127 0) b := Or.inl (by omega)
    refine s_aload_0 (pc := 27) dX0_passOn_27 ?_
    refine gfX0_15 (pc := 28) dX0_passOn_28 rfl ?_
    refine s_iload_1 (pc := 31) dX0_passOn_31 ?_
    refine s_iconst_4 (pc := 32) dX0_passOn_32 ?_
    refine s_iadd (pc := 33) dX0_passOn_33 ?_
    refine s_dup2 (pc := 34) dX0_passOn_34 rfl rfl ?_
    refine z_laload (pc := 35) dX0_passOn_35 ly_22 (by omega) (by omega) ?_
    try rw [c108]
    refine s_ldc2_w (pc := 36) dX0_passOn_36 rfl cnX0_110 ?_
    refine s_lload_3 (pc := 39) dX0_passOn_39 ?_
    refine s_lmul (pc := 40) dX0_passOn_40 ?_
    refine s_ladd (pc := 41) dX0_passOn_41 ?_
    refine z_lastore (pc := 42) dX0_passOn_42 ly_22 ip_22 (by omega) (by omega) ?_
    refine s_return (pc := 43) dX0_passOn_43 rfl ?_
    refine ⟨Fr.rf.wr (by decide), fun j => ?_⟩
    rw [wr_s]
    unfold poA
    have hst : stp (κ 127 0) b = 12 := if_pos hu
    by_cases hj : j = a + 4
    · rw [if_pos hj, if_pos hj, hst, hj, Int.mul_comm]
    · rw [if_neg hj, if_neg hj]
      have hsh : shp (κ 127 0) b (j - a) = 0 := if_pos hu
      rw [hsh, Int.mul_zero]
      split <;> omega
  · refine s_iload_5 (pc := 11) dX0_passOn_11 ?_
    refine s_iconst_1 (pc := 13) dX0_passOn_13 ?_
    refine s_icmp_le (pc := 14) 44 dX0_passOn_14 rfl (by omega) (by omega) (fun h14 => ?_) (fun h14 => ?_)
    · have hd : ¬ undec (κ 127 0) b := fun q => by rcases q with q | q <;> omega
      refine s_aload_0 (pc := 44) dX0_passOn_44 ?_
      refine gfX0_27 (pc := 45) dX0_passOn_45 rfl ?_
      refine gfX0_107 (pc := 48) dX0_passOn_48 rfl ?_
      try rw [c108]
      refine s_iconst_1 (pc := 51) dX0_passOn_51 ?_
      refine s_icmp_ne (pc := 52) 59 dX0_passOn_52 rfl (by omega) (by omega) (fun h52 => ?_) (fun h52 => ?_)
      · refine s_iload_5 (pc := 59) dX0_passOn_59 ?_
        refine s_valI (y := shr' (κ 127 0) b) (by unfold shr'; first | (rw [if_pos (by omega)]; done) | (rw [if_neg (by omega)]; done)) ?_
        refine s_istore_6 (pc := 61) dX0_passOn_61 (Nat.le_of_ble_eq_true rfl) rfl ?_
        refine s_iload_6 (pc := 63) dX0_passOn_63 ?_
        refine s_istore_7 (pc := 65) dX0_passOn_65 (Nat.le_of_ble_eq_true rfl) rfl ?_
        refine s_iconst_0 (pc := 67) dX0_passOn_67 ?_
        refine s_istore_8 (pc := 68) dX0_passOn_68 (Nat.le_of_ble_eq_true rfl) rfl ?_
        have hg0 : gone (κ 127 0) b 0 = 0 := by
          unfold gone
          rw [show b % (2 : Int) ^ (0 : Int).toNat = 0 by rw [show (2 : Int) ^ (0 : Int).toNat = 1 from rfl]; omega, on_0]
          split <;> rfl
        have := lp_X0_passOn (w := w) (μ := μ) hC ha hb hd 5 0 μ (by omega) (by omega) Fr.rf (fun j => by unfold poA; rw [hd0 hd]; split <;> (try split) <;> (try omega) <;> simp) (by omega)
        rw [hg0, Int.sub_zero] at this
        exact this
      · refine s_iconst_1 (pc := 55) dX0_passOn_55 ?_
        refine s_goto (pc := 56) 61 dX0_passOn_56 rfl ?_
        refine s_valI (y := shr' (κ 127 0) b) (by unfold shr'; first | (rw [if_pos (by omega)]; done) | (rw [if_neg (by omega)]; done)) ?_
        refine s_istore_6 (pc := 61) dX0_passOn_61 (Nat.le_of_ble_eq_true rfl) rfl ?_
        refine s_iload_6 (pc := 63) dX0_passOn_63 ?_
        refine s_istore_7 (pc := 65) dX0_passOn_65 (Nat.le_of_ble_eq_true rfl) rfl ?_
        refine s_iconst_0 (pc := 67) dX0_passOn_67 ?_
        refine s_istore_8 (pc := 68) dX0_passOn_68 (Nat.le_of_ble_eq_true rfl) rfl ?_
        have hg0 : gone (κ 127 0) b 0 = 0 := by
          unfold gone
          rw [show b % (2 : Int) ^ (0 : Int).toNat = 0 by rw [show (2 : Int) ^ (0 : Int).toNat = 1 from rfl]; omega, on_0]
          split <;> rfl
        have := lp_X0_passOn (w := w) (μ := μ) hC ha hb hd 5 0 μ (by omega) (by omega) Fr.rf (fun j => by unfold poA; rw [hd0 hd]; split <;> (try split) <;> (try omega) <;> simp) (by omega)
        rw [hg0, Int.sub_zero] at this
        exact this
    · refine s_aload_0 (pc := 17) dX0_passOn_17 ?_
      refine gfX0_27 (pc := 18) dX0_passOn_18 rfl ?_
      refine gfX0_107 (pc := 21) dX0_passOn_21 rfl ?_
      try rw [c108]
      refine s_if_ne (pc := 24) 44 dX0_passOn_24 rfl (by omega) (fun h24 => ?_) (fun h24 => ?_)
      · have hd : ¬ undec (κ 127 0) b := fun q => by rcases q with q | q <;> omega
        refine s_aload_0 (pc := 44) dX0_passOn_44 ?_
        refine gfX0_27 (pc := 45) dX0_passOn_45 rfl ?_
        refine gfX0_107 (pc := 48) dX0_passOn_48 rfl ?_
        try rw [c108]
        refine s_iconst_1 (pc := 51) dX0_passOn_51 ?_
        refine s_icmp_ne (pc := 52) 59 dX0_passOn_52 rfl (by omega) (by omega) (fun h52 => ?_) (fun h52 => ?_)
        · refine s_iload_5 (pc := 59) dX0_passOn_59 ?_
          refine s_valI (y := shr' (κ 127 0) b) (by unfold shr'; first | (rw [if_pos (by omega)]; done) | (rw [if_neg (by omega)]; done)) ?_
          refine s_istore_6 (pc := 61) dX0_passOn_61 (Nat.le_of_ble_eq_true rfl) rfl ?_
          refine s_iload_6 (pc := 63) dX0_passOn_63 ?_
          refine s_istore_7 (pc := 65) dX0_passOn_65 (Nat.le_of_ble_eq_true rfl) rfl ?_
          refine s_iconst_0 (pc := 67) dX0_passOn_67 ?_
          refine s_istore_8 (pc := 68) dX0_passOn_68 (Nat.le_of_ble_eq_true rfl) rfl ?_
          have hg0 : gone (κ 127 0) b 0 = 0 := by
            unfold gone
            rw [show b % (2 : Int) ^ (0 : Int).toNat = 0 by rw [show (2 : Int) ^ (0 : Int).toNat = 1 from rfl]; omega, on_0]
            split <;> rfl
          have := lp_X0_passOn (w := w) (μ := μ) hC ha hb hd 5 0 μ (by omega) (by omega) Fr.rf (fun j => by unfold poA; rw [hd0 hd]; split <;> (try split) <;> (try omega) <;> simp) (by omega)
          rw [hg0, Int.sub_zero] at this
          exact this
        · refine s_iconst_1 (pc := 55) dX0_passOn_55 ?_
          refine s_goto (pc := 56) 61 dX0_passOn_56 rfl ?_
          refine s_valI (y := shr' (κ 127 0) b) (by unfold shr'; first | (rw [if_pos (by omega)]; done) | (rw [if_neg (by omega)]; done)) ?_
          refine s_istore_6 (pc := 61) dX0_passOn_61 (Nat.le_of_ble_eq_true rfl) rfl ?_
          refine s_iload_6 (pc := 63) dX0_passOn_63 ?_
          refine s_istore_7 (pc := 65) dX0_passOn_65 (Nat.le_of_ble_eq_true rfl) rfl ?_
          refine s_iconst_0 (pc := 67) dX0_passOn_67 ?_
          refine s_istore_8 (pc := 68) dX0_passOn_68 (Nat.le_of_ble_eq_true rfl) rfl ?_
          have hg0 : gone (κ 127 0) b 0 = 0 := by
            unfold gone
            rw [show b % (2 : Int) ^ (0 : Int).toNat = 0 by rw [show (2 : Int) ^ (0 : Int).toNat = 1 from rfl]; omega, on_0]
            split <;> rfl
          have := lp_X0_passOn (w := w) (μ := μ) hC ha hb hd 5 0 μ (by omega) (by omega) Fr.rf (fun j => by unfold poA; rw [hd0 hd]; split <;> (try split) <;> (try omega) <;> simp) (by omega)
          rw [hg0, Int.sub_zero] at this
          exact this
      · have hu : undec (κ 127 0) b := Or.inr ⟨by omega, by omega⟩
        refine s_aload_0 (pc := 27) dX0_passOn_27 ?_
        refine gfX0_15 (pc := 28) dX0_passOn_28 rfl ?_
        refine s_iload_1 (pc := 31) dX0_passOn_31 ?_
        refine s_iconst_4 (pc := 32) dX0_passOn_32 ?_
        refine s_iadd (pc := 33) dX0_passOn_33 ?_
        refine s_dup2 (pc := 34) dX0_passOn_34 rfl rfl ?_
        refine z_laload (pc := 35) dX0_passOn_35 ly_22 (by omega) (by omega) ?_
        try rw [c108]
        refine s_ldc2_w (pc := 36) dX0_passOn_36 rfl cnX0_110 ?_
        refine s_lload_3 (pc := 39) dX0_passOn_39 ?_
        refine s_lmul (pc := 40) dX0_passOn_40 ?_
        refine s_ladd (pc := 41) dX0_passOn_41 ?_
        refine z_lastore (pc := 42) dX0_passOn_42 ly_22 ip_22 (by omega) (by omega) ?_
        refine s_return (pc := 43) dX0_passOn_43 rfl ?_
        refine ⟨Fr.rf.wr (by decide), fun j => ?_⟩
        rw [wr_s]
        unfold poA
        have hst : stp (κ 127 0) b = 12 := if_pos hu
        by_cases hj : j = a + 4
        · rw [if_pos hj, if_pos hj, hst, hj, Int.mul_comm]
        · rw [if_neg hj, if_neg hj]
          have hsh : shp (κ 127 0) b (j - a) = 0 := if_pos hu
          rw [hsh, Int.mul_zero]
          split <;> omega
theorem lp_X0_spread2 {κ : Mem} {k i : Int} {μ : Mem} (hC : CR κ μ) (hk : 0 ≤ k ∧ k ≤ 11) (hi : 0 ≤ i ∧ i < κ 125 0) (hs : ∀ b : Int, 0 ≤ b → b < 2 ^ (κ 129 0).toNat → μ 21 b = wy κ i b) : ∀ (f : Nat) (b : Int) (ν : Mem), (0 ≤ b) → (b ≤ 2 ^ (κ 129 0).toNat) → (Fr [22] μ ν) → (∀ j : Int, j < 5 * k ∨ 5 * k + 5 ≤ j → ν 22 j = μ 22 j) → (ν 22 (5 * k + 4) = styN κ i b.toNat) → (∀ p : Int, 0 ≤ p → p < κ 129 0 → ν 22 (5 * k + p) = pasN κ i p b.toNat) → 2 ^ (κ 129 0).toNat - b < (f : Int) → AW kX0_spread 28 [some (.inr (.inr 3)), some (.inl k), some (.inl (5 * k)), some (.inl b)] [] ν (pV (fun ν => Fr [22] μ ν ∧ (∀ j : Int, j < 5 * k ∨ 5 * k + 5 ≤ j → ν 22 j = μ 22 j) ∧ ν 22 (5 * k + 4) = sty κ i ∧ ∀ p : Int, 0 ≤ p → p < κ 129 0 → ν 22 (5 * k + p) = pas κ i p)) := by
  intro f
  induction f with
  | zero =>
    intro b ν h0 h1 hF ho hv4 hvp hm
    exfalso; omega
  | succ f ih =>
    intro b ν h0 h1 hF ho hv4 hvp hm
    have hCν := hC.fr hF (by decide)
    have r129 := hC.1.1
    have r125 := hC.1.2.1
    have c105 := hCν.2.1
    have hps := pw_small r129
    have hwi := wy_in hC.1 (i := i) (b := b) (by omega)
    have hs21 : b < 2 ^ (κ 129 0).toNat → ν 21 b = wy κ i b := fun q => by rw [hF.at 21 rfl b]; exact hs b h0 q
    have hst : styN κ i (b + 1).toNat = styN κ i b.toNat + wy κ i b * stp (κ 127 0) b := sm_succ (f := fun b => wy κ i b * stp (κ 127 0) b) h0
    have hsp : ∀ p, pasN κ i p (b + 1).toNat = pasN κ i p b.toNat + wy κ i b * shp (κ 127 0) b p := fun p => sm_succ (f := fun b => wy κ i b * shp (κ 127 0) b p) h0
    refine s_iload_3 (pc := 28) dX0_spread_28 ?_
    refine s_iconst_1 (pc := 29) dX0_spread_29 ?_
    refine s_aload_0 (pc := 30) dX0_spread_30 ?_
    refine gfX0_27 (pc := 31) dX0_spread_31 rfl ?_
    refine gfX0_91 (pc := 34) dX0_spread_34 rfl ?_
    try rw [c105]
    refine s_ishl (pc := 37) dX0_spread_37 ?_
    rw [shl1 (by omega)]
    refine s_icmp_ge (pc := 38) 70 dX0_spread_38 rfl (by omega) (by omega) (fun h38 => ?_) (fun h38 => ?_)
    · refine s_return (pc := 70) dX0_spread_70 rfl ?_
      have hbe : b.toNat = pP κ := by
        have := pw_nat (k := κ 129 0)
        unfold pP
        omega
      rw [hbe] at hv4 hvp
      exact ⟨hF, ho, hv4, hvp⟩
    · refine s_aload_0 (pc := 41) dX0_spread_41 ?_
      refine gfX0_9 (pc := 42) dX0_spread_42 rfl ?_
      refine s_iload_3 (pc := 45) dX0_spread_45 ?_
      refine z_laload (pc := 46) dX0_spread_46 ly_21 (by omega) (by omega) ?_
      try rw [c105]
      rw [hs21 (by omega)]
      refine s_lconst_0 (pc := 47) dX0_spread_47 ?_
      refine s_lif_eq (pc := 48) 64 dX0_spread_48 dX0_spread_49 rfl (by omega) (by omega) (fun h49 => ?_) (fun h49 => ?_)
      · have hw0 : wy κ i b = 0 := by omega
        rw [hw0, Int.zero_mul, Int.add_zero] at hst
        have hsp0 : ∀ p, pasN κ i p (b + 1).toNat = pasN κ i p b.toNat := fun p => by rw [hsp, hw0, Int.zero_mul, Int.add_zero]
        refine s_iinc_3 (pc := 64) dX0_spread_64 (Nat.le_of_ble_eq_true rfl) rfl ?_
        refine s_goto (pc := 67) 28 dX0_spread_67 rfl ?_
        first
          | (exact ih (b + 1) _ (by omega) (by omega) hF ho (by rw [hst]; exact hv4) (fun p p0 p1 => by rw [hsp0]; exact hvp p p0 p1) (by omega))
          | (refine ih (b + 1) _ (by omega) (by omega) (hF.tr hF61) (fun j hj => ?_) ?_ (fun p p0 p1 => ?_) (by omega)
             · rw [hv61, poA, if_neg (by omega), if_neg (by omega), Int.add_zero]; exact ho j hj
             · rw [hv61, poA, if_pos rfl, hv4, hst]
             · rw [hv61, poA, if_neg (by omega), if_pos (by omega), hvp p p0 p1, hsp, show 5 * k + p - 5 * k = p by omega])
      · refine s_aload_0 (pc := 52) dX0_spread_52 ?_
        refine s_iload_2 (pc := 53) dX0_spread_53 ?_
        refine s_iload_3 (pc := 54) dX0_spread_54 ?_
        refine s_aload_0 (pc := 55) dX0_spread_55 ?_
        refine gfX0_9 (pc := 56) dX0_spread_56 rfl ?_
        refine s_iload_3 (pc := 59) dX0_spread_59 ?_
        refine z_laload (pc := 60) dX0_spread_60 ly_21 (by omega) (by omega) ?_
        try rw [c105]
        rw [hs21 (by omega)]
        refine cV3v (pc := 61) (Ky := kX0_passOn) dX0_spread_61 rfl lnX0_98 okX0_passOn ⟨0, TX0, 7, rfl, rfl⟩ ⟨Nat.le_of_ble_eq_true rfl, Nat.le_of_ble_eq_true rfl⟩ (Nat.le_of_ble_eq_true rfl) (c_X0_passOn hCν (by omega) (by omega)) ?_
        rintro ν61 ⟨hF61, hv61⟩
        refine s_iinc_3 (pc := 64) dX0_spread_64 (Nat.le_of_ble_eq_true rfl) rfl ?_
        refine s_goto (pc := 67) 28 dX0_spread_67 rfl ?_
        first
          | (exact ih (b + 1) _ (by omega) (by omega) hF ho (by rw [hst]; exact hv4) (fun p p0 p1 => by rw [hsp0]; exact hvp p p0 p1) (by omega))
          | (refine ih (b + 1) _ (by omega) (by omega) (hF.tr hF61) (fun j hj => ?_) ?_ (fun p p0 p1 => ?_) (by omega)
             · rw [hv61, poA, if_neg (by omega), if_neg (by omega), Int.add_zero]; exact ho j hj
             · rw [hv61, poA, if_pos rfl, hv4, hst]
             · rw [hv61, poA, if_neg (by omega), if_pos (by omega), hvp p p0 p1, hsp, show 5 * k + p - 5 * k = p by omega])
theorem lp_X0_spread1 {κ : Mem} {k i : Int} {μ : Mem} (hC : CR κ μ) (hk : 0 ≤ k ∧ k ≤ 11) (hi : 0 ≤ i ∧ i < κ 125 0) (hs : ∀ b : Int, 0 ≤ b → b < 2 ^ (κ 129 0).toNat → μ 21 b = wy κ i b) : ∀ (f : Nat) (j : Int) (ν : Mem), (0 ≤ j) → (j ≤ 5) → (Fr [22] μ ν) → (∀ q : Int, q < 5 * k ∨ 5 * k + 5 ≤ q → ν 22 q = μ 22 q) → (∀ q : Int, 0 ≤ q → q < j → ν 22 (5 * k + q) = 0) → 5 - j < (f : Int) → AW kX0_spread 6 [some (.inr (.inr 3)), some (.inl k), some (.inl (5 * k)), some (.inl j)] [] ν (pV (fun ν => Fr [22] μ ν ∧ (∀ j : Int, j < 5 * k ∨ 5 * k + 5 ≤ j → ν 22 j = μ 22 j) ∧ ν 22 (5 * k + 4) = sty κ i ∧ ∀ p : Int, 0 ≤ p → p < κ 129 0 → ν 22 (5 * k + p) = pas κ i p)) := by
  intro f
  induction f with
  | zero =>
    intro j ν h0 h1 hF ho hv hm
    exfalso; omega
  | succ f ih =>
    intro j ν h0 h1 hF ho hv hm
    refine s_iload_3 (pc := 6) dX0_spread_6 ?_
    refine s_iconst_5 (pc := 7) dX0_spread_7 ?_
    refine s_icmp_ge (pc := 8) 26 dX0_spread_8 rfl (by omega) (by omega) (fun h8 => ?_) (fun h8 => ?_)
    · refine s_iconst_0 (pc := 26) dX0_spread_26 ?_
      refine s_istore_3 (pc := 27) dX0_spread_27 (Nat.le_of_ble_eq_true rfl) rfl ?_
      have r129 := hC.1.1
      have hps := pw_small r129
      have := lp_X0_spread2 (k := k) hC hk hi hs 17 0 ν (by omega) (by omega) hF ho (hv 4 (by omega) (by omega)) (fun p p0 p1 => hv p p0 (by omega)) (by omega)
      exact this
    · refine s_aload_0 (pc := 11) dX0_spread_11 ?_
      refine gfX0_15 (pc := 12) dX0_spread_12 rfl ?_
      refine s_iload_2 (pc := 15) dX0_spread_15 ?_
      refine s_iload_3 (pc := 16) dX0_spread_16 ?_
      refine s_iadd (pc := 17) dX0_spread_17 ?_
      refine s_lconst_0 (pc := 18) dX0_spread_18 ?_
      refine z_lastore (pc := 19) dX0_spread_19 ly_22 ip_22 (by omega) (by omega) ?_
      refine s_iinc_3 (pc := 20) dX0_spread_20 (Nat.le_of_ble_eq_true rfl) rfl ?_
      refine s_goto (pc := 23) 6 dX0_spread_23 rfl ?_
      refine ih (j + 1) _ (by omega) (by omega) (hF.wr (by decide)) (fun q hq => by rw [wr_s, if_neg (by omega)]; exact ho q hq) (fun q q0 q1 => ?_) (by omega)
      by_cases hq : q = j
      · rw [hq, wr_s, if_pos rfl]
      · rw [wr_s, if_neg (by omega)]; exact hv q q0 (by omega)
theorem c_X0_spread {κ : Mem} {k i : Int} {μ : Mem} (hC : CR κ μ) (hk : 0 ≤ k ∧ k ≤ 11) (hi : 0 ≤ i ∧ i < κ 125 0) (hs : ∀ b : Int, 0 ≤ b → b < 2 ^ (κ 129 0).toNat → μ 21 b = wy κ i b) : Mc kX0_spread [.inr (.inr 3), .inl k] μ (pV (fun ν => Fr [22] μ ν ∧ (∀ j : Int, j < 5 * k ∨ 5 * k + 5 ≤ j → ν 22 j = μ 22 j) ∧ ν 22 (5 * k + 4) = sty κ i ∧ ∀ p : Int, 0 ≤ p → p < κ 129 0 → ν 22 (5 * k + p) = pas κ i p)) := by
  refine Mc_of (by decide +kernel) (fun _ => Nat.le_of_ble_eq_true rfl) ?_
  show AW kX0_spread 0 [some (.inr (.inr 3)), some (.inl k), none, none] [] μ _
  refine s_iconst_5 (pc := 0) dX0_spread_0 ?_
  refine s_iload_1 (pc := 1) dX0_spread_1 ?_
  refine s_imul (pc := 2) dX0_spread_2 ?_
  refine s_istore_2 (pc := 3) dX0_spread_3 (Nat.le_of_ble_eq_true rfl) rfl ?_
  refine s_iconst_0 (pc := 4) dX0_spread_4 ?_
  refine s_istore_3 (pc := 5) dX0_spread_5 (Nat.le_of_ble_eq_true rfl) rfl ?_
  exact lp_X0_spread1 hC hk hi hs 6 0 μ (by omega) (by omega) Fr.rf (fun _ _ => rfl) (fun q q0 q1 => by omega) (by omega)
