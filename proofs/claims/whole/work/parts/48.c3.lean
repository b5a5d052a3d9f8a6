/-! ===== the class's sets ===== -/
theorem bt_add {b p j : Int} (hp : 0 ≤ p ∧ p < 4) (hb : 0 ≤ b ∧ b < 2 ^ p.toNat) (hj : 0 ≤ j ∧ j < 4) : (j < p → bt (b + 2 ^ p.toNat) j = bt b j) ∧ bt (b + 2 ^ p.toNat) p = 1 ∧ bt b p = 0 := by
  have h16 : b < 16 := by
    have : (2 : Int) ^ p.toNat ≤ 16 := (pw_small (k := p) (by omega)).2
    omega
  obtain ⟨hb0, hb1⟩ := hb
  revert hb1
  refine four (P := fun p => b < 2 ^ p.toNat → ((j < p → bt (b + 2 ^ p.toNat) j = bt b j) ∧ bt (b + 2 ^ p.toNat) p = 1 ∧ bt b p = 0)) hp ?_ ?_ ?_ ?_ <;> refine four (P := fun j => b < 2 ^ _ → ((j < _ → bt (b + 2 ^ _) j = bt b j) ∧ bt (b + 2 ^ _) _ = 1 ∧ bt b _ = 0)) hj ?_ ?_ ?_ ?_ <;> refine bits16 (P := fun b => b < 2 ^ _ → ((_ < _ → bt (b + 2 ^ _) _ = bt b _) ∧ bt (b + 2 ^ _) _ = 1 ∧ bt b _ = 0)) ⟨hb0, h16⟩ ?_ ?_ ?_ ?_ ?_ ?_ ?_ ?_ ?_ ?_ ?_ ?_ ?_ ?_ ?_ ?_ <;> decide +kernel
theorem bt_above {b j P : Int} (hP : 0 ≤ P ∧ P ≤ 4) (hb : 0 ≤ b ∧ b < 2 ^ P.toNat) (hj : P ≤ j ∧ j < 4) : bt b j = 0 := by
  have h1 : (2 : Int) ^ P.toNat ≤ 2 ^ j.toNat := by
    obtain ⟨q1, q2⟩ := hj
    clear hb
    rcases (show P = 0 ∨ P = 1 ∨ P = 2 ∨ P = 3 by omega) with rfl | rfl | rfl | rfl <;> rcases (show j = 0 ∨ j = 1 ∨ j = 2 ∨ j = 3 by omega) with rfl | rfl | rfl | rfl <;> first | decide | (exfalso; omega)
  exact (bt_add (b := b) (p := j) (j := j) (by omega) ⟨hb.1, by omega⟩ (by omega)).2.2
theorem wyN_bit {κ : Mem} {i b p : Int} (hp : 0 ≤ p ∧ p < 4) (hb : 0 ≤ b ∧ b < 2 ^ p.toNat) : ∀ m : Nat, (m : Int) ≤ p → wyN κ i (b + 2 ^ p.toNat) m = wyN κ i b m
  | 0, _ => rfl
  | m + 1, hm => by
    have ih := wyN_bit (κ := κ) (i := i) hp hb m (by omega)
    have hb2 := (bt_add hp hb (j := m) (by omega)).1 (by omega)
    unfold wyN
    rw [ih, hb2]
theorem wyN_top {κ : Mem} {i b : Int} (hP : 0 ≤ κ 129 0 ∧ κ 129 0 ≤ 4) (hb : 0 ≤ b ∧ b < 2 ^ (κ 129 0).toNat) : ∀ d : Nat, (d : Int) ≤ 4 - κ 129 0 → wyN κ i b ((κ 129 0).toNat + d) = 4 ^ d * wyN κ i b (κ 129 0).toNat
  | 0, _ => by rw [Nat.add_zero]; omega
  | d + 1, hd => by
    have ih := wyN_top hP hb (i := i) d (by omega)
    have hz := bt_above hP hb (j := (((κ 129 0).toNat + d : Nat) : Int)) (by omega)
    have hq : qk κ i (((κ 129 0).toNat + d : Nat) : Int) = 0 := if_neg (by omega)
    rw [show (κ 129 0).toNat + (d + 1) = ((κ 129 0).toNat + d) + 1 by omega]
    show wyN κ i b ((κ 129 0).toNat + d) * (if bt b (((κ 129 0).toNat + d : Nat) : Int) = 1 then qk κ i (((κ 129 0).toNat + d : Nat) : Int) else 4 - qk κ i (((κ 129 0).toNat + d : Nat) : Int)) = _
    rw [ih, hz, hq, if_neg (by decide), Int.pow_succ]
    generalize wyN κ i b (κ 129 0).toNat = w
    generalize (4 : Int) ^ d = x
    grind
theorem wy_top {κ : Mem} {i b : Int} (hP : 0 ≤ κ 129 0 ∧ κ 129 0 ≤ 4) (hb : 0 ≤ b ∧ b < 2 ^ (κ 129 0).toNat) : 4 ^ (4 - κ 129 0).toNat * wyN κ i b (κ 129 0).toNat = wy κ i b := by
  have := wyN_top hP hb (i := i) (4 - κ 129 0).toNat (by omega)
  rw [show (κ 129 0).toNat + (4 - κ 129 0).toNat = 4 by omega] at this
  exact this.symm
def spV (κ : Mem) (i b : Int) (p : Nat) : Int := 4 ^ (4 - κ 129 0).toNat * wyN κ i b p
theorem pw8 {p : Int} (h : 0 ≤ p ∧ p < 4) : 1 ≤ (2 : Int) ^ p.toNat ∧ (2 : Int) ^ p.toNat ≤ 8 := by
  rcases (show p = 0 ∨ p = 1 ∨ p = 2 ∨ p = 3 by omega) with rfl | rfl | rfl | rfl <;> decide
theorem CR.fr {κ μ ν : Mem} {F : List Nat} (hC : CR κ μ) (hF : Fr F μ ν) (h : F.all (fun c => decide (c ∉ [17, 18, 19, 20, 105, 106, 107, 108, 109, 110])) = true) : CR κ ν := by
  have hc : ∀ c : Nat, c ∈ [17, 18, 19, 20, 105, 106, 107, 108, 109, 110] → ν c = μ c := fun c h1 => by
    refine hF c (fun q => ?_)
    have := List.all_eq_true.mp h c q
    simp only [decide_eq_true_eq] at this
    exact this h1
  unfold CR
  rw [hc 17 (by decide), hc 18 (by decide), hc 19 (by decide), hc 20 (by decide), hc 105 (by decide), hc 106 (by decide), hc 107 (by decide), hc 108 (by decide), hc 109 (by decide), hc 110 (by decide)]
  exact hC
theorem lp_X0_split2 {κ : Mem} {i p : Int} {μ : Mem} {post : Option AV → Mem → Prop} (hp : 0 ≤ p ∧ p < 4) (hq : 0 ≤ kq κ p i ∧ kq κ p i ≤ 4) (hs : ∀ c : Int, 0 ≤ c → c < 2 ^ p.toNat → μ 21 c = spV κ i c p.toNat) (hk : ∀ ν, Fr [21] μ ν → (∀ c : Int, 0 ≤ c → c < 2 ^ p.toNat → ν 21 (c + 2 ^ p.toNat) = spV κ i c p.toNat * kq κ p i ∧ ν 21 c = spV κ i c p.toNat * (4 - kq κ p i)) → AW kX0_split 98 [some (.inr (.inr 3)), some (.inl i), some (.inl p), none, none, none] [] ν post) : ∀ (f : Nat) (b : Int) (ν : Mem), (0 ≤ b) → (b ≤ 2 ^ p.toNat) → (Fr [21] μ ν) → (∀ c : Int, 0 ≤ c → c < b → ν 21 (c + 2 ^ p.toNat) = spV κ i c p.toNat * kq κ p i ∧ ν 21 c = spV κ i c p.toNat * (4 - kq κ p i)) → (∀ c : Int, b ≤ c → c < 2 ^ p.toNat → ν 21 c = spV κ i c p.toNat) → 2 ^ p.toNat - b < (f : Int) → AW kX0_split 51 [some (.inr (.inr 3)), some (.inl i), some (.inl p), some (.inl (kq κ p i)), some (.inl (2 ^ p.toNat)), some (.inl b)] [] ν (post) := by
  intro f
  induction f with
  | zero =>
    intro b ν h0 h1 hF hv hu hm
    exfalso; omega
  | succ f ih =>
    intro b ν h0 h1 hF hv hu hm
    have hpw := pw8 hp
    refine s_iload_5 (pc := 51) dX0_split_51 ?_
    refine s_iload_4 (pc := 53) dX0_split_53 ?_
    refine s_icmp_ge (pc := 55) 98 dX0_split_55 rfl (by omega) (by omega) (fun h55 => ?_) (fun h55 => ?_)
    · cases (show b = 2 ^ p.toNat by omega)
      refine s_le ?_ (hk ν hF hv)
      exact ⟨Or.inr rfl, Or.inr rfl, Or.inr rfl, Or.inl rfl, Or.inl rfl, Or.inl rfl, trivial⟩
    · refine s_aload_0 (pc := 58) dX0_split_58 ?_
      refine gfX0_9 (pc := 59) dX0_split_59 rfl ?_
      refine s_iload_5 (pc := 62) dX0_split_62 ?_
      refine s_iload_4 (pc := 64) dX0_split_64 ?_
      refine s_iadd (pc := 66) dX0_split_66 ?_
      refine s_aload_0 (pc := 67) dX0_split_67 ?_
      refine gfX0_9 (pc := 68) dX0_split_68 rfl ?_
      refine s_iload_5 (pc := 71) dX0_split_71 ?_
      refine z_laload (pc := 73) dX0_split_73 ly_21 (by omega) (by omega) ?_
      try simp (decide := true) only [wr_s, wr_n, wa_s, wa_n, mg_i, mg_o, if_true, eq_self, reduceIte]
      have hub := hu b (by omega) (by omega)
      rw [hub]
      refine s_iload_3 (pc := 74) dX0_split_74 ?_
      refine s_i2l (pc := 75) dX0_split_75 (by omega) ?_
      refine s_lmul (pc := 76) dX0_split_76 ?_
      refine z_lastore (pc := 77) dX0_split_77 ly_21 ip_21 (by omega) (by omega) ?_
      refine s_aload_0 (pc := 78) dX0_split_78 ?_
      refine gfX0_9 (pc := 79) dX0_split_79 rfl ?_
      refine s_iload_5 (pc := 82) dX0_split_82 ?_
      refine s_dup2 (pc := 84) dX0_split_84 rfl rfl ?_
      refine z_laload (pc := 85) dX0_split_85 ly_21 (by omega) (by omega) ?_
      try simp (decide := true) only [wr_s, wr_n, wa_s, wa_n, mg_i, mg_o, if_true, eq_self, reduceIte]
      refine s_iconst_4 (pc := 86) dX0_split_86 ?_
      refine s_iload_3 (pc := 87) dX0_split_87 ?_
      refine s_isub (pc := 88) dX0_split_88 ?_
      refine s_i2l (pc := 89) dX0_split_89 (by omega) ?_
      refine s_lmul (pc := 90) dX0_split_90 ?_
      refine z_lastore (pc := 91) dX0_split_91 ly_21 ip_21 (by omega) (by omega) ?_
      refine s_iinc_5 (pc := 92) dX0_split_92 (Nat.le_of_ble_eq_true rfl) rfl ?_
      refine s_goto (pc := 95) 51 dX0_split_95 rfl ?_
      refine s_le ?_ (ih (b + 1) _ (by omega) (by omega) ((hF.wr (by decide)).wr (by decide)) (fun c c0 c1 => ?_) (fun c c0 c1 => ?_) (by omega))
      · exact ⟨Or.inr rfl, Or.inr rfl, Or.inr rfl, Or.inr rfl, Or.inr rfl, Or.inr rfl, trivial⟩
      · by_cases hc : c = b
        · rw [hc]
          refine ⟨?_, ?_⟩
          · rw [wr_s, if_neg (by omega), wr_s, if_pos rfl]
          · rw [wr_s, if_pos rfl]
            first | rw [if_neg (by omega), hub] | rw [hub]
        · have := hv c c0 (by omega)
          refine ⟨?_, ?_⟩
          · rw [wr_s, if_neg (by omega), wr_s, if_neg (by omega)]; exact this.1
          · rw [wr_s, if_neg (by omega), wr_s, if_neg (by omega)]; exact this.2
      · rw [wr_s, if_neg (by omega), wr_s, if_neg (by omega)]; exact hu c (by omega) c1
theorem lp_X0_split1 {κ : Mem} {i : Int} {μ : Mem} (hC : CR κ μ) (hi : 0 ≤ i ∧ i < κ 125 0) : ∀ (f : Nat) (p : Int) (ν : Mem), (0 ≤ p) → (p ≤ κ 129 0) → (Fr [21] μ ν) → (∀ c : Int, 0 ≤ c → c < 2 ^ p.toNat → ν 21 c = spV κ i c p.toNat) → κ 129 0 - p < (f : Int) → AW kX0_split 22 [some (.inr (.inr 3)), some (.inl i), some (.inl p), none, none, none] [] ν (pV (fun ν => Fr [21] μ ν ∧ ∀ b : Int, 0 ≤ b → b < 2 ^ (κ 129 0).toNat → ν 21 b = wy κ i b)) := by
  intro f
  induction f with
  | zero =>
    intro p ν h0 h1 hF hv hm
    exfalso; omega
  | succ f ih =>
    intro p ν h0 h1 hF hv hm
    have hCν := hC.fr hF (by decide)
    have r129 := hC.1.1
    have r125 := hC.1.2.1
    have c105 := hCν.2.1
    refine s_iload_2 (pc := 22) dX0_split_22 ?_
    refine s_aload_0 (pc := 23) dX0_split_23 ?_
    refine gfX0_27 (pc := 24) dX0_split_24 rfl ?_
    refine gfX0_91 (pc := 27) dX0_split_27 rfl ?_
    try simp (decide := true) only [wr_s, wr_n, wa_s, wa_n, mg_i, mg_o, if_true, eq_self, reduceIte]
    try rw [c105]
    refine s_icmp_ge (pc := 30) 104 dX0_split_30 rfl (by omega) (by omega) (fun h30 => ?_) (fun h30 => ?_)
    · refine s_return (pc := 104) dX0_split_104 rfl ?_
      cases (show p = κ 129 0 by omega)
      refine ⟨hF, fun b b0 b1 => ?_⟩
      rw [hv b b0 b1]
      exact wy_top r129 ⟨b0, b1⟩
    · refine s_aload_0 (pc := 33) dX0_split_33 ?_
      refine gfX0_27 (pc := 34) dX0_split_34 rfl ?_
      refine s_iload_2 (pc := 37) dX0_split_37 ?_
      refine s_iload_1 (pc := 38) dX0_split_38 ?_
      refine cV2i (pc := 39) (Ky := kX1_quartersAt) dX0_split_39 rfl lnX0_94 okX1_quartersAt ⟨1, TX1, 13, rfl, rfl⟩ ⟨Nat.le_of_ble_eq_true rfl, Nat.le_of_ble_eq_true rfl⟩ (Nat.le_of_ble_eq_true rfl) (c_X1_quartersAt hCν (by omega) hi) ?_
      rintro _ _ ⟨rfl, rfl⟩
      have hq := kq_in hC.1 (p := p) (i := i) (by omega) (by omega)
      have hpw := pw8 (p := p) (by omega)
      refine s_istore_3 (pc := 42) dX0_split_42 (Nat.le_of_ble_eq_true rfl) rfl ?_
      refine s_iconst_1 (pc := 43) dX0_split_43 ?_
      refine s_iload_2 (pc := 44) dX0_split_44 ?_
      refine s_ishl (pc := 45) dX0_split_45 ?_
      rw [shl1 (by omega)]
      refine s_istore_4 (pc := 46) dX0_split_46 (Nat.le_of_ble_eq_true rfl) rfl ?_
      refine s_iconst_0 (pc := 48) dX0_split_48 ?_
      refine s_istore_5 (pc := 49) dX0_split_49 (Nat.le_of_ble_eq_true rfl) rfl ?_
      refine s_le ?_ (lp_X0_split2 (κ := κ) (i := i) (p := p) (μ := ν) (by omega) hq hv ?_ 9 0 ν (by omega) (by omega) Fr.rf (fun c c0 c1 => by omega) (fun c c0 c1 => hv c c0 c1) (by omega))
      · exact ⟨Or.inr rfl, Or.inr rfl, Or.inr rfl, Or.inr rfl, Or.inr rfl, Or.inr rfl, trivial⟩
      intro ν2 hF2 hv2
      refine s_iinc_2 (pc := 98) dX0_split_98 (Nat.le_of_ble_eq_true rfl) rfl ?_
      refine s_goto (pc := 101) 22 dX0_split_101 rfl ?_
      refine s_le ?_ (ih (p + 1) ν2 (by omega) (by omega) (hF.tr hF2) (fun c c0 c1 => ?_) (by omega))
      · exact ⟨Or.inr rfl, Or.inr rfl, Or.inr rfl, Or.inl rfl, Or.inl rfl, Or.inl rfl, trivial⟩
      have e2 : (2 : Int) ^ (p + 1).toNat = 2 ^ p.toNat * 2 := by rw [show (p + 1).toNat = p.toNat + 1 by omega, Int.pow_succ]
      have hpq : qk κ i ((p.toNat : Nat) : Int) = kq κ p i := by rw [show ((p.toNat : Nat) : Int) = p by omega]; exact if_pos (by omega)
      rw [spV, show (p + 1).toNat = p.toNat + 1 by omega]
      unfold wyN
      rw [hpq, show ((p.toNat : Nat) : Int) = p by omega, ← Int.mul_assoc]
      by_cases hc : c < 2 ^ p.toNat
      · have hb := (bt_add (b := c) (p := p) (j := p) (by omega) ⟨c0, hc⟩ (by omega)).2.2
        rw [(hv2 c c0 hc).2, hb, if_neg (by decide), spV]
      · have hb := (bt_add (b := c - 2 ^ p.toNat) (p := p) (j := p) (by omega) ⟨by omega, by omega⟩ (by omega)).2.1
        have hw := wyN_bit (κ := κ) (i := i) (b := c - 2 ^ p.toNat) (p := p) (by omega) ⟨by omega, by omega⟩ p.toNat (by omega)
        have h3 := (hv2 (c - 2 ^ p.toNat) (by omega) (by omega)).1
        rw [show c - 2 ^ p.toNat + 2 ^ p.toNat = c by omega] at hb hw h3
        rw [h3, hb, if_pos rfl, spV, hw]
theorem c_X0_split {κ : Mem} {i : Int} {μ : Mem} (hC : CR κ μ) (hi : 0 ≤ i ∧ i < κ 125 0) : Mc kX0_split [.inr (.inr 3), .inl i] μ (pV (fun ν => Fr [21] μ ν ∧ ∀ b : Int, 0 ≤ b → b < 2 ^ (κ 129 0).toNat → ν 21 b = wy κ i b)) := by
  refine Mc_of (by decide +kernel) (fun _ => Nat.le_of_ble_eq_true rfl) ?_
  show AW kX0_split 0 [some (.inr (.inr 3)), some (.inl i), none, none, none, none] [] μ _
  have r129 := hC.1.1
  have r125 := hC.1.2.1
  have c105 := hC.2.1
  refine s_aload_0 (pc := 0) dX0_split_0 ?_
  refine gfX0_9 (pc := 1) dX0_split_1 rfl ?_
  refine s_iconst_0 (pc := 4) dX0_split_4 ?_
  refine s_iconst_1 (pc := 5) dX0_split_5 ?_
  refine s_iconst_2 (pc := 6) dX0_split_6 ?_
  refine s_iconst_4 (pc := 7) dX0_split_7 ?_
  refine s_aload_0 (pc := 8) dX0_split_8 ?_
  refine gfX0_27 (pc := 9) dX0_split_9 rfl ?_
  refine gfX0_91 (pc := 12) dX0_split_12 rfl ?_
  try simp (decide := true) only [wr_s, wr_n, wa_s, wa_n, mg_i, mg_o, if_true, eq_self, reduceIte]
  try rw [c105]
  refine s_isub (pc := 15) dX0_split_15 ?_
  refine s_imul (pc := 16) dX0_split_16 ?_
  refine s_ishl (pc := 17) dX0_split_17 ?_
  rw [shl1 (by omega)]
  have h256 : (2 : Int) ^ (2 * (4 - κ 129 0)).toNat = 4 ^ (4 - κ 129 0).toNat ∧ (4 : Int) ^ (4 - κ 129 0).toNat ≤ 256 ∧ 1 ≤ (4 : Int) ^ (4 - κ 129 0).toNat := by
    rcases (show κ 129 0 = 0 ∨ κ 129 0 = 1 ∨ κ 129 0 = 2 ∨ κ 129 0 = 3 ∨ κ 129 0 = 4 by omega) with e | e | e | e | e <;> rw [e] <;> decide
  rw [h256.1]
  refine s_i2l (pc := 18) dX0_split_18 (by omega) ?_
  refine z_lastore (pc := 19) dX0_split_19 ly_21 ip_21 (by omega) (by omega) ?_
  refine s_iconst_0 (pc := 20) dX0_split_20 ?_
  refine s_istore_2 (pc := 21) dX0_split_21 (Nat.le_of_ble_eq_true rfl) rfl ?_
  exact lp_X0_split1 hC hi 5 0 _ (by omega) (by omega) (Fr.rf.wr (by decide)) (fun c c0 c1 => by
    rw [show (0 : Int).toNat = 0 from rfl] at c1 ⊢
    cases (show c = 0 by have : c < 1 := c1; omega)
    rw [wr_s, if_pos rfl, spV]
    show _ = _ * 1
    omega) (by omega)
