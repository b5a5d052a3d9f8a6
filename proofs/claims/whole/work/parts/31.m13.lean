theorem stD_congr {law : Int} {P : Nat} {A : Int} {B D E : Int → Int} {k : Int} (h : ∀ s : Int, 0 ≤ s → s < 50 → D s = E s) : stD law P A B D k = stD law P A B E k := by
  unfold stD
  exact sm_congr fun s s0 s1 => by rw [h s s0 (by omega)]
theorem DD_st {κ : Mem} {i k : Int} (h : 0 ≤ i) : DD κ (i + 1).toNat k = stD (κ 126 0) (κ 129 0).toNat (sty κ i) (pas κ i) (DD κ i.toNat) k := by
  rw [show (i + 1).toNat = i.toNat + 1 by omega]
  show stD (κ 126 0) (κ 129 0).toNat (sty κ ((i.toNat : Nat) : Int)) (pas κ ((i.toNat : Nat) : Int)) (DD κ i.toNat) k = _
  rw [show ((i.toNat : Nat) : Int) = i by omega]
def fees (κ : Mem) (p : Int) : Int := (if κ 50 p < κ 125 0 then κ 44 (4 * p + 2) else 0) + sm (fun i => if bt (κ 49 p) i = 1 ∧ i < κ 50 p then κ 44 (4 * p + 1) else 0) (κ 125 0).toNat
/-- COST, in parts of 6144 to the power of the tales -/
def cst (κ : Mem) (p : Int) : Int := κ 44 (4 * p + 3) * am κ p + fees κ p * 6144 ^ (κ 125 0).toNat
theorem all_sc {κ : Mem} (h : KR κ) : 16 * (3072 : Int) ^ (κ 125 0).toNat = 6144 ^ (κ 125 0).toNat * sc κ := by
  have h2 := h.2.1
  unfold sc
  rcases (show κ 125 0 = 0 ∨ κ 125 0 = 1 ∨ κ 125 0 = 2 ∨ κ 125 0 = 3 ∨ κ 125 0 = 4 by omega) with e | e | e | e | e <;> rw [e] <;> decide +kernel
theorem shr16 {j : Int} (h : 0 ≤ j ∧ j ≤ 4) : shrL 16 j = 16 / (2 : Int) ^ j.toNat := by
  rcases (show j = 0 ∨ j = 1 ∨ j = 2 ∨ j = 3 ∨ j = 4 by omega) with rfl | rfl | rfl | rfl | rfl <;> decide +kernel
theorem pow_st {b j : Int} (h : 0 ≤ j) : b ^ (j + 1).toNat = b ^ j.toNat * b := by
  rw [show (j + 1).toNat = j.toNat + 1 by omega, Int.pow_succ]
theorem lp_X9_goes2 {κ : Mem} {m : Int} {μ : Mem} (hM : MR κ μ) (hm4 : 0 ≤ m ∧ m ≤ 4) : ∀ (f : Nat) (j : Int) (ν : Mem), (0 ≤ j) → (j ≤ m) → (Fr [53, 54] μ ν) → (∀ k : Int, 0 ≤ k → k < 50 → ν 53 k = DD κ j.toNat k) → m - j < (f : Int) → AW kX9_goes 36 [some (.inr (.inr 9)), some (.inl m), some (.inl j)] [] ν (pV (fun ν => Fr [53, 54] μ ν ∧ ∀ k : Int, 0 ≤ k → k < 50 → ν 53 k = DD κ m.toNat k)) := by
  intro f
  induction f with
  | zero =>
    intro j ν h0 h1 hF hn hm
    exfalso; omega
  | succ f ih =>
    intro j ν h0 h1 hF hn hm
    refine s_iload_2 (pc := 36) dX9_goes_36 ?_
    refine s_iload_1 (pc := 37) dX9_goes_37 ?_
    refine s_icmp_ge (pc := 38) 52 dX9_goes_38 rfl (by omega) (by omega) (fun h38 => ?_) (fun h38 => ?_)
    · refine s_return (pc := 52) dX9_goes_52 rfl ?_
      cases (show j = m by omega)
      exact ⟨hF, hn⟩
    · refine s_aload_0 (pc := 41) dX9_goes_41 ?_
      refine s_iload_2 (pc := 42) dX9_goes_42 ?_
      refine cV1v (pc := 43) (Ky := kX9_tells) dX9_goes_43 rfl lnX9_215 okX9_tells ⟨9, TX9, 40, rfl, rfl⟩ ⟨Nat.le_of_ble_eq_true rfl, Nat.le_of_ble_eq_true rfl⟩ (Nat.le_of_ble_eq_true rfl) (c_X9_tells (κ := κ) (hM.fr hF (by decide)) (by omega) (fun k k0 k1 => by rw [hn k k0 k1]; have h1 := DD_le hM.1 (i := j.toNat) (by omega) k0 k1; have h2 := p3072 j.toNat (by omega); omega)) ?_
      rintro ν43 ⟨hF43, hv43⟩
      refine s_iinc_2 (pc := 46) dX9_goes_46 (Nat.le_of_ble_eq_true rfl) rfl ?_
      refine s_goto (pc := 49) 36 dX9_goes_49 rfl ?_
      refine ih (j + 1) _ (by omega) (by omega) (hF.tr hF43) (fun k k0 k1 => ?_) (by omega)
      rw [hv43 k k0 k1, DD_st h0]
      exact stD_congr hn
theorem lp_X9_goes1 {κ : Mem} {m : Int} {μ : Mem} (hM : MR κ μ) (hm4 : 0 ≤ m ∧ m ≤ 4) : ∀ (f : Nat) (j : Int) (ν : Mem), (0 ≤ j) → (j ≤ 50) → (Fr [53, 54] μ ν) → (∀ k : Int, 0 ≤ k → k < j → ν 53 k = 0) → 50 - j < (f : Int) → AW kX9_goes 2 [some (.inr (.inr 9)), some (.inl m), some (.inl j)] [] ν (pV (fun ν => Fr [53, 54] μ ν ∧ ∀ k : Int, 0 ≤ k → k < 50 → ν 53 k = DD κ m.toNat k)) := by
  intro f
  induction f with
  | zero =>
    intro j ν h0 h1 hF hn hm
    exfalso; omega
  | succ f ih =>
    intro j ν h0 h1 hF hn hm
    have hMν := hM.fr hF (by decide)
    obtain ⟨⟨r129, r125, r126, r127, r128, r130, rP, r124, r44⟩, m129, m125, m126, m127, m128, m130, mP, m124, m44⟩ := id hMν
    refine s_iload_2 (pc := 2) dX9_goes_2 ?_
    refine s_bipush (pc := 3) (z := 50) dX9_goes_3 rfl ?_
    refine s_icmp_ge (pc := 5) 21 dX9_goes_5 rfl (by omega) (by omega) (fun h5 => ?_) (fun h5 => ?_)
    · refine s_aload_0 (pc := 21) dX9_goes_21 ?_
      refine gfX9_52 (pc := 22) dX9_goes_22 rfl ?_
      refine s_bipush (pc := 25) (z := 10) dX9_goes_25 rfl ?_
      refine s_aload_0 (pc := 27) dX9_goes_27 ?_
      refine gfX9_180 (pc := 28) dX9_goes_28 rfl ?_
      refine s_imul (pc := 31) dX9_goes_31 ?_
      refine s_lconst_1 (pc := 32) dX9_goes_32 ?_
      refine z_lastore (pc := 33) dX9_goes_33 ly_53 ip_53 (by omega) (by omega) ?_
      refine s_iconst_0 (pc := 34) dX9_goes_34 ?_
      refine s_istore_2 (pc := 35) dX9_goes_35 (Nat.le_of_ble_eq_true rfl) rfl ?_
      refine lp_X9_goes2 hM hm4 5 0 _ (by omega) (by omega) (hF.wr (by decide)) (fun k k0 k1 => ?_) (by omega)
      rw [wr_s, m128]
      show _ = ind k (10 * κ 128 0)
      unfold ind
      split
      · rfl
      · exact hn k k0 (by omega)
    · refine s_aload_0 (pc := 8) dX9_goes_8 ?_
      refine gfX9_52 (pc := 9) dX9_goes_9 rfl ?_
      refine s_iload_2 (pc := 12) dX9_goes_12 ?_
      refine s_lconst_0 (pc := 13) dX9_goes_13 ?_
      refine z_lastore (pc := 14) dX9_goes_14 ly_53 ip_53 (by omega) (by omega) ?_
      refine s_iinc_2 (pc := 15) dX9_goes_15 (Nat.le_of_ble_eq_true rfl) rfl ?_
      refine s_goto (pc := 18) 2 dX9_goes_18 rfl ?_
      refine ih (j + 1) _ (by omega) (by omega) (hF.wr (by decide)) (fun k k0 k1 => ?_) (by omega)
      simp (decide := true) only [wr_s, wr_n, wa_s, wa_n, mg_i, mg_o, if_true, eq_self, reduceIte]
      by_cases hk : k = j
      · rw [if_pos hk]
      · rw [if_neg hk]; exact hn k k0 (by omega)
theorem c_X9_goes {κ : Mem} {m : Int} {μ : Mem} (hM : MR κ μ) (hm : 0 ≤ m ∧ m ≤ 4) : Mc kX9_goes [.inr (.inr 9), .inl m] μ (pV (fun ν => Fr [53, 54] μ ν ∧ ∀ k : Int, 0 ≤ k → k < 50 → ν 53 k = DD κ m.toNat k)) := by
  refine Mc_of (by decide +kernel) (fun _ => Nat.le_of_ble_eq_true rfl) ?_
  show AW kX9_goes 0 [some (.inr (.inr 9)), some (.inl m), none] [] μ _
  refine s_iconst_0 (pc := 0) dX9_goes_0 ?_
  refine s_istore_2 (pc := 1) dX9_goes_1 (Nat.le_of_ble_eq_true rfl) rfl ?_
  exact lp_X9_goes1 hM hm 51 0 μ (by omega) (by omega) Fr.rf (fun k k0 k1 => by omega) (by omega)
theorem lp_X9_whole {m : Int} {μ : Mem} (hm4 : 0 ≤ m ∧ m ≤ 4) : ∀ (f : Nat) (j : Int), (0 ≤ j) → (j ≤ m) → m - j < (f : Int) → AW kX9_whole 4 [some (.inl m), some (.inr (.inl (3072 ^ j.toNat))), none, some (.inl j)] [] μ (pL (fun z ν => (3072 : Int) ^ m.toNat = z ∧ μ = ν)) := by
  intro f
  induction f with
  | zero =>
    intro j h0 h1 hm
    exfalso; omega
  | succ f ih =>
    intro j h0 h1 hm
    refine s_iload_3 (pc := 4) dX9_whole_4 ?_
    refine s_iload_0 (pc := 5) dX9_whole_5 ?_
    refine s_icmp_ge (pc := 6) 21 dX9_whole_6 rfl (by omega) (by omega) (fun h6 => ?_) (fun h6 => ?_)
    · refine s_lload_1 (pc := 21) dX9_whole_21 ?_
      refine s_lreturn (pc := 22) dX9_whole_22 rfl ?_
      cases (show j = m by omega)
      exact ⟨rfl, rfl⟩
    · refine s_lload_1 (pc := 9) dX9_whole_9 ?_
      refine s_ldc2_w (pc := 10) dX9_whole_10 rfl cnX9_219 ?_
      refine s_lmul (pc := 13) dX9_whole_13 ?_
      refine s_valL (pow_st h0).symm ?_
      refine s_lstore_1 (pc := 14) dX9_whole_14 (Nat.le_of_ble_eq_true rfl) rfl ?_
      refine s_iinc_3 (pc := 15) dX9_whole_15 (Nat.le_of_ble_eq_true rfl) rfl ?_
      refine s_goto (pc := 18) 4 dX9_whole_18 rfl ?_
      exact ih (j + 1) (by omega) (by omega) (by omega)
theorem c_X9_whole {m : Int} {μ : Mem} (hm : 0 ≤ m ∧ m ≤ 4) : Mc kX9_whole [.inl m] μ (pL (fun z ν => (3072 : Int) ^ m.toNat = z ∧ μ = ν)) := by
  refine Mc_of (by decide +kernel) (fun _ => Nat.le_of_ble_eq_true rfl) ?_
  show AW kX9_whole 0 [some (.inl m), none, none, none] [] μ _
  refine s_lconst_1 (pc := 0) dX9_whole_0 ?_
  refine s_lstore_1 (pc := 1) dX9_whole_1 (Nat.le_of_ble_eq_true rfl) rfl ?_
  refine s_iconst_0 (pc := 2) dX9_whole_2 ?_
  refine s_istore_3 (pc := 3) dX9_whole_3 (Nat.le_of_ble_eq_true rfl) rfl ?_
  exact lp_X9_whole hm 5 0 (by omega) (by omega) (by omega)
theorem lp_X9_partsOf {p : Int} {μ : Mem} (hp : 0 ≤ p ∧ p < 4) : ∀ (f : Nat) (j : Int), (0 ≤ j) → (j ≤ 10) → 10 - j < (f : Int) → AW kX9_partsOf 5 [some (.inr (.inr 9)), some (.inl p), some (.inr (.inl (sm (fun k => μ 53 (10 * p + k)) j.toNat))), none, some (.inl j)] [] μ (pL (fun z ν => sm (fun k => μ 53 (10 * p + k)) 10 = z ∧ μ = ν)) := by
  intro f
  induction f with
  | zero =>
    intro j h0 h1 hm
    exfalso; omega
  | succ f ih =>
    intro j h0 h1 hm
    refine s_iload_4 (pc := 5) dX9_partsOf_5 ?_
    refine s_bipush (pc := 7) (z := 10) dX9_partsOf_7 rfl ?_
    refine s_icmp_ge (pc := 9) 33 dX9_partsOf_9 rfl (by omega) (by omega) (fun h9 => ?_) (fun h9 => ?_)
    · refine s_lload_2 (pc := 33) dX9_partsOf_33 ?_
      refine s_lreturn (pc := 34) dX9_partsOf_34 rfl ?_
      cases (show j = 10 by omega)
      exact ⟨rfl, rfl⟩
    · refine s_lload_2 (pc := 12) dX9_partsOf_12 ?_
      refine s_aload_0 (pc := 13) dX9_partsOf_13 ?_
      refine gfX9_52 (pc := 14) dX9_partsOf_14 rfl ?_
      refine s_bipush (pc := 17) (z := 10) dX9_partsOf_17 rfl ?_
      refine s_iload_1 (pc := 19) dX9_partsOf_19 ?_
      refine s_imul (pc := 20) dX9_partsOf_20 ?_
      refine s_iload_4 (pc := 21) dX9_partsOf_21 ?_
      refine s_iadd (pc := 23) dX9_partsOf_23 ?_
      refine z_laload (pc := 24) dX9_partsOf_24 ly_53 (by omega) (by omega) ?_
      refine s_ladd (pc := 25) dX9_partsOf_25 ?_
      refine s_valL (sm_succ (f := fun k => μ 53 (10 * p + k)) h0).symm ?_
      refine s_lstore_2 (pc := 26) dX9_partsOf_26 (Nat.le_of_ble_eq_true rfl) rfl ?_
      refine s_iinc_4 (pc := 27) dX9_partsOf_27 (Nat.le_of_ble_eq_true rfl) rfl ?_
      refine s_goto (pc := 30) 5 dX9_partsOf_30 rfl ?_
      exact ih (j + 1) (by omega) (by omega) (by omega)
theorem c_X9_partsOf {p : Int} {μ : Mem} (hp : 0 ≤ p ∧ p < 4) : Mc kX9_partsOf [.inr (.inr 9), .inl p] μ (pL (fun z ν => sm (fun k => μ 53 (10 * p + k)) 10 = z ∧ μ = ν)) := by
  refine Mc_of (by decide +kernel) (fun _ => Nat.le_of_ble_eq_true rfl) ?_
  show AW kX9_partsOf 0 [some (.inr (.inr 9)), some (.inl p), none, none, none] [] μ _
  refine s_lconst_0 (pc := 0) dX9_partsOf_0 ?_
  refine s_lstore_2 (pc := 1) dX9_partsOf_1 (Nat.le_of_ble_eq_true rfl) rfl ?_
  refine s_iconst_0 (pc := 2) dX9_partsOf_2 ?_
  refine s_istore_4 (pc := 3) dX9_partsOf_3 (Nat.le_of_ble_eq_true rfl) rfl ?_
  exact lp_X9_partsOf hp 11 0 (by omega) (by omega) (by omega)
theorem lp_X9_amountNow {κ : Mem} {p : Int} {μ ν : Mem} (hM : MR κ μ) (ho : κ 128 0 < κ 129 0) (hp : 0 ≤ p ∧ p < κ 129 0) (hF : Fr [53, 54] μ ν) (hn : ∀ k : Int, 0 ≤ k → k < 50 → ν 53 k = DD κ (κ 125 0).toNat k) : ∀ (f : Nat) (j : Int), (0 ≤ j) → (j ≤ 10) → 10 - j < (f : Int) → AW kX9_amountNow 13 [some (.inr (.inr 9)), some (.inl p), some (.inr (.inl (sm (fun k => DD κ (κ 125 0).toNat (10 * p + k) * (16 / (2 : Int) ^ (k / 2).toNat)) j.toNat))), none, some (.inl j)] [] ν (pL (fun z ν => am κ p * sc κ = z ∧ Fr [53, 54] μ ν)) := by
  intro f
  induction f with
  | zero =>
    intro j h0 h1 hm
    exfalso; omega
  | succ f ih =>
    intro j h0 h1 hm
    have r129 := hM.1.1
    refine s_iload_4 (pc := 13) dX9_amountNow_13 ?_
    refine s_bipush (pc := 15) (z := 10) dX9_amountNow_15 rfl ?_
    refine s_icmp_ge (pc := 17) 50 dX9_amountNow_17 rfl (by omega) (by omega) (fun h17 => ?_) (fun h17 => ?_)
    · refine s_lload_2 (pc := 50) dX9_amountNow_50 ?_
      refine s_lreturn (pc := 51) dX9_amountNow_51 rfl ?_
      cases (show j = 10 by omega)
      exact ⟨(EE_am ⟨hM.1, ho⟩ hp.1 hp.2).symm, hF⟩
    · refine s_lload_2 (pc := 20) dX9_amountNow_20 ?_
      refine s_aload_0 (pc := 21) dX9_amountNow_21 ?_
      refine gfX9_52 (pc := 22) dX9_amountNow_22 rfl ?_
      refine s_bipush (pc := 25) (z := 10) dX9_amountNow_25 rfl ?_
      refine s_iload_1 (pc := 27) dX9_amountNow_27 ?_
      refine s_imul (pc := 28) dX9_amountNow_28 ?_
      refine s_iload_4 (pc := 29) dX9_amountNow_29 ?_
      refine s_iadd (pc := 31) dX9_amountNow_31 ?_
      refine z_laload (pc := 32) dX9_amountNow_32 ly_53 (by omega) (by omega) ?_
      rw [hn _ (by omega) (by omega)]
      refine s_ldc2_w (pc := 33) dX9_amountNow_33 rfl cnX9_224 ?_
      refine s_iload_4 (pc := 36) dX9_amountNow_36 ?_
      refine s_iconst_2 (pc := 38) dX9_amountNow_38 ?_
      refine s_idiv (pc := 39) dX9_amountNow_39 (by omega) (by omega) ?_
      rw [Int.tdiv_eq_ediv_of_nonneg (by omega)]
      refine s_lshr (pc := 40) dX9_amountNow_40 ?_
      rw [shr16 (by omega)]
      refine s_lmul (pc := 41) dX9_amountNow_41 ?_
      refine s_ladd (pc := 42) dX9_amountNow_42 ?_
      refine s_valL (sm_succ (f := fun k => DD κ (κ 125 0).toNat (10 * p + k) * (16 / (2 : Int) ^ (k / 2).toNat)) h0).symm ?_
      refine s_lstore_2 (pc := 43) dX9_amountNow_43 (Nat.le_of_ble_eq_true rfl) rfl ?_
      refine s_iinc_4 (pc := 44) dX9_amountNow_44 (Nat.le_of_ble_eq_true rfl) rfl ?_
      refine s_goto (pc := 47) 13 dX9_amountNow_47 rfl ?_
      exact ih (j + 1) (by omega) (by omega) (by omega)
theorem c_X9_amountNow {κ : Mem} {p : Int} {μ : Mem} (hM : MR κ μ) (ho : κ 128 0 < κ 129 0) (hp : 0 ≤ p ∧ p < κ 129 0) : Mc kX9_amountNow [.inr (.inr 9), .inl p] μ (pL (fun z ν => am κ p * sc κ = z ∧ Fr [53, 54] μ ν)) := by
  refine Mc_of (by decide +kernel) (fun _ => Nat.le_of_ble_eq_true rfl) ?_
  show AW kX9_amountNow 0 [some (.inr (.inr 9)), some (.inl p), none, none, none] [] μ _
  have r129 := hM.1.1
  have r125 := hM.1.2.1
  have m125 := hM.2.2.1
  refine s_aload_0 (pc := 0) dX9_amountNow_0 ?_
  refine s_aload_0 (pc := 1) dX9_amountNow_1 ?_
  refine gfX9_129 (pc := 2) dX9_amountNow_2 rfl ?_
  rw [m125]
  refine cV1v (pc := 5) (Ky := kX9_goes) dX9_amountNow_5 rfl lnX9_221 okX9_goes ⟨9, TX9, 40, rfl, rfl⟩ ⟨Nat.le_of_ble_eq_true rfl, Nat.le_of_ble_eq_true rfl⟩ (Nat.le_of_ble_eq_true rfl) (c_X9_goes hM (by omega)) ?_
  rintro ν5 ⟨hF5, hv5⟩
  refine s_lconst_0 (pc := 8) dX9_amountNow_8 ?_
  refine s_lstore_2 (pc := 9) dX9_amountNow_9 (Nat.le_of_ble_eq_true rfl) rfl ?_
  refine s_iconst_0 (pc := 10) dX9_amountNow_10 ?_
  refine s_istore_4 (pc := 11) dX9_amountNow_11 (Nat.le_of_ble_eq_true rfl) rfl ?_
  exact lp_X9_amountNow hM ho hp hF5 hv5 11 0 (by omega) (by omega) (by omega)
theorem c_X9_all {κ : Mem} {μ : Mem} (hM : MR κ μ) : Mc kX9_all [.inr (.inr 9)] μ (pL (fun z ν => 6144 ^ (κ 125 0).toNat * sc κ = z ∧ μ = ν)) := by
  refine Mc_of (by decide +kernel) (fun _ => Nat.le_of_ble_eq_true rfl) ?_
  show AW kX9_all 0 [some (.inr (.inr 9))] [] μ _
  have r129 := hM.1.1
  have r125 := hM.1.2.1
  have m125 := hM.2.2.1
  refine s_ldc2_w (pc := 0) dX9_all_0 rfl cnX9_224 ?_
  refine s_aload_0 (pc := 3) dX9_all_3 ?_
  refine gfX9_129 (pc := 4) dX9_all_4 rfl ?_
  rw [m125]
  refine cS1l (pc := 7) (Ky := kX9_whole) dX9_all_7 rfl lnX9_226 okX9_whole ⟨Nat.le_of_ble_eq_true rfl, Nat.le_of_ble_eq_true rfl⟩ (Nat.le_of_ble_eq_true rfl) (c_X9_whole (by omega)) ?_
  rintro _ _ ⟨rfl, rfl⟩
  refine s_lmul (pc := 10) dX9_all_10 ?_
  refine s_lreturn (pc := 11) dX9_all_11 rfl ?_
  exact ⟨(all_sc hM.1).symm, rfl⟩
