theorem p6144 {κ : Mem} (h : KR κ) : (1 : Int) ≤ 6144 ^ (κ 125 0).toNat ∧ (6144 : Int) ^ (κ 125 0).toNat ≤ 1424967069597696 := by
  have h2 := h.2.1
  rcases (show κ 125 0 = 0 ∨ κ 125 0 = 1 ∨ κ 125 0 = 2 ∨ κ 125 0 = 3 ∨ κ 125 0 = 4 by omega) with e | e | e | e | e <;> rw [e] <;> decide +kernel
theorem ww_in {k : Int} : 0 ≤ ww k ∧ ww k ≤ 16 := by
  unfold ww
  rcases (show k % 10 / 2 = 0 ∨ k % 10 / 2 = 1 ∨ k % 10 / 2 = 2 ∨ k % 10 / 2 = 3 ∨ k % 10 / 2 = 4 by omega) with e | e | e | e | e <;> rw [e] <;> decide +kernel
theorem am_in {κ : Mem} (h : KO κ) {p : Int} (p0 : 0 ≤ p) (p1 : p < κ 129 0) : 0 ≤ am κ p ∧ am κ p ≤ 6144 ^ (κ 125 0).toNat := by
  have hk := h.1
  have h1 := hk.1
  have h2 := hk.2.1
  have he := EE_am h p0 p1
  have hs := sc_in hk
  have hal := all_sc hk
  have hnn : ∀ k : Int, 0 ≤ DD κ (κ 125 0).toNat k := DD_nn hk _ (by omega)
  have hE : 0 ≤ EE κ (κ 125 0).toNat p ∧ EE κ (κ 125 0).toNat p ≤ 16 * 3072 ^ (κ 125 0).toNat := by
    rw [EE_bk ⟨p0, by omega⟩]
    refine ⟨sm_nn fun k _ _ => Int.mul_nonneg (Int.mul_nonneg (by unfold bk; split <;> omega) ww_in.1) (hnn k), ?_⟩
    rw [← DD_sum hk (κ 125 0).toNat, ← sm_mul]
    refine sm_le fun k _ _ => Int.mul_le_mul_of_nonneg_right ?_ (hnn k)
    have := ww_in (k := k)
    unfold bk
    split <;> omega
  rw [hal, he] at hE
  refine ⟨?_, ?_⟩
  · exact Int.nonneg_of_mul_nonneg_left hE.1 (by omega)
  · exact Int.le_of_mul_le_mul_right hE.2 (by omega)
theorem feeN_in {κ : Mem} (h : KR κ) {p : Int} (p0 : 0 ≤ p) (p1 : p < κ 124 0) : ∀ m : Nat, 0 ≤ feeN κ p m ∧ feeN κ p m ≤ 9 + 9 * m
  | 0 => by
    have s2 := h.2.2.2.2.2.2.2.2 (4 * p + 2) (by omega) (by omega)
    show 0 ≤ (if κ 50 p < κ 125 0 then κ 44 (4 * p + 2) else 0) + 0 ∧ (if κ 50 p < κ 125 0 then κ 44 (4 * p + 2) else 0) + 0 ≤ 9 + 9 * 0
    split <;> omega
  | m + 1 => by
    have ih := feeN_in h p0 p1 m
    have s1 := h.2.2.2.2.2.2.2.2 (4 * p + 1) (by omega) (by omega)
    have hf : 0 ≤ feeF κ p m ∧ feeF κ p m ≤ 9 := by unfold feeF; split <;> omega
    have : feeN κ p (m + 1) = feeN κ p m + feeF κ p m := by
      unfold feeN
      show _ + (sm (feeF κ p) m + feeF κ p m) = _
      omega
    omega
theorem cst_in {κ : Mem} (h : KO κ) {p : Int} (p0 : 0 ≤ p) (p1 : p < κ 129 0) (p2 : p < κ 124 0) : 0 ≤ cst κ p ∧ cst κ p ≤ 54 * 6144 ^ (κ 125 0).toNat := by
  have ha := am_in h p0 p1
  have hf := feeN_in h.1 p0 p2 (κ 125 0).toNat
  have h2 := h.1.2.1
  rw [feeN_fees] at hf
  have s3 := h.1.2.2.2.2.2.2.2.2 (4 * p + 3) (by omega) (by omega)
  have h6 := p6144 h.1
  unfold cst
  have x1 := Int.mul_nonneg s3.1 ha.1
  have x2 := Int.mul_le_mul s3.2 ha.2 ha.1 (by omega)
  have x3 := Int.mul_nonneg hf.1 (show 0 ≤ (6144 : Int) ^ (κ 125 0).toNat by omega)
  have x4 : fees κ p * 6144 ^ (κ 125 0).toNat ≤ 45 * 6144 ^ (κ 125 0).toNat := Int.mul_le_mul_of_nonneg_right (by omega) (by omega)
  omega
theorem ow_in {κ : Mem} (h : KO κ) {i : Nat} (hi : i ≤ 4) {p : Int} (p0 : 0 ≤ p) (p1 : p < κ 129 0) : 0 ≤ ow κ i p ∧ ow κ i p ≤ 3072 ^ i := by
  have hk := h.1
  rw [(ow_bk h i hi p p0 p1).1]
  have hnn : ∀ k : Int, 0 ≤ DD κ i k := DD_nn hk _ hi
  refine ⟨sm_nn fun k _ _ => Int.mul_nonneg (by unfold bk; split <;> omega) (hnn k), ?_⟩
  rw [← DD_sum hk i]
  refine sm_le fun k _ _ => ?_
  have := hnn k
  unfold bk
  split <;> omega
theorem cfg_KO {tx : Int → Int} {n : Int} {hd lv : Int → Int} (hK : KR (cfg tx n hd lv)) (h : 0 < pPe tx n) : KO (cfg tx n hd lv) := by
  refine ⟨hK, ?_⟩
  show lwF tx n 2 < pPe tx n
  unfold lwF
  split <;> omega
theorem MR.KO {κ μ : Mem} (hM : MR κ μ) (ho : κ 128 0 < κ 129 0) : KO κ := ⟨hM.1, ho⟩
/-- a frame, with the room read anew -/
def FrT (tx : Int → Int) (n : Int) (F : List Nat) (μ ν : Mem) : Prop := Fr F μ ν ∧ ν 124 0 = pPe tx n ∧ ν 125 0 = pTa tx n
def sans (F : List Nat) : List Nat := F.filter (fun c => decide (c ≠ 124 ∧ c ≠ 125))
theorem sans_in {F : List Nat} {c : Nat} (h : c ∈ sans F) : c ∈ F := (List.mem_filter.mp h).1
theorem sans_n {F : List Nat} {c : Nat} (h : c ∈ sans F) : c ≠ 124 ∧ c ≠ 125 := of_decide_eq_true (List.mem_filter.mp h).2
theorem FrT.of {tx : Int → Int} {n : Int} {F : List Nat} {μ ν : Mem} (h : Fr F μ ν) (hR : RM tx n ν) : FrT tx n F μ ν := ⟨h, hR.1, hR.2.1⟩
theorem FrT.mono {tx : Int → Int} {n : Int} {F E : List Nat} {μ ν : Mem} (h : FrT tx n F μ ν) (hs : ∀ c, c ∈ F → c ∈ E) : FrT tx n E μ ν := ⟨h.1.mono hs, h.2⟩
theorem FrT.tr {tx : Int → Int} {n : Int} {F : List Nat} {μ ν ρ : Mem} (h : FrT tx n F μ ν) (h2 : Fr (sans F) ν ρ) : FrT tx n F μ ρ := ⟨h.1.tr (h2.mono fun _ q => sans_in q), by rw [h2 124 (fun q => (sans_n q).1 rfl)]; exact h.2.1, by rw [h2 125 (fun q => (sans_n q).2 rfl)]; exact h.2.2⟩
theorem FrT.wr {tx : Int → Int} {n : Int} {F : List Nat} {μ ν : Mem} {c : Nat} {k z : Int} (h : FrT tx n F μ ν) (hc : c ∈ sans F) : FrT tx n F μ (wr ν c k z) := ⟨h.1.wr (sans_in hc), by rw [wr_n (fun q => (sans_n hc).1 q.symm)]; exact h.2.1, by rw [wr_n (fun q => (sans_n hc).2 q.symm)]; exact h.2.2⟩
theorem FrT.at {tx : Int → Int} {n : Int} {F : List Nat} {μ ν : Mem} (h : FrT tx n F μ ν) (c : Nat) (hc : F.contains c = false) (k : Int) : ν c k = μ c k := h.1.at c hc k
theorem FrT.fn {tx : Int → Int} {n : Int} {F : List Nat} {μ ν : Mem} (h : FrT tx n F μ ν) (c : Nat) (hc : F.contains c = false) : ν c = μ c := h.1.fn c hc
theorem c_X9_quartersOf {tx : Int → Int} {n p i : Int} {hd lv : Int → Int} {μ : Mem} (hp : 0 ≤ p ∧ p < pPe tx n) (hi : 0 ≤ i ∧ i < pTa tx n) (e43 : μ 43 = tx) (e122 : μ 122 0 = n) (hn : 0 ≤ n ∧ n ≤ 60) (ht : ∀ k : Int, 0 ≤ k → k < n → 0 ≤ tx k ∧ tx k ≤ 255) (e47 : μ 47 = hd) (e48 : μ 48 = lv) (hhd : ∀ p : Int, 0 ≤ p → p < 4 → 0 ≤ hd p ∧ hd p ≤ 15) (hlv : ∀ p : Int, 0 ≤ p → p < 4 → 0 ≤ lv p ∧ lv p ≤ 4) : Mc kX9_quartersOf [.inr (.inr 9), .inl p, .inl i] μ (pI (fun z ν => kq (cfg tx n hd lv) p i = z ∧ FrT tx n [42, 44, 45, 46, 49, 50, 51, 52, 53, 54, 55, 56, 123, 124, 125, 126, 127, 128, 129, 130, 131, 132, 133, 134] μ ν)) := by
  refine Mc_of (by decide +kernel) (fun _ => Nat.le_of_ble_eq_true rfl) ?_
  show AW kX9_quartersOf 0 [some (.inr (.inr 9)), some (.inl p), some (.inl i)] [] μ _
  have hpe := pPe_in (tx := tx) hn.1
  have hta := pTa_in (tx := tx) hn.1
  refine s_aload_0 (pc := 0) dX9_quartersOf_0 ?_
  refine cV0v (pc := 1) (Ky := kX9_tries) dX9_quartersOf_1 rfl lnX9_194 okX9_tries ⟨9, TX9, 40, rfl, rfl⟩ ⟨Nat.le_of_ble_eq_true rfl, Nat.le_of_ble_eq_true rfl⟩ (Nat.le_of_ble_eq_true rfl) (c_X9_tries e43 e122 hn ht e47 e48 hhd hlv) ?_
  rintro ν1 ⟨hF1, hR1, hM1⟩
  have hF1 := FrT.of hF1 hR1
  refine s_aload_0 (pc := 4) dX9_quartersOf_4 ?_
  refine s_iload_1 (pc := 5) dX9_quartersOf_5 ?_
  refine s_iload_2 (pc := 6) dX9_quartersOf_6 ?_
  refine cV2i (pc := 7) (Ky := kX9_quartersNow) dX9_quartersOf_7 rfl lnX9_197 okX9_quartersNow ⟨9, TX9, 40, rfl, rfl⟩ ⟨Nat.le_of_ble_eq_true rfl, Nat.le_of_ble_eq_true rfl⟩ (Nat.le_of_ble_eq_true rfl) (c_X9_quartersNow hM1 (by omega) (by omega)) ?_
  rintro _ _ ⟨rfl, rfl⟩
  refine s_ireturn (pc := 10) dX9_quartersOf_10 rfl ?_
  exact ⟨rfl, hF1.mono (by decide)⟩
theorem c_X9_quarters {tx : Int → Int} {n p i : Int} {hd lv : Int → Int} {μ : Mem} (h_p : -2147483648 ≤ p ∧ p < 2147483648) (h_i : -2147483648 ≤ i ∧ i < 2147483648) (e43 : μ 43 = tx) (e122 : μ 122 0 = n) (hn : 0 ≤ n ∧ n ≤ 60) (ht : ∀ k : Int, 0 ≤ k → k < n → 0 ≤ tx k ∧ tx k ≤ 255) (e47 : μ 47 = hd) (e48 : μ 48 = lv) (hhd : ∀ p : Int, 0 ≤ p → p < 4 → 0 ≤ hd p ∧ hd p ≤ 15) (hlv : ∀ p : Int, 0 ≤ p → p < 4 → 0 ≤ lv p ∧ lv p ≤ 4) : Mc kX9_quarters [.inr (.inr 9), .inl p, .inl i] μ (pI (fun z ν => (if (0 ≤ p ∧ p < pPe tx n) ∧ (0 ≤ i ∧ i < pTa tx n) then kq (cfg tx n hd lv) p i else -2) = z ∧ Fr [42, 44, 45, 46, 49, 50, 51, 52, 53, 54, 55, 56, 123, 124, 125, 126, 127, 128, 129, 130, 131, 132, 133, 134] μ ν)) := by
  refine Mc_of (by decide +kernel) (fun _ => Nat.le_of_ble_eq_true rfl) ?_
  show AW kX9_quarters 0 [some (.inr (.inr 9)), some (.inl p), some (.inl i)] [] μ _
  have hpe := pPe_in (tx := tx) hn.1
  have hta := pTa_in (tx := tx) hn.1
  refine s_aload_0 (pc := 0) dX9_quarters_0 ?_
  refine s_iload_1 (pc := 1) dX9_quarters_1 ?_
  refine cV1i (pc := 2) (Ky := kX9_isPerson) dX9_quarters_2 rfl lnX9_158 okX9_isPerson ⟨9, TX9, 40, rfl, rfl⟩ ⟨Nat.le_of_ble_eq_true rfl, Nat.le_of_ble_eq_true rfl⟩ (Nat.le_of_ble_eq_true rfl) (c_X9_isPerson (by omega) e43 e122 hn ht) ?_
  rintro _ ν2 ⟨rfl, hF2, hM2⟩
  obtain ⟨k1, k2, k3, k4, k5⟩ := id hM2
  refine s_if_eq (pc := 5) 33 dX9_quarters_5 rfl (by omega) (fun h5 => ?_) (fun h5 => ?_)
  · refine s_bipush (pc := 33) (z := -2) dX9_quarters_33 rfl ?_
    refine s_ireturn (pc := 35) dX9_quarters_35 rfl ?_
    first | exact ⟨by rw [if_neg (by omega)], hF2.mono (by decide)⟩ | exact ⟨by rw [if_pos (by omega)], (hF2.mono (by decide)).tr hF27.1⟩
  · refine s_iload_2 (pc := 8) dX9_quarters_8 ?_
    refine s_i2l (pc := 9) dX9_quarters_9 (by omega) ?_
    refine s_lconst_0 (pc := 10) dX9_quarters_10 ?_
    refine s_aload_0 (pc := 11) dX9_quarters_11 ?_
    refine gfX9_129 (pc := 12) dX9_quarters_12 rfl ?_
    refine s_iconst_1 (pc := 15) dX9_quarters_15 ?_
    refine s_isub (pc := 16) dX9_quarters_16 ?_
    refine s_i2l (pc := 17) dX9_quarters_17 (by omega) ?_
    refine cS3i (pc := 18) (Ky := kX9_in) dX9_quarters_18 rfl lnX9_89 okX9_in ⟨Nat.le_of_ble_eq_true rfl, Nat.le_of_ble_eq_true rfl⟩ (Nat.le_of_ble_eq_true rfl) (c_X9_in (by omega) (by omega) (by omega)) ?_
    rintro _ _ ⟨rfl, rfl⟩
    refine s_if_eq (pc := 21) 33 dX9_quarters_21 rfl (by omega) (fun h21 => ?_) (fun h21 => ?_)
    · refine s_bipush (pc := 33) (z := -2) dX9_quarters_33 rfl ?_
      refine s_ireturn (pc := 35) dX9_quarters_35 rfl ?_
      first | exact ⟨by rw [if_neg (by omega)], hF2.mono (by decide)⟩ | exact ⟨by rw [if_pos (by omega)], (hF2.mono (by decide)).tr hF27.1⟩
    · refine s_aload_0 (pc := 24) dX9_quarters_24 ?_
      refine s_iload_1 (pc := 25) dX9_quarters_25 ?_
      refine s_iload_2 (pc := 26) dX9_quarters_26 ?_
      refine cV2i (pc := 27) (Ky := kX9_quartersOf) dX9_quarters_27 rfl lnX9_200 okX9_quartersOf ⟨9, TX9, 40, rfl, rfl⟩ ⟨Nat.le_of_ble_eq_true rfl, Nat.le_of_ble_eq_true rfl⟩ (Nat.le_of_ble_eq_true rfl) (c_X9_quartersOf (tx := tx) (n := n) (hd := hd) (lv := lv) (by omega) (by omega) (by rw [hF2.fn 43 rfl]; exact e43) (by rw [hF2.at 122 rfl 0]; exact e122) hn ht (by rw [hF2.fn 47 rfl]; exact e47) (by rw [hF2.fn 48 rfl]; exact e48) hhd hlv) ?_
      rintro _ ν27 ⟨rfl, hF27⟩
      refine s_goto (pc := 30) 35 dX9_quarters_30 rfl ?_
      refine s_ireturn (pc := 35) dX9_quarters_35 rfl ?_
      first | exact ⟨by rw [if_neg (by omega)], hF2.mono (by decide)⟩ | exact ⟨by rw [if_pos (by omega)], (hF2.mono (by decide)).tr hF27.1⟩
theorem c_X9_owesOf {tx : Int → Int} {n p m w : Int} {hd lv : Int → Int} {μ : Mem} (hp : 0 ≤ p ∧ p < pPe tx n) (hm : 0 ≤ m ∧ m ≤ pTa tx n) (hw : w = 0 ∨ w = 1) (e43 : μ 43 = tx) (e122 : μ 122 0 = n) (hn : 0 ≤ n ∧ n ≤ 60) (ht : ∀ k : Int, 0 ≤ k → k < n → 0 ≤ tx k ∧ tx k ≤ 255) (e47 : μ 47 = hd) (e48 : μ 48 = lv) (hhd : ∀ p : Int, 0 ≤ p → p < 4 → 0 ≤ hd p ∧ hd p ≤ 15) (hlv : ∀ p : Int, 0 ≤ p → p < 4 → 0 ≤ lv p ∧ lv p ≤ 4) : Mc kX9_owesOf [.inr (.inr 9), .inl p, .inl m, .inl w] μ (pL (fun z ν => frc (ow (cfg tx n hd lv) m.toNat p) (3072 ^ m.toNat) w = z ∧ FrT tx n [42, 44, 45, 46, 49, 50, 51, 52, 53, 54, 55, 56, 123, 124, 125, 126, 127, 128, 129, 130, 131, 132, 133, 134] μ ν)) := by
  refine Mc_of (by decide +kernel) (fun _ => Nat.le_of_ble_eq_true rfl) ?_
  show AW kX9_owesOf 0 [some (.inr (.inr 9)), some (.inl p), some (.inl m), some (.inl w)] [] μ _
  have hpe := pPe_in (tx := tx) hn.1
  have hta := pTa_in (tx := tx) hn.1
  refine s_aload_0 (pc := 0) dX9_owesOf_0 ?_
  refine cV0v (pc := 1) (Ky := kX9_tries) dX9_owesOf_1 rfl lnX9_194 okX9_tries ⟨9, TX9, 40, rfl, rfl⟩ ⟨Nat.le_of_ble_eq_true rfl, Nat.le_of_ble_eq_true rfl⟩ (Nat.le_of_ble_eq_true rfl) (c_X9_tries e43 e122 hn ht e47 e48 hhd hlv) ?_
  rintro ν1 ⟨hF1, hR1, hM1⟩
  have hF1 := FrT.of hF1 hR1
  have hko := cfg_KO hM1.1 (by omega)
  have hpw := p6144 hko.1
  have hsc := sc_in hko.1
  have hoi := ow_in hko (i := m.toNat) (by omega) hp.1 hp.2
  have hp3 := p3072 m.toNat (by omega)
  refine s_aload_0 (pc := 4) dX9_owesOf_4 ?_
  refine s_iload_2 (pc := 5) dX9_owesOf_5 ?_
  refine cV1v (pc := 6) (Ky := kX9_goes) dX9_owesOf_6 rfl lnX9_221 okX9_goes ⟨9, TX9, 40, rfl, rfl⟩ ⟨Nat.le_of_ble_eq_true rfl, Nat.le_of_ble_eq_true rfl⟩ (Nat.le_of_ble_eq_true rfl) (c_X9_goes hM1 (by omega)) ?_
  rintro ν6 ⟨hF6, hv6⟩
  refine s_aload_0 (pc := 9) dX9_owesOf_9 ?_
  refine s_iload_1 (pc := 10) dX9_owesOf_10 ?_
  refine cV1l (pc := 11) (Ky := kX9_partsOf) dX9_owesOf_11 rfl lnX9_237 okX9_partsOf ⟨9, TX9, 40, rfl, rfl⟩ ⟨Nat.le_of_ble_eq_true rfl, Nat.le_of_ble_eq_true rfl⟩ (Nat.le_of_ble_eq_true rfl) (c_X9_partsOf (by omega)) ?_
  rintro _ _ ⟨rfl, rfl⟩
  have hob : sm (fun k => ν6 53 (10 * p + k)) 10 = ow (cfg tx n hd lv) m.toNat p := by
    rw [(ow_bk hko m.toNat (by omega) p hp.1 hp.2).1, ← sm_bk ⟨hp.1, by omega⟩]
    exact sm_congr fun k k0 k1 => hv6 _ (by omega) (by omega)
  rw [hob]
  refine s_iload_2 (pc := 14) dX9_owesOf_14 ?_
  refine cS1l (pc := 15) (Ky := kX9_whole) dX9_owesOf_15 rfl lnX9_226 okX9_whole ⟨Nat.le_of_ble_eq_true rfl, Nat.le_of_ble_eq_true rfl⟩ (Nat.le_of_ble_eq_true rfl) (c_X9_whole (by omega)) ?_
  rintro _ _ ⟨rfl, rfl⟩
  refine s_iload_3 (pc := 18) dX9_owesOf_18 ?_
  refine cS3l (pc := 19) (Ky := kX9_part) dX9_owesOf_19 rfl lnX9_240 okX9_part ⟨Nat.le_of_ble_eq_true rfl, Nat.le_of_ble_eq_true rfl⟩ (Nat.le_of_ble_eq_true rfl) (c_X9_part hw (by omega) (by omega)) ?_
  rintro _ _ ⟨rfl, rfl⟩
  refine s_lreturn (pc := 22) dX9_owesOf_22 rfl ?_
  exact ⟨rfl, (hF1.mono (by decide)).tr (hF6.mono (by decide))⟩
theorem c_X9_owes {tx : Int → Int} {n p m w : Int} {hd lv : Int → Int} {μ : Mem} (h_p : -2147483648 ≤ p ∧ p < 2147483648) (h_m : -2147483648 ≤ m ∧ m < 2147483648) (h_w : -2147483648 ≤ w ∧ w < 2147483648) (e43 : μ 43 = tx) (e122 : μ 122 0 = n) (hn : 0 ≤ n ∧ n ≤ 60) (ht : ∀ k : Int, 0 ≤ k → k < n → 0 ≤ tx k ∧ tx k ≤ 255) (e47 : μ 47 = hd) (e48 : μ 48 = lv) (hhd : ∀ p : Int, 0 ≤ p → p < 4 → 0 ≤ hd p ∧ hd p ≤ 15) (hlv : ∀ p : Int, 0 ≤ p → p < 4 → 0 ≤ lv p ∧ lv p ≤ 4) : Mc kX9_owes [.inr (.inr 9), .inl p, .inl m, .inl w] μ (pL (fun z ν => (if (0 ≤ p ∧ p < pPe tx n) ∧ (0 ≤ m ∧ m ≤ pTa tx n) ∧ (0 ≤ w ∧ w ≤ 1) then frc (ow (cfg tx n hd lv) m.toNat p) (3072 ^ m.toNat) w else -9223372036854775806) = z ∧ Fr [42, 44, 45, 46, 49, 50, 51, 52, 53, 54, 55, 56, 123, 124, 125, 126, 127, 128, 129, 130, 131, 132, 133, 134] μ ν)) := by
  refine Mc_of (by decide +kernel) (fun _ => Nat.le_of_ble_eq_true rfl) ?_
  show AW kX9_owes 0 [some (.inr (.inr 9)), some (.inl p), some (.inl m), some (.inl w)] [] μ _
  have hpe := pPe_in (tx := tx) hn.1
  have hta := pTa_in (tx := tx) hn.1
  refine s_aload_0 (pc := 0) dX9_owes_0 ?_
  refine s_iload_1 (pc := 1) dX9_owes_1 ?_
  refine cV1i (pc := 2) (Ky := kX9_isPerson) dX9_owes_2 rfl lnX9_158 okX9_isPerson ⟨9, TX9, 40, rfl, rfl⟩ ⟨Nat.le_of_ble_eq_true rfl, Nat.le_of_ble_eq_true rfl⟩ (Nat.le_of_ble_eq_true rfl) (c_X9_isPerson (by omega) e43 e122 hn ht) ?_
  rintro _ ν2 ⟨rfl, hF2, hM2⟩
  obtain ⟨k1, k2, k3, k4, k5⟩ := id hM2
  refine s_if_eq (pc := 5) 39 dX9_owes_5 rfl (by omega) (fun h5 => ?_) (fun h5 => ?_)
  · refine s_bipush (pc := 39) (z := -2) dX9_owes_39 rfl ?_
    refine cS1l (pc := 41) (Ky := kX9_no) dX9_owes_41 rfl lnX9_251 okX9_no ⟨Nat.le_of_ble_eq_true rfl, Nat.le_of_ble_eq_true rfl⟩ (Nat.le_of_ble_eq_true rfl) (c_X9_no (by omega)) ?_
    rintro _ _ ⟨rfl, rfl⟩
    refine s_lreturn (pc := 44) dX9_owes_44 rfl ?_
    first | exact ⟨by rw [if_neg (by omega)]; rfl, hF2.mono (by decide)⟩ | exact ⟨by rw [if_pos (by omega)], (hF2.mono (by decide)).tr hF33.1⟩
  · refine s_iload_2 (pc := 8) dX9_owes_8 ?_
    refine s_i2l (pc := 9) dX9_owes_9 (by omega) ?_
    refine s_lconst_0 (pc := 10) dX9_owes_10 ?_
    refine s_aload_0 (pc := 11) dX9_owes_11 ?_
    refine gfX9_129 (pc := 12) dX9_owes_12 rfl ?_
    refine s_i2l (pc := 15) dX9_owes_15 (by omega) ?_
    refine cS3i (pc := 16) (Ky := kX9_in) dX9_owes_16 rfl lnX9_89 okX9_in ⟨Nat.le_of_ble_eq_true rfl, Nat.le_of_ble_eq_true rfl⟩ (Nat.le_of_ble_eq_true rfl) (c_X9_in (by omega) (by omega) (by omega)) ?_
    rintro _ _ ⟨rfl, rfl⟩
    refine s_if_eq (pc := 19) 39 dX9_owes_19 rfl (by omega) (fun h19 => ?_) (fun h19 => ?_)
    · refine s_bipush (pc := 39) (z := -2) dX9_owes_39 rfl ?_
      refine cS1l (pc := 41) (Ky := kX9_no) dX9_owes_41 rfl lnX9_251 okX9_no ⟨Nat.le_of_ble_eq_true rfl, Nat.le_of_ble_eq_true rfl⟩ (Nat.le_of_ble_eq_true rfl) (c_X9_no (by omega)) ?_
      rintro _ _ ⟨rfl, rfl⟩
      refine s_lreturn (pc := 44) dX9_owes_44 rfl ?_
      first | exact ⟨by rw [if_neg (by omega)]; rfl, hF2.mono (by decide)⟩ | exact ⟨by rw [if_pos (by omega)], (hF2.mono (by decide)).tr hF33.1⟩
    · refine s_iload_3 (pc := 22) dX9_owes_22 ?_
      refine cS1i (pc := 23) (Ky := kX9_isTwo) dX9_owes_23 rfl lnX9_244 okX9_isTwo ⟨Nat.le_of_ble_eq_true rfl, Nat.le_of_ble_eq_true rfl⟩ (Nat.le_of_ble_eq_true rfl) (c_X9_isTwo (by omega)) ?_
      rintro _ _ ⟨rfl, rfl⟩
      refine s_if_eq (pc := 26) 39 dX9_owes_26 rfl (by omega) (fun h26 => ?_) (fun h26 => ?_)
      · refine s_bipush (pc := 39) (z := -2) dX9_owes_39 rfl ?_
        refine cS1l (pc := 41) (Ky := kX9_no) dX9_owes_41 rfl lnX9_251 okX9_no ⟨Nat.le_of_ble_eq_true rfl, Nat.le_of_ble_eq_true rfl⟩ (Nat.le_of_ble_eq_true rfl) (c_X9_no (by omega)) ?_
        rintro _ _ ⟨rfl, rfl⟩
        refine s_lreturn (pc := 44) dX9_owes_44 rfl ?_
        first | exact ⟨by rw [if_neg (by omega)]; rfl, hF2.mono (by decide)⟩ | exact ⟨by rw [if_pos (by omega)], (hF2.mono (by decide)).tr hF33.1⟩
      · refine s_aload_0 (pc := 29) dX9_owes_29 ?_
        refine s_iload_1 (pc := 30) dX9_owes_30 ?_
        refine s_iload_2 (pc := 31) dX9_owes_31 ?_
        refine s_iload_3 (pc := 32) dX9_owes_32 ?_
        refine cV3l (pc := 33) (Ky := kX9_owesOf) dX9_owes_33 rfl lnX9_247 okX9_owesOf ⟨9, TX9, 40, rfl, rfl⟩ ⟨Nat.le_of_ble_eq_true rfl, Nat.le_of_ble_eq_true rfl⟩ (Nat.le_of_ble_eq_true rfl) (c_X9_owesOf (tx := tx) (n := n) (hd := hd) (lv := lv) (by omega) (by omega) (by omega) (by rw [hF2.fn 43 rfl]; exact e43) (by rw [hF2.at 122 rfl 0]; exact e122) hn ht (by rw [hF2.fn 47 rfl]; exact e47) (by rw [hF2.fn 48 rfl]; exact e48) hhd hlv) ?_
        rintro _ ν33 ⟨rfl, hF33⟩
        refine s_goto (pc := 36) 44 dX9_owes_36 rfl ?_
        refine s_lreturn (pc := 44) dX9_owes_44 rfl ?_
        first | exact ⟨by rw [if_neg (by omega)]; rfl, hF2.mono (by decide)⟩ | exact ⟨by rw [if_pos (by omega)], (hF2.mono (by decide)).tr hF33.1⟩
theorem c_X9_amountOf {tx : Int → Int} {n p w : Int} {hd lv : Int → Int} {μ : Mem} (hp : 0 ≤ p ∧ p < pPe tx n) (hw : w = 0 ∨ w = 1) (e43 : μ 43 = tx) (e122 : μ 122 0 = n) (hn : 0 ≤ n ∧ n ≤ 60) (ht : ∀ k : Int, 0 ≤ k → k < n → 0 ≤ tx k ∧ tx k ≤ 255) (e47 : μ 47 = hd) (e48 : μ 48 = lv) (hhd : ∀ p : Int, 0 ≤ p → p < 4 → 0 ≤ hd p ∧ hd p ≤ 15) (hlv : ∀ p : Int, 0 ≤ p → p < 4 → 0 ≤ lv p ∧ lv p ≤ 4) : Mc kX9_amountOf [.inr (.inr 9), .inl p, .inl w] μ (pL (fun z ν => frc (am (cfg tx n hd lv) p) (6144 ^ (pTa tx n).toNat) w = z ∧ FrT tx n [42, 44, 45, 46, 49, 50, 51, 52, 53, 54, 55, 56, 123, 124, 125, 126, 127, 128, 129, 130, 131, 132, 133, 134] μ ν)) := by
  refine Mc_of (by decide +kernel) (fun _ => Nat.le_of_ble_eq_true rfl) ?_
  show AW kX9_amountOf 0 [some (.inr (.inr 9)), some (.inl p), some (.inl w)] [] μ _
  have hpe := pPe_in (tx := tx) hn.1
  have hta := pTa_in (tx := tx) hn.1
  refine s_aload_0 (pc := 0) dX9_amountOf_0 ?_
  refine cV0v (pc := 1) (Ky := kX9_tries) dX9_amountOf_1 rfl lnX9_194 okX9_tries ⟨9, TX9, 40, rfl, rfl⟩ ⟨Nat.le_of_ble_eq_true rfl, Nat.le_of_ble_eq_true rfl⟩ (Nat.le_of_ble_eq_true rfl) (c_X9_tries e43 e122 hn ht e47 e48 hhd hlv) ?_
  rintro ν1 ⟨hF1, hR1, hM1⟩
  have hF1 := FrT.of hF1 hR1
  have hko := cfg_KO hM1.1 (by omega)
  have hpw := p6144 hko.1
  have hsc := sc_in hko.1
  have hai := am_in hko hp.1 hp.2
  have hms := Int.mul_le_mul_of_nonneg_left hsc.2.1 hai.1
  have hms0 := Int.mul_nonneg hai.1 (show 0 ≤ sc (cfg tx n hd lv) by omega)
  have hmp : (6144 : Int) ^ ((cfg tx n hd lv) 125 0).toNat * sc (cfg tx n hd lv) ≤ 6144 ^ ((cfg tx n hd lv) 125 0).toNat * 16 := Int.mul_le_mul_of_nonneg_left hsc.2.1 (by omega)
  have hmp0 : 0 < (6144 : Int) ^ ((cfg tx n hd lv) 125 0).toNat * sc (cfg tx n hd lv) := Int.mul_pos (by omega) (by omega)
  refine s_aload_0 (pc := 4) dX9_amountOf_4 ?_
  refine s_iload_1 (pc := 5) dX9_amountOf_5 ?_
  refine cV1l (pc := 6) (Ky := kX9_amountNow) dX9_amountOf_6 rfl lnX9_230 okX9_amountNow ⟨9, TX9, 40, rfl, rfl⟩ ⟨Nat.le_of_ble_eq_true rfl, Nat.le_of_ble_eq_true rfl⟩ (Nat.le_of_ble_eq_true rfl) (c_X9_amountNow hM1 hko.2 hp) ?_
  rintro _ ν6 ⟨rfl, hF6⟩
  refine s_aload_0 (pc := 9) dX9_amountOf_9 ?_
  refine cV0l (pc := 10) (Ky := kX9_all) dX9_amountOf_10 rfl lnX9_233 okX9_all ⟨9, TX9, 40, rfl, rfl⟩ ⟨Nat.le_of_ble_eq_true rfl, Nat.le_of_ble_eq_true rfl⟩ (Nat.le_of_ble_eq_true rfl) (c_X9_all (hM1.fr hF6 (by decide))) ?_
  rintro _ _ ⟨rfl, rfl⟩
  refine s_iload_2 (pc := 13) dX9_amountOf_13 ?_
  refine cS3l (pc := 14) (Ky := kX9_part) dX9_amountOf_14 rfl lnX9_240 okX9_part ⟨Nat.le_of_ble_eq_true rfl, Nat.le_of_ble_eq_true rfl⟩ (Nat.le_of_ble_eq_true rfl) (c_X9_part hw (by omega) (by omega)) ?_
  rintro _ _ ⟨rfl, rfl⟩
  refine s_lreturn (pc := 17) dX9_amountOf_17 rfl ?_
  refine ⟨?_, (hF1.mono (by decide)).tr (hF6.mono (by decide))⟩
  exact (frc_mul (by omega)).symm
theorem c_X9_amount {tx : Int → Int} {n p w : Int} {hd lv : Int → Int} {μ : Mem} (h_p : -2147483648 ≤ p ∧ p < 2147483648) (h_w : -2147483648 ≤ w ∧ w < 2147483648) (e43 : μ 43 = tx) (e122 : μ 122 0 = n) (hn : 0 ≤ n ∧ n ≤ 60) (ht : ∀ k : Int, 0 ≤ k → k < n → 0 ≤ tx k ∧ tx k ≤ 255) (e47 : μ 47 = hd) (e48 : μ 48 = lv) (hhd : ∀ p : Int, 0 ≤ p → p < 4 → 0 ≤ hd p ∧ hd p ≤ 15) (hlv : ∀ p : Int, 0 ≤ p → p < 4 → 0 ≤ lv p ∧ lv p ≤ 4) : Mc kX9_amount [.inr (.inr 9), .inl p, .inl w] μ (pL (fun z ν => (if (0 ≤ p ∧ p < pPe tx n) ∧ (0 ≤ w ∧ w ≤ 1) then frc (am (cfg tx n hd lv) p) (6144 ^ (pTa tx n).toNat) w else -9223372036854775806) = z ∧ Fr [42, 44, 45, 46, 49, 50, 51, 52, 53, 54, 55, 56, 123, 124, 125, 126, 127, 128, 129, 130, 131, 132, 133, 134] μ ν)) := by
  refine Mc_of (by decide +kernel) (fun _ => Nat.le_of_ble_eq_true rfl) ?_
  show AW kX9_amount 0 [some (.inr (.inr 9)), some (.inl p), some (.inl w)] [] μ _
  have hpe := pPe_in (tx := tx) hn.1
  have hta := pTa_in (tx := tx) hn.1
  refine s_aload_0 (pc := 0) dX9_amount_0 ?_
  refine s_iload_1 (pc := 1) dX9_amount_1 ?_
  refine cV1i (pc := 2) (Ky := kX9_isPerson) dX9_amount_2 rfl lnX9_158 okX9_isPerson ⟨9, TX9, 40, rfl, rfl⟩ ⟨Nat.le_of_ble_eq_true rfl, Nat.le_of_ble_eq_true rfl⟩ (Nat.le_of_ble_eq_true rfl) (c_X9_isPerson (by omega) e43 e122 hn ht) ?_
  rintro _ ν2 ⟨rfl, hF2, hM2⟩
  refine s_if_eq (pc := 5) 24 dX9_amount_5 rfl (by omega) (fun h5 => ?_) (fun h5 => ?_)
  · refine s_bipush (pc := 24) (z := -2) dX9_amount_24 rfl ?_
    refine cS1l (pc := 26) (Ky := kX9_no) dX9_amount_26 rfl lnX9_251 okX9_no ⟨Nat.le_of_ble_eq_true rfl, Nat.le_of_ble_eq_true rfl⟩ (Nat.le_of_ble_eq_true rfl) (c_X9_no (by omega)) ?_
    rintro _ _ ⟨rfl, rfl⟩
    refine s_lreturn (pc := 29) dX9_amount_29 rfl ?_
    first | exact ⟨by rw [if_neg (by omega)]; rfl, hF2.mono (by decide)⟩ | exact ⟨by rw [if_pos (by omega)], (hF2.mono (by decide)).tr hF18.1⟩
  · refine s_iload_2 (pc := 8) dX9_amount_8 ?_
    refine cS1i (pc := 9) (Ky := kX9_isTwo) dX9_amount_9 rfl lnX9_244 okX9_isTwo ⟨Nat.le_of_ble_eq_true rfl, Nat.le_of_ble_eq_true rfl⟩ (Nat.le_of_ble_eq_true rfl) (c_X9_isTwo (by omega)) ?_
    rintro _ _ ⟨rfl, rfl⟩
    refine s_if_eq (pc := 12) 24 dX9_amount_12 rfl (by omega) (fun h12 => ?_) (fun h12 => ?_)
    · refine s_bipush (pc := 24) (z := -2) dX9_amount_24 rfl ?_
      refine cS1l (pc := 26) (Ky := kX9_no) dX9_amount_26 rfl lnX9_251 okX9_no ⟨Nat.le_of_ble_eq_true rfl, Nat.le_of_ble_eq_true rfl⟩ (Nat.le_of_ble_eq_true rfl) (c_X9_no (by omega)) ?_
      rintro _ _ ⟨rfl, rfl⟩
      refine s_lreturn (pc := 29) dX9_amount_29 rfl ?_
      first | exact ⟨by rw [if_neg (by omega)]; rfl, hF2.mono (by decide)⟩ | exact ⟨by rw [if_pos (by omega)], (hF2.mono (by decide)).tr hF18.1⟩
    · refine s_aload_0 (pc := 15) dX9_amount_15 ?_
      refine s_iload_1 (pc := 16) dX9_amount_16 ?_
      refine s_iload_2 (pc := 17) dX9_amount_17 ?_
      refine cV2l (pc := 18) (Ky := kX9_amountOf) dX9_amount_18 rfl lnX9_254 okX9_amountOf ⟨9, TX9, 40, rfl, rfl⟩ ⟨Nat.le_of_ble_eq_true rfl, Nat.le_of_ble_eq_true rfl⟩ (Nat.le_of_ble_eq_true rfl) (c_X9_amountOf (tx := tx) (n := n) (hd := hd) (lv := lv) (by omega) (by omega) (by rw [hF2.fn 43 rfl]; exact e43) (by rw [hF2.at 122 rfl 0]; exact e122) hn ht (by rw [hF2.fn 47 rfl]; exact e47) (by rw [hF2.fn 48 rfl]; exact e48) hhd hlv) ?_
      rintro _ ν18 ⟨rfl, hF18⟩
      refine s_goto (pc := 21) 29 dX9_amount_21 rfl ?_
      refine s_lreturn (pc := 29) dX9_amount_29 rfl ?_
      first | exact ⟨by rw [if_neg (by omega)]; rfl, hF2.mono (by decide)⟩ | exact ⟨by rw [if_pos (by omega)], (hF2.mono (by decide)).tr hF18.1⟩
theorem c_X9_costOf {tx : Int → Int} {n p w : Int} {hd lv : Int → Int} {μ : Mem} (hp : 0 ≤ p ∧ p < pPe tx n) (hw : w = 0 ∨ w = 1) (e43 : μ 43 = tx) (e122 : μ 122 0 = n) (hn : 0 ≤ n ∧ n ≤ 60) (ht : ∀ k : Int, 0 ≤ k → k < n → 0 ≤ tx k ∧ tx k ≤ 255) (e47 : μ 47 = hd) (e48 : μ 48 = lv) (hhd : ∀ p : Int, 0 ≤ p → p < 4 → 0 ≤ hd p ∧ hd p ≤ 15) (hlv : ∀ p : Int, 0 ≤ p → p < 4 → 0 ≤ lv p ∧ lv p ≤ 4) : Mc kX9_costOf [.inr (.inr 9), .inl p, .inl w] μ (pL (fun z ν => frc (cst (cfg tx n hd lv) p) (6144 ^ (pTa tx n).toNat) w = z ∧ FrT tx n [42, 44, 45, 46, 49, 50, 51, 52, 53, 54, 55, 56, 123, 124, 125, 126, 127, 128, 129, 130, 131, 132, 133, 134] μ ν)) := by
  refine Mc_of (by decide +kernel) (fun _ => Nat.le_of_ble_eq_true rfl) ?_
  show AW kX9_costOf 0 [some (.inr (.inr 9)), some (.inl p), some (.inl w)] [] μ _
  have hpe := pPe_in (tx := tx) hn.1
  have hta := pTa_in (tx := tx) hn.1
  refine s_aload_0 (pc := 0) dX9_costOf_0 ?_
  refine cV0v (pc := 1) (Ky := kX9_tries) dX9_costOf_1 rfl lnX9_194 okX9_tries ⟨9, TX9, 40, rfl, rfl⟩ ⟨Nat.le_of_ble_eq_true rfl, Nat.le_of_ble_eq_true rfl⟩ (Nat.le_of_ble_eq_true rfl) (c_X9_tries e43 e122 hn ht e47 e48 hhd hlv) ?_
  rintro ν1 ⟨hF1, hR1, hM1⟩
  have hF1 := FrT.of hF1 hR1
  have hko := cfg_KO hM1.1 (by omega)
  have hpw := p6144 hko.1
  have hsc := sc_in hko.1
  have hai := cst_in hko hp.1 hp.2 hp.2
  have hms := Int.mul_le_mul_of_nonneg_left hsc.2.1 hai.1
  have hms0 := Int.mul_nonneg hai.1 (show 0 ≤ sc (cfg tx n hd lv) by omega)
  have hmp : (6144 : Int) ^ ((cfg tx n hd lv) 125 0).toNat * sc (cfg tx n hd lv) ≤ 6144 ^ ((cfg tx n hd lv) 125 0).toNat * 16 := Int.mul_le_mul_of_nonneg_left hsc.2.1 (by omega)
  have hmp0 : 0 < (6144 : Int) ^ ((cfg tx n hd lv) 125 0).toNat * sc (cfg tx n hd lv) := Int.mul_pos (by omega) (by omega)
  refine s_aload_0 (pc := 4) dX9_costOf_4 ?_
  refine s_iload_1 (pc := 5) dX9_costOf_5 ?_
  refine cV1l (pc := 6) (Ky := kX9_costNow) dX9_costOf_6 rfl lnX9_258 okX9_costNow ⟨9, TX9, 40, rfl, rfl⟩ ⟨Nat.le_of_ble_eq_true rfl, Nat.le_of_ble_eq_true rfl⟩ (Nat.le_of_ble_eq_true rfl) (c_X9_costNow hM1 hko.2 hp hp.2) ?_
  rintro _ ν6 ⟨rfl, hF6⟩
  refine s_aload_0 (pc := 9) dX9_costOf_9 ?_
  refine cV0l (pc := 10) (Ky := kX9_all) dX9_costOf_10 rfl lnX9_233 okX9_all ⟨9, TX9, 40, rfl, rfl⟩ ⟨Nat.le_of_ble_eq_true rfl, Nat.le_of_ble_eq_true rfl⟩ (Nat.le_of_ble_eq_true rfl) (c_X9_all (hM1.fr hF6 (by decide))) ?_
  rintro _ _ ⟨rfl, rfl⟩
  refine s_iload_2 (pc := 13) dX9_costOf_13 ?_
  refine cS3l (pc := 14) (Ky := kX9_part) dX9_costOf_14 rfl lnX9_240 okX9_part ⟨Nat.le_of_ble_eq_true rfl, Nat.le_of_ble_eq_true rfl⟩ (Nat.le_of_ble_eq_true rfl) (c_X9_part hw (by omega) (by omega)) ?_
  rintro _ _ ⟨rfl, rfl⟩
  refine s_lreturn (pc := 17) dX9_costOf_17 rfl ?_
  refine ⟨?_, (hF1.mono (by decide)).tr (hF6.mono (by decide))⟩
  exact (frc_mul (by omega)).symm
theorem c_X9_cost {tx : Int → Int} {n p w : Int} {hd lv : Int → Int} {μ : Mem} (h_p : -2147483648 ≤ p ∧ p < 2147483648) (h_w : -2147483648 ≤ w ∧ w < 2147483648) (e43 : μ 43 = tx) (e122 : μ 122 0 = n) (hn : 0 ≤ n ∧ n ≤ 60) (ht : ∀ k : Int, 0 ≤ k → k < n → 0 ≤ tx k ∧ tx k ≤ 255) (e47 : μ 47 = hd) (e48 : μ 48 = lv) (hhd : ∀ p : Int, 0 ≤ p → p < 4 → 0 ≤ hd p ∧ hd p ≤ 15) (hlv : ∀ p : Int, 0 ≤ p → p < 4 → 0 ≤ lv p ∧ lv p ≤ 4) : Mc kX9_cost [.inr (.inr 9), .inl p, .inl w] μ (pL (fun z ν => (if (0 ≤ p ∧ p < pPe tx n) ∧ (0 ≤ w ∧ w ≤ 1) then frc (cst (cfg tx n hd lv) p) (6144 ^ (pTa tx n).toNat) w else -9223372036854775806) = z ∧ Fr [42, 44, 45, 46, 49, 50, 51, 52, 53, 54, 55, 56, 123, 124, 125, 126, 127, 128, 129, 130, 131, 132, 133, 134] μ ν)) := by
  refine Mc_of (by decide +kernel) (fun _ => Nat.le_of_ble_eq_true rfl) ?_
  show AW kX9_cost 0 [some (.inr (.inr 9)), some (.inl p), some (.inl w)] [] μ _
  have hpe := pPe_in (tx := tx) hn.1
  have hta := pTa_in (tx := tx) hn.1
  refine s_aload_0 (pc := 0) dX9_cost_0 ?_
  refine s_iload_1 (pc := 1) dX9_cost_1 ?_
  refine cV1i (pc := 2) (Ky := kX9_isPerson) dX9_cost_2 rfl lnX9_158 okX9_isPerson ⟨9, TX9, 40, rfl, rfl⟩ ⟨Nat.le_of_ble_eq_true rfl, Nat.le_of_ble_eq_true rfl⟩ (Nat.le_of_ble_eq_true rfl) (c_X9_isPerson (by omega) e43 e122 hn ht) ?_
  rintro _ ν2 ⟨rfl, hF2, hM2⟩
  refine s_if_eq (pc := 5) 24 dX9_cost_5 rfl (by omega) (fun h5 => ?_) (fun h5 => ?_)
  · refine s_bipush (pc := 24) (z := -2) dX9_cost_24 rfl ?_
    refine cS1l (pc := 26) (Ky := kX9_no) dX9_cost_26 rfl lnX9_251 okX9_no ⟨Nat.le_of_ble_eq_true rfl, Nat.le_of_ble_eq_true rfl⟩ (Nat.le_of_ble_eq_true rfl) (c_X9_no (by omega)) ?_
    rintro _ _ ⟨rfl, rfl⟩
    refine s_lreturn (pc := 29) dX9_cost_29 rfl ?_
    first | exact ⟨by rw [if_neg (by omega)]; rfl, hF2.mono (by decide)⟩ | exact ⟨by rw [if_pos (by omega)], (hF2.mono (by decide)).tr hF18.1⟩
  · refine s_iload_2 (pc := 8) dX9_cost_8 ?_
    refine cS1i (pc := 9) (Ky := kX9_isTwo) dX9_cost_9 rfl lnX9_244 okX9_isTwo ⟨Nat.le_of_ble_eq_true rfl, Nat.le_of_ble_eq_true rfl⟩ (Nat.le_of_ble_eq_true rfl) (c_X9_isTwo (by omega)) ?_
    rintro _ _ ⟨rfl, rfl⟩
    refine s_if_eq (pc := 12) 24 dX9_cost_12 rfl (by omega) (fun h12 => ?_) (fun h12 => ?_)
    · refine s_bipush (pc := 24) (z := -2) dX9_cost_24 rfl ?_
      refine cS1l (pc := 26) (Ky := kX9_no) dX9_cost_26 rfl lnX9_251 okX9_no ⟨Nat.le_of_ble_eq_true rfl, Nat.le_of_ble_eq_true rfl⟩ (Nat.le_of_ble_eq_true rfl) (c_X9_no (by omega)) ?_
      rintro _ _ ⟨rfl, rfl⟩
      refine s_lreturn (pc := 29) dX9_cost_29 rfl ?_
      first | exact ⟨by rw [if_neg (by omega)]; rfl, hF2.mono (by decide)⟩ | exact ⟨by rw [if_pos (by omega)], (hF2.mono (by decide)).tr hF18.1⟩
    · refine s_aload_0 (pc := 15) dX9_cost_15 ?_
      refine s_iload_1 (pc := 16) dX9_cost_16 ?_
      refine s_iload_2 (pc := 17) dX9_cost_17 ?_
      refine cV2l (pc := 18) (Ky := kX9_costOf) dX9_cost_18 rfl lnX9_261 okX9_costOf ⟨9, TX9, 40, rfl, rfl⟩ ⟨Nat.le_of_ble_eq_true rfl, Nat.le_of_ble_eq_true rfl⟩ (Nat.le_of_ble_eq_true rfl) (c_X9_costOf (tx := tx) (n := n) (hd := hd) (lv := lv) (by omega) (by omega) (by rw [hF2.fn 43 rfl]; exact e43) (by rw [hF2.at 122 rfl 0]; exact e122) hn ht (by rw [hF2.fn 47 rfl]; exact e47) (by rw [hF2.fn 48 rfl]; exact e48) hhd hlv) ?_
      rintro _ ν18 ⟨rfl, hF18⟩
      refine s_goto (pc := 21) 29 dX9_cost_21 rfl ?_
      refine s_lreturn (pc := 29) dX9_cost_29 rfl ?_
      first | exact ⟨by rw [if_neg (by omega)]; rfl, hF2.mono (by decide)⟩ | exact ⟨by rw [if_pos (by omega)], (hF2.mono (by decide)).tr hF18.1⟩
