theorem kO_kO {κ : Mem} {a b a' b' : Int} : wr (wr (kO κ a b) 126 0 a') 127 0 b' = kO κ a' b' := by
  unfold kO
  rw [wr_cm (c := 127) (d := 126) (by decide), wr_wr, wr_wr]
theorem kO_id {κ : Mem} : kO κ (κ 126 0) (κ 127 0) = κ := by unfold kO; rw [wr_id (μ := κ) rfl, wr_id rfl]
theorem kE_4 {κ : Mem} {p x L L' : Int} : wr (kE κ p x L) 50 p L' = kE κ p x L' := by unfold kE; rw [wr_wr]
theorem kE_kE {κ : Mem} {p x L x' L' : Int} : wr (wr (kE κ p x L) 52 (κ 125 0 - 1) x') 50 p L' = kE κ p x' L' := by
  unfold kE
  rw [wr_cm (c := 50) (d := 52) (by decide), wr_wr, wr_wr]
theorem kE_id {κ : Mem} {p : Int} : kE κ p (κ 52 (κ 125 0 - 1)) (κ 50 p) = κ := by unfold kE; rw [wr_id (μ := κ) rfl, wr_id rfl]
theorem edg_up {κ : Mem} {p x : Int} (h0 : 0 ≤ x) (h1 : x < 10) : edg κ p (10 - x).toNat = if cst (kE κ p x (κ 125 0 - 1)) p < cst (kE κ p x 4) p then x else edg κ p (10 - (x + 1)).toNat := by
  rw [show (10 - x).toNat = (10 - (x + 1)).toNat + 1 by omega]
  show (if cst (kE κ p (10 - (((10 - (x + 1)).toNat + 1 : Nat) : Int)) (κ 125 0 - 1)) p < cst (kE κ p (10 - (((10 - (x + 1)).toNat + 1 : Nat) : Int)) 4) p then 10 - (((10 - (x + 1)).toNat + 1 : Nat) : Int) else edg κ p (10 - (x + 1)).toNat) = _
  rw [show (10 : Int) - (((10 - (x + 1)).toNat + 1 : Nat) : Int) = x by omega]
theorem lp_X9_lawForOf {κ : Mem} {p : Int} {μ : Mem} (hko : KO κ) (hp : 0 ≤ p ∧ p < κ 129 0) : ∀ (f : Nat) (i a b : Int) (ν : Mem), (0 ≤ i) → (i ≤ 9) → (Fr [53, 54, 126, 127] μ ν) → (MR (kO κ a b) ν) → (0 ≤ (lwf κ p i.toNat).1 ∧ (lwf κ p i.toNat).1 ≤ 6144 ^ (κ 125 0).toNat) → (-1 ≤ (lwf κ p i.toNat).2 ∧ (lwf κ p i.toNat).2 ≤ 9) → 9 - i < (f : Int) → AW kX9_lawForOf 11 [some (.inr (.inr 9)), some (.inl p), some (.inl (lwf κ p i.toNat).2), some (.inr (.inl ((lwf κ p i.toNat).1 * sc κ))), none, some (.inl i), none, none] [] ν (pI (fun z ν => (lwf κ p 9).2 = z ∧ Fr [53, 54, 126, 127] μ ν)) := by
  intro f
  induction f with
  | zero =>
    intro i a b ν h0 h1 hF hM hb hc hm
    exfalso; omega
  | succ f ih =>
    intro i a b ν h0 h1 hF hM hb hc hm
    have hk1 := hko.1
    have hsn := cost_in hk1 (a := (lwf κ p i.toNat).1) hb.1 (by have := p6144 hk1; omega)
    have hsu : lwf κ p (i + 1).toNat = if True ∧ ((lwf κ p i.toNat).2 = -1 ∨ am (kO κ (i / 3) (i % 3)) p < (lwf κ p i.toNat).1) then (am (kO κ (i / 3) (i % 3)) p, i) else lwf κ p i.toNat := lst_succ (by omega)
    refine s_iload_5 (pc := 11) dX9_lawForOf_11 ?_
    refine s_bipush (pc := 13) (z := 9) dX9_lawForOf_13 rfl ?_
    refine s_icmp_ge (pc := 15) 65 dX9_lawForOf_15 rfl (by omega) (by omega) (fun h15 => ?_) (fun h15 => ?_)
    · refine s_iload_2 (pc := 65) dX9_lawForOf_65 ?_
      refine s_ireturn (pc := 66) dX9_lawForOf_66 rfl ?_
      cases (show i = 9 by omega)
      exact ⟨rfl, hF⟩
    · refine s_aload_0 (pc := 18) dX9_lawForOf_18 ?_
      refine s_iload_5 (pc := 19) dX9_lawForOf_19 ?_
      refine s_iconst_3 (pc := 21) dX9_lawForOf_21 ?_
      refine s_idiv (pc := 22) dX9_lawForOf_22 (by omega) (by omega) ?_
      rw [Int.tdiv_eq_ediv_of_nonneg (by omega)]
      refine pfX9_174 (pc := 23) dX9_lawForOf_23 rfl ?_
      refine s_aload_0 (pc := 26) dX9_lawForOf_26 ?_
      refine s_iload_5 (pc := 27) dX9_lawForOf_27 ?_
      refine s_iconst_3 (pc := 29) dX9_lawForOf_29 ?_
      refine s_irem (pc := 30) dX9_lawForOf_30 (by omega) (by omega) ?_
      rw [Int.tmod_eq_emod_of_nonneg (by omega)]
      refine pfX9_177 (pc := 31) dX9_lawForOf_31 rfl ?_
      refine s_aload_0 (pc := 34) dX9_lawForOf_34 ?_
      refine s_iload_1 (pc := 35) dX9_lawForOf_35 ?_
      have hM1 : MR (kO κ (i / 3) (i % 3)) (wr (wr ν 126 0 (i / 3)) 127 0 (i % 3)) := by
        have := (hM.w126 (x := i / 3) (by omega)).w127 (x := i % 3) (by omega)
        rw [kO_kO] at this
        exact this
      have hka := kO_KO (a := i / 3) (b := i % 3) hko (by omega) (by omega)
      have ham := am_at (κ := κ) hka (by rw [kO_o (by decide) (by decide)]) (by rw [kO_o (by decide) (by decide)]) hp.1 hp.2
      have hci := cost_in hk1 (a := am (kO κ (i / 3) (i % 3)) p) ham.1 (by have := p6144 hk1; omega)
      refine cV1l (pc := 36) (Ky := kX9_amountNow) dX9_lawForOf_36 rfl lnX9_230 okX9_amountNow ⟨9, TX9, 40, rfl, rfl⟩ ⟨Nat.le_of_ble_eq_true rfl, Nat.le_of_ble_eq_true rfl⟩ (Nat.le_of_ble_eq_true rfl) (c_X9_amountNow hM1 hka.2 (by rw [kO_o (by decide) (by decide)]; exact hp)) ?_
      rintro _ ν36 ⟨rfl, hF36⟩
      rw [kO_sc]
      have hM36 := hM1.fr hF36 (by decide)
      have hFF : Fr [53, 54, 126, 127] μ ν36 := ((hF.wr (by decide)).wr (by decide)).tr (hF36.mono (by decide))
      refine s_lstore_6 (pc := 39) dX9_lawForOf_39 (Nat.le_of_ble_eq_true rfl) rfl ?_
      refine s_iload_2 (pc := 41) dX9_lawForOf_41 ?_
      refine s_iconst_m1 (pc := 42) dX9_lawForOf_42 ?_
      refine s_icmp_eq (pc := 43) 53 dX9_lawForOf_43 rfl (by omega) (by omega) (fun h43 => ?_) (fun h43 => ?_)
      · have hup : True ∧ ((lwf κ p i.toNat).2 = -1 ∨ am (kO κ (i / 3) (i % 3)) p < (lwf κ p i.toNat).1) := ⟨trivial, Or.inl (by omega)⟩
        refine s_iload_5 (pc := 53) dX9_lawForOf_53 ?_
        refine s_istore_2 (pc := 55) dX9_lawForOf_55 (Nat.le_of_ble_eq_true rfl) rfl ?_
        refine s_lload_6 (pc := 56) dX9_lawForOf_56 ?_
        refine s_lstore_3 (pc := 58) dX9_lawForOf_58 (Nat.le_of_ble_eq_true rfl) rfl ?_
        refine s_iinc_5 (pc := 59) dX9_lawForOf_59 (Nat.le_of_ble_eq_true rfl) rfl ?_
        refine s_goto (pc := 62) 11 dX9_lawForOf_62 rfl ?_
        first
          | (have hu : lwf κ p (i + 1).toNat = (am (kO κ (i / 3) (i % 3)) p, i) := by rw [hsu, if_pos hup]
             refine s_le ?_ (ih (i + 1) _ _ _ (by omega) (by omega) hFF hM36 (by rw [hu]; exact ham) (by rw [hu]; dsimp only; omega) (by omega))
             rw [hu]
             exact ⟨Or.inr rfl, Or.inr rfl, Or.inr rfl, Or.inr rfl, Or.inl rfl, Or.inr rfl, Or.inl rfl, Or.inl rfl, trivial⟩)
          | (have hu : lwf κ p (i + 1).toNat = lwf κ p i.toNat := by rw [hsu, if_neg hnu]
             refine s_le ?_ (ih (i + 1) _ _ _ (by omega) (by omega) hFF hM36 (by rw [hu]; exact hb) (by rw [hu]; exact hc) (by omega))
             rw [hu]
             exact ⟨Or.inr rfl, Or.inr rfl, Or.inr rfl, Or.inr rfl, Or.inl rfl, Or.inr rfl, Or.inl rfl, Or.inl rfl, trivial⟩)
      · refine s_lload_6 (pc := 46) dX9_lawForOf_46 ?_
        refine s_lload_3 (pc := 48) dX9_lawForOf_48 ?_
        refine s_lif_ge (pc := 49) 59 dX9_lawForOf_49 dX9_lawForOf_50 rfl (by omega) (by omega) (fun h50 => ?_) (fun h50 => ?_)
        · have hnu : ¬ (True ∧ ((lwf κ p i.toNat).2 = -1 ∨ am (kO κ (i / 3) (i % 3)) p < (lwf κ p i.toNat).1)) := fun q => by have := (mul_lt_sc hk1 (a := am (kO κ (i / 3) (i % 3)) p) (b := (lwf κ p i.toNat).1)); omega
          refine s_iinc_5 (pc := 59) dX9_lawForOf_59 (Nat.le_of_ble_eq_true rfl) rfl ?_
          refine s_goto (pc := 62) 11 dX9_lawForOf_62 rfl ?_
          first
            | (have hu : lwf κ p (i + 1).toNat = (am (kO κ (i / 3) (i % 3)) p, i) := by rw [hsu, if_pos hup]
               refine s_le ?_ (ih (i + 1) _ _ _ (by omega) (by omega) hFF hM36 (by rw [hu]; exact ham) (by rw [hu]; dsimp only; omega) (by omega))
               rw [hu]
               exact ⟨Or.inr rfl, Or.inr rfl, Or.inr rfl, Or.inr rfl, Or.inl rfl, Or.inr rfl, Or.inl rfl, Or.inl rfl, trivial⟩)
            | (have hu : lwf κ p (i + 1).toNat = lwf κ p i.toNat := by rw [hsu, if_neg hnu]
               refine s_le ?_ (ih (i + 1) _ _ _ (by omega) (by omega) hFF hM36 (by rw [hu]; exact hb) (by rw [hu]; exact hc) (by omega))
               rw [hu]
               exact ⟨Or.inr rfl, Or.inr rfl, Or.inr rfl, Or.inr rfl, Or.inl rfl, Or.inr rfl, Or.inl rfl, Or.inl rfl, trivial⟩)
        · have hup : True ∧ ((lwf κ p i.toNat).2 = -1 ∨ am (kO κ (i / 3) (i % 3)) p < (lwf κ p i.toNat).1) := ⟨trivial, Or.inr ((mul_lt_sc hk1).mp (by omega))⟩
          refine s_iload_5 (pc := 53) dX9_lawForOf_53 ?_
          refine s_istore_2 (pc := 55) dX9_lawForOf_55 (Nat.le_of_ble_eq_true rfl) rfl ?_
          refine s_lload_6 (pc := 56) dX9_lawForOf_56 ?_
          refine s_lstore_3 (pc := 58) dX9_lawForOf_58 (Nat.le_of_ble_eq_true rfl) rfl ?_
          refine s_iinc_5 (pc := 59) dX9_lawForOf_59 (Nat.le_of_ble_eq_true rfl) rfl ?_
          refine s_goto (pc := 62) 11 dX9_lawForOf_62 rfl ?_
          first
            | (have hu : lwf κ p (i + 1).toNat = (am (kO κ (i / 3) (i % 3)) p, i) := by rw [hsu, if_pos hup]
               refine s_le ?_ (ih (i + 1) _ _ _ (by omega) (by omega) hFF hM36 (by rw [hu]; exact ham) (by rw [hu]; dsimp only; omega) (by omega))
               rw [hu]
               exact ⟨Or.inr rfl, Or.inr rfl, Or.inr rfl, Or.inr rfl, Or.inl rfl, Or.inr rfl, Or.inl rfl, Or.inl rfl, trivial⟩)
            | (have hu : lwf κ p (i + 1).toNat = lwf κ p i.toNat := by rw [hsu, if_neg hnu]
               refine s_le ?_ (ih (i + 1) _ _ _ (by omega) (by omega) hFF hM36 (by rw [hu]; exact hb) (by rw [hu]; exact hc) (by omega))
               rw [hu]
               exact ⟨Or.inr rfl, Or.inr rfl, Or.inr rfl, Or.inr rfl, Or.inl rfl, Or.inr rfl, Or.inl rfl, Or.inl rfl, trivial⟩)
theorem c_X9_lawForOf {tx : Int → Int} {n p : Int} {hd lv : Int → Int} {μ : Mem} (hp : 0 ≤ p ∧ p < pPe tx n) (e43 : μ 43 = tx) (e122 : μ 122 0 = n) (hn : 0 ≤ n ∧ n ≤ 60) (ht : ∀ k : Int, 0 ≤ k → k < n → 0 ≤ tx k ∧ tx k ≤ 255) (e47 : μ 47 = hd) (e48 : μ 48 = lv) (hhd : ∀ p : Int, 0 ≤ p → p < 4 → 0 ≤ hd p ∧ hd p ≤ 15) (hlv : ∀ p : Int, 0 ≤ p → p < 4 → 0 ≤ lv p ∧ lv p ≤ 4) : Mc kX9_lawForOf [.inr (.inr 9), .inl p] μ (pI (fun z ν => (lwf (cfg tx n hd lv) p 9).2 = z ∧ FrT tx n [42, 44, 45, 46, 49, 50, 51, 52, 53, 54, 55, 56, 123, 124, 125, 126, 127, 128, 129, 130, 131, 132, 133, 134] μ ν)) := by
  refine Mc_of (by decide +kernel) (fun _ => Nat.le_of_ble_eq_true rfl) ?_
  show AW kX9_lawForOf 0 [some (.inr (.inr 9)), some (.inl p), none, none, none, none, none, none] [] μ _
  have hpe := pPe_in (tx := tx) hn.1
  have hta := pTa_in (tx := tx) hn.1
  refine s_aload_0 (pc := 0) dX9_lawForOf_0 ?_
  refine cV0v (pc := 1) (Ky := kX9_tries) dX9_lawForOf_1 rfl lnX9_194 okX9_tries ⟨9, TX9, 40, rfl, rfl⟩ ⟨Nat.le_of_ble_eq_true rfl, Nat.le_of_ble_eq_true rfl⟩ (Nat.le_of_ble_eq_true rfl) (c_X9_tries e43 e122 hn ht e47 e48 hhd hlv) ?_
  rintro ν1 ⟨hF1, hR1, hM1⟩
  have hF1 := FrT.of hF1 hR1
  have hko := cfg_KO hM1.1 (by omega)
  refine s_iconst_m1 (pc := 4) dX9_lawForOf_4 ?_
  refine s_istore_2 (pc := 5) dX9_lawForOf_5 (Nat.le_of_ble_eq_true rfl) rfl ?_
  refine s_lconst_0 (pc := 6) dX9_lawForOf_6 ?_
  refine s_lstore_3 (pc := 7) dX9_lawForOf_7 (Nat.le_of_ble_eq_true rfl) rfl ?_
  refine s_iconst_0 (pc := 8) dX9_lawForOf_8 ?_
  refine s_istore_5 (pc := 9) dX9_lawForOf_9 (Nat.le_of_ble_eq_true rfl) rfl ?_
  have hz : lwf (cfg tx n hd lv) p (0 : Int).toNat = (0, -1) := rfl
  have := lp_X9_lawForOf (μ := ν1) hko (p := p) hp 10 0 _ _ ν1 (by omega) (by omega) Fr.rf (by rw [kO_id]; exact hM1) (by rw [hz]; exact ⟨by decide, by have := p6144 hko.1; dsimp only; omega⟩) (by rw [hz]; decide) (by omega)
  rw [hz, Int.zero_mul] at this
  refine AW.mono this ?_
  rintro r ν ⟨z, rfl, rfl, hF2⟩
  exact ⟨_, rfl, rfl, (hF1.mono (by decide)).tr (hF2.mono (by decide))⟩
theorem c_X9_lawFor {tx : Int → Int} {n p : Int} {hd lv : Int → Int} {μ : Mem} (h_p : -2147483648 ≤ p ∧ p < 2147483648) (e43 : μ 43 = tx) (e122 : μ 122 0 = n) (hn : 0 ≤ n ∧ n ≤ 60) (ht : ∀ k : Int, 0 ≤ k → k < n → 0 ≤ tx k ∧ tx k ≤ 255) (e47 : μ 47 = hd) (e48 : μ 48 = lv) (hhd : ∀ p : Int, 0 ≤ p → p < 4 → 0 ≤ hd p ∧ hd p ≤ 15) (hlv : ∀ p : Int, 0 ≤ p → p < 4 → 0 ≤ lv p ∧ lv p ≤ 4) : Mc kX9_lawFor [.inr (.inr 9), .inl p] μ (pI (fun z ν => (if 0 ≤ p ∧ p < pPe tx n then (lwf (cfg tx n hd lv) p 9).2 else -2) = z ∧ Fr [42, 44, 45, 46, 49, 50, 51, 52, 53, 54, 55, 56, 123, 124, 125, 126, 127, 128, 129, 130, 131, 132, 133, 134] μ ν)) := by
  refine Mc_of (by decide +kernel) (fun _ => Nat.le_of_ble_eq_true rfl) ?_
  show AW kX9_lawFor 0 [some (.inr (.inr 9)), some (.inl p)] [] μ _
  have hpe := pPe_in (tx := tx) hn.1
  have hta := pTa_in (tx := tx) hn.1
  refine s_aload_0 (pc := 0) dX9_lawFor_0 ?_
  refine s_iload_1 (pc := 1) dX9_lawFor_1 ?_
  refine cV1i (pc := 2) (Ky := kX9_isPerson) dX9_lawFor_2 rfl lnX9_158 okX9_isPerson ⟨9, TX9, 40, rfl, rfl⟩ ⟨Nat.le_of_ble_eq_true rfl, Nat.le_of_ble_eq_true rfl⟩ (Nat.le_of_ble_eq_true rfl) (c_X9_isPerson (by omega) e43 e122 hn ht) ?_
  rintro _ ν2 ⟨rfl, hF2, hM2⟩
  refine s_if_eq (pc := 5) 16 dX9_lawFor_5 rfl (by omega) (fun h5 => ?_) (fun h5 => ?_)
  · refine s_bipush (pc := 16) (z := -2) dX9_lawFor_16 rfl ?_
    refine s_ireturn (pc := 18) dX9_lawFor_18 rfl ?_
    first | exact ⟨by rw [if_neg (by omega)], hF2.mono (by decide)⟩ | exact ⟨by rw [if_pos (by omega)], (hF2.mono (by decide)).tr hF10.1⟩
  · refine s_aload_0 (pc := 8) dX9_lawFor_8 ?_
    refine s_iload_1 (pc := 9) dX9_lawFor_9 ?_
    refine cV1i (pc := 10) (Ky := kX9_lawForOf) dX9_lawFor_10 rfl lnX9_302 okX9_lawForOf ⟨9, TX9, 40, rfl, rfl⟩ ⟨Nat.le_of_ble_eq_true rfl, Nat.le_of_ble_eq_true rfl⟩ (Nat.le_of_ble_eq_true rfl) (c_X9_lawForOf (tx := tx) (n := n) (hd := hd) (lv := lv) (by omega) (by rw [hF2.fn 43 rfl]; exact e43) (by rw [hF2.at 122 rfl 0]; exact e122) hn ht (by rw [hF2.fn 47 rfl]; exact e47) (by rw [hF2.fn 48 rfl]; exact e48) hhd hlv) ?_
    rintro _ ν10 ⟨rfl, hF10⟩
    refine s_goto (pc := 13) 18 dX9_lawFor_13 rfl ?_
    refine s_ireturn (pc := 18) dX9_lawFor_18 rfl ?_
    first | exact ⟨by rw [if_neg (by omega)], hF2.mono (by decide)⟩ | exact ⟨by rw [if_pos (by omega)], (hF2.mono (by decide)).tr hF10.1⟩
theorem lp_X9_edgeOf {κ : Mem} {p : Int} {μ : Mem} (hko : KO κ) (hp : 0 ≤ p ∧ p < κ 129 0) (hp2 : p < κ 124 0) (hT : 1 ≤ κ 125 0) : ∀ (f : Nat) (x a b : Int) (ν : Mem), (0 ≤ x) → (x ≤ 10) → (Fr [50, 52, 53, 54] μ ν) → (MR (kE κ p a b) ν) → (edg κ p 10 = edg κ p (10 - x).toNat) → 10 - x < (f : Int) → AW kX9_edgeOf 16 [some (.inr (.inr 9)), some (.inl p), some (.inl x), none, none] [] ν (pI (fun z ν => edg κ p 10 = z ∧ Fr [50, 52, 53, 54] μ ν)) := by
  intro f
  induction f with
  | zero =>
    intro x a b ν h0 h1 hF hM he hm
    exfalso; omega
  | succ f ih =>
    intro x a b ν h0 h1 hF hM he hm
    have hk1 := hko.1
    have r129 := hk1.1
    have r125 := hk1.2.1
    have hsc := sc_in hk1
    have m125 : ν 125 0 = κ 125 0 := by have := hM.2.2.1; rwa [kE_o (by decide) (by decide)] at this
    refine s_iload_2 (pc := 16) dX9_edgeOf_16 ?_
    refine s_bipush (pc := 17) (z := 10) dX9_edgeOf_17 rfl ?_
    refine s_icmp_ge (pc := 19) 77 dX9_edgeOf_19 rfl (by omega) (by omega) (fun h19 => ?_) (fun h19 => ?_)
    · refine s_iconst_m1 (pc := 77) dX9_edgeOf_77 ?_
      refine s_ireturn (pc := 78) dX9_edgeOf_78 rfl ?_
      first
        | (refine ⟨?_, hFG⟩
           rw [he, hup, if_pos (by omega)]; done)
        | (cases (show x = 10 by omega)
           exact ⟨he, hF⟩)
    · refine s_aload_0 (pc := 22) dX9_edgeOf_22 ?_
      refine gfX9_49 (pc := 23) dX9_edgeOf_23 rfl ?_
      refine s_aload_0 (pc := 26) dX9_edgeOf_26 ?_
      refine gfX9_129 (pc := 27) dX9_edgeOf_27 rfl ?_
      try simp (decide := true) only [wr_s, wr_n, wa_s, wa_n, mg_i, mg_o, if_true, eq_self, reduceIte]
      try rw [m125]
      try rw [m125b]
      refine s_iconst_1 (pc := 30) dX9_edgeOf_30 ?_
      refine s_isub (pc := 31) dX9_edgeOf_31 ?_
      refine s_iload_2 (pc := 32) dX9_edgeOf_32 ?_
      have hup := edg_up (κ := κ) (p := p) h0 (by omega)
      refine z_iastore (pc := 33) dX9_edgeOf_33 ly_52 ip_52 (by omega) (by omega) ?_
      refine s_aload_0 (pc := 34) dX9_edgeOf_34 ?_
      refine gfX9_43 (pc := 35) dX9_edgeOf_35 rfl ?_
      refine s_iload_1 (pc := 38) dX9_edgeOf_38 ?_
      refine s_aload_0 (pc := 39) dX9_edgeOf_39 ?_
      refine gfX9_129 (pc := 40) dX9_edgeOf_40 rfl ?_
      try simp (decide := true) only [wr_s, wr_n, wa_s, wa_n, mg_i, mg_o, if_true, eq_self, reduceIte]
      try rw [m125]
      try rw [m125b]
      refine s_iconst_1 (pc := 43) dX9_edgeOf_43 ?_
      refine s_isub (pc := 44) dX9_edgeOf_44 ?_
      refine z_iastore (pc := 45) dX9_edgeOf_45 ly_50 ip_50 (by omega) (by omega) ?_
      refine s_aload_0 (pc := 46) dX9_edgeOf_46 ?_
      refine s_iload_1 (pc := 47) dX9_edgeOf_47 ?_
      have hM1 : MR (kE κ p x (κ 125 0 - 1)) (wr (wr ν 52 (κ 125 0 - 1) x) 50 p (κ 125 0 - 1)) := by
        have := (hM.w52 (p := κ 125 0 - 1) (x := x) (by omega)).w50 (p := p) (x := κ 125 0 - 1) (by omega)
        rw [kE_kE] at this
        exact this
      have hka := kE_KO (p := p) (x := x) (L := κ 125 0 - 1) hko (by omega) (by omega)
      have hkb := kE_KO (p := p) (x := x) (L := 4) hko (by omega) (by omega)
      have hc1 := cst_in hka (p := p) hp.1 (by rw [kE_o (by decide) (by decide)]; exact hp.2) (by rw [kE_o (by decide) (by decide)]; exact hp2)
      have hc2 := cst_in hkb (p := p) hp.1 (by rw [kE_o (by decide) (by decide)]; exact hp.2) (by rw [kE_o (by decide) (by decide)]; exact hp2)
      rw [kE_o (c := 125) (by decide) (by decide)] at hc1 hc2
      have hd1 := cost_in hk1 hc1.1 hc1.2
      have hd2 := cost_in hk1 hc2.1 hc2.2
      refine cV1l (pc := 48) (Ky := kX9_costNow) dX9_edgeOf_48 rfl lnX9_258 okX9_costNow ⟨9, TX9, 40, rfl, rfl⟩ ⟨Nat.le_of_ble_eq_true rfl, Nat.le_of_ble_eq_true rfl⟩ (Nat.le_of_ble_eq_true rfl) (c_X9_costNow hM1 hka.2 (by rw [kE_o (by decide) (by decide)]; exact hp) (by rw [kE_o (by decide) (by decide)]; exact hp2)) ?_
      rintro _ ν48 ⟨rfl, hF48⟩
      rw [kE_sc]
      have hM48 := hM1.fr hF48 (by decide)
      have hFF : Fr [50, 52, 53, 54] μ ν48 := ((hF.wr (by decide)).wr (by decide)).tr (hF48.mono (by decide))
      refine s_lstore_3 (pc := 51) dX9_edgeOf_51 (Nat.le_of_ble_eq_true rfl) rfl ?_
      refine s_aload_0 (pc := 52) dX9_edgeOf_52 ?_
      refine gfX9_43 (pc := 53) dX9_edgeOf_53 rfl ?_
      refine s_iload_1 (pc := 56) dX9_edgeOf_56 ?_
      refine s_iconst_4 (pc := 57) dX9_edgeOf_57 ?_
      refine z_iastore (pc := 58) dX9_edgeOf_58 ly_50 ip_50 (by omega) (by omega) ?_
      refine s_lload_3 (pc := 59) dX9_edgeOf_59 ?_
      refine s_aload_0 (pc := 60) dX9_edgeOf_60 ?_
      refine s_iload_1 (pc := 61) dX9_edgeOf_61 ?_
      have hM2 : MR (kE κ p x 4) (wr ν48 50 p 4) := by
        have := hM48.w50 (p := p) (x := 4) (by omega)
        rw [kE_4] at this
        exact this
      refine cV1l (pc := 62) (Ky := kX9_costNow) dX9_edgeOf_62 rfl lnX9_258 okX9_costNow ⟨9, TX9, 40, rfl, rfl⟩ ⟨Nat.le_of_ble_eq_true rfl, Nat.le_of_ble_eq_true rfl⟩ (Nat.le_of_ble_eq_true rfl) (c_X9_costNow hM2 hkb.2 (by rw [kE_o (by decide) (by decide)]; exact hp) (by rw [kE_o (by decide) (by decide)]; exact hp2)) ?_
      rintro _ ν62 ⟨rfl, hF62⟩
      rw [kE_sc]
      have hM62 := hM2.fr hF62 (by decide)
      have hFG : Fr [50, 52, 53, 54] μ ν62 := (hFF.wr (by decide)).tr (hF62.mono (by decide))
      have hlt := mul_lt_sc hk1 (a := cst (kE κ p x (κ 125 0 - 1)) p) (b := cst (kE κ p x 4) p)
      refine s_lif_ge (pc := 65) 71 dX9_edgeOf_65 dX9_edgeOf_66 rfl (by omega) (by omega) (fun h66 => ?_) (fun h66 => ?_)
      · refine s_iinc_2 (pc := 71) dX9_edgeOf_71 (Nat.le_of_ble_eq_true rfl) rfl ?_
        refine s_goto (pc := 74) 16 dX9_edgeOf_74 rfl ?_
        refine s_le ?_ (ih (x + 1) _ _ _ (by omega) (by omega) hFG hM62 (by rw [he, hup, if_neg (by omega)]) (by omega))
        exact ⟨Or.inr rfl, Or.inr rfl, Or.inr rfl, Or.inl rfl, Or.inl rfl, trivial⟩
      · refine s_iload_2 (pc := 69) dX9_edgeOf_69 ?_
        refine s_ireturn (pc := 70) dX9_edgeOf_70 rfl ?_
        first
          | (refine ⟨?_, hFG⟩
             rw [he, hup, if_pos (by omega)]; done)
          | (cases (show x = 10 by omega)
             exact ⟨he, hF⟩)
theorem c_X9_edgeOf {tx : Int → Int} {n p : Int} {hd lv : Int → Int} {μ : Mem} (hp : 0 ≤ p ∧ p < pPe tx n) (e43 : μ 43 = tx) (e122 : μ 122 0 = n) (hn : 0 ≤ n ∧ n ≤ 60) (ht : ∀ k : Int, 0 ≤ k → k < n → 0 ≤ tx k ∧ tx k ≤ 255) (e47 : μ 47 = hd) (e48 : μ 48 = lv) (hhd : ∀ p : Int, 0 ≤ p → p < 4 → 0 ≤ hd p ∧ hd p ≤ 15) (hlv : ∀ p : Int, 0 ≤ p → p < 4 → 0 ≤ lv p ∧ lv p ≤ 4) : Mc kX9_edgeOf [.inr (.inr 9), .inl p] μ (pI (fun z ν => (if pTa tx n = 0 then -3 else edg (cfg tx n hd lv) p 10) = z ∧ FrT tx n [42, 44, 45, 46, 49, 50, 51, 52, 53, 54, 55, 56, 123, 124, 125, 126, 127, 128, 129, 130, 131, 132, 133, 134] μ ν)) := by
  refine Mc_of (by decide +kernel) (fun _ => Nat.le_of_ble_eq_true rfl) ?_
  show AW kX9_edgeOf 0 [some (.inr (.inr 9)), some (.inl p), none, none, none] [] μ _
  have hpe := pPe_in (tx := tx) hn.1
  have hta := pTa_in (tx := tx) hn.1
  refine s_aload_0 (pc := 0) dX9_edgeOf_0 ?_
  refine cV0v (pc := 1) (Ky := kX9_tries) dX9_edgeOf_1 rfl lnX9_194 okX9_tries ⟨9, TX9, 40, rfl, rfl⟩ ⟨Nat.le_of_ble_eq_true rfl, Nat.le_of_ble_eq_true rfl⟩ (Nat.le_of_ble_eq_true rfl) (c_X9_tries e43 e122 hn ht e47 e48 hhd hlv) ?_
  rintro ν1 ⟨hF1, hR1, hM1⟩
  have hF1 := FrT.of hF1 hR1
  have hko := cfg_KO hM1.1 (by omega)
  have m125 : ν1 125 0 = pTa tx n := hR1.2.1
  refine s_aload_0 (pc := 4) dX9_edgeOf_4 ?_
  refine gfX9_129 (pc := 5) dX9_edgeOf_5 rfl ?_
  refine s_if_ne (pc := 8) 14 dX9_edgeOf_8 rfl (by omega) (fun h8 => ?_) (fun h8 => ?_)
  · refine s_iconst_0 (pc := 14) dX9_edgeOf_14 ?_
    refine s_istore_2 (pc := 15) dX9_edgeOf_15 (Nat.le_of_ble_eq_true rfl) rfl ?_
    have := lp_X9_edgeOf (μ := ν1) hko (p := p) hp hp.2 (show 1 ≤ pTa tx n by omega) 11 0 _ _ ν1 (by omega) (by omega) Fr.rf (by rw [kE_id]; exact hM1) rfl (by omega)
    refine AW.mono this ?_
    rintro r ν ⟨z, rfl, rfl, hF2⟩
    exact ⟨_, rfl, by rw [if_neg (by omega)], (hF1.mono (by decide)).tr (hF2.mono (by decide))⟩
  · refine s_bipush (pc := 11) (z := -3) dX9_edgeOf_11 rfl ?_
    refine s_ireturn (pc := 13) dX9_edgeOf_13 rfl ?_
    exact ⟨by rw [if_pos (by omega)], hF1.mono (by decide)⟩
theorem c_X9_edge {tx : Int → Int} {n p : Int} {hd lv : Int → Int} {μ : Mem} (h_p : -2147483648 ≤ p ∧ p < 2147483648) (e43 : μ 43 = tx) (e122 : μ 122 0 = n) (hn : 0 ≤ n ∧ n ≤ 60) (ht : ∀ k : Int, 0 ≤ k → k < n → 0 ≤ tx k ∧ tx k ≤ 255) (e47 : μ 47 = hd) (e48 : μ 48 = lv) (hhd : ∀ p : Int, 0 ≤ p → p < 4 → 0 ≤ hd p ∧ hd p ≤ 15) (hlv : ∀ p : Int, 0 ≤ p → p < 4 → 0 ≤ lv p ∧ lv p ≤ 4) : Mc kX9_edge [.inr (.inr 9), .inl p] μ (pI (fun z ν => (if 0 ≤ p ∧ p < pPe tx n then (if pTa tx n = 0 then -3 else edg (cfg tx n hd lv) p 10) else -2) = z ∧ Fr [42, 44, 45, 46, 49, 50, 51, 52, 53, 54, 55, 56, 123, 124, 125, 126, 127, 128, 129, 130, 131, 132, 133, 134] μ ν)) := by
  refine Mc_of (by decide +kernel) (fun _ => Nat.le_of_ble_eq_true rfl) ?_
  show AW kX9_edge 0 [some (.inr (.inr 9)), some (.inl p)] [] μ _
  have hpe := pPe_in (tx := tx) hn.1
  have hta := pTa_in (tx := tx) hn.1
  refine s_aload_0 (pc := 0) dX9_edge_0 ?_
  refine s_iload_1 (pc := 1) dX9_edge_1 ?_
  refine cV1i (pc := 2) (Ky := kX9_isPerson) dX9_edge_2 rfl lnX9_158 okX9_isPerson ⟨9, TX9, 40, rfl, rfl⟩ ⟨Nat.le_of_ble_eq_true rfl, Nat.le_of_ble_eq_true rfl⟩ (Nat.le_of_ble_eq_true rfl) (c_X9_isPerson (by omega) e43 e122 hn ht) ?_
  rintro _ ν2 ⟨rfl, hF2, hM2⟩
  refine s_if_eq (pc := 5) 16 dX9_edge_5 rfl (by omega) (fun h5 => ?_) (fun h5 => ?_)
  · refine s_bipush (pc := 16) (z := -2) dX9_edge_16 rfl ?_
    refine s_ireturn (pc := 18) dX9_edge_18 rfl ?_
    first | exact ⟨by rw [if_neg (by omega)], hF2.mono (by decide)⟩ | exact ⟨by rw [if_pos (by omega)], (hF2.mono (by decide)).tr hF10.1⟩
  · refine s_aload_0 (pc := 8) dX9_edge_8 ?_
    refine s_iload_1 (pc := 9) dX9_edge_9 ?_
    refine cV1i (pc := 10) (Ky := kX9_edgeOf) dX9_edge_10 rfl lnX9_305 okX9_edgeOf ⟨9, TX9, 40, rfl, rfl⟩ ⟨Nat.le_of_ble_eq_true rfl, Nat.le_of_ble_eq_true rfl⟩ (Nat.le_of_ble_eq_true rfl) (c_X9_edgeOf (tx := tx) (n := n) (hd := hd) (lv := lv) (by omega) (by rw [hF2.fn 43 rfl]; exact e43) (by rw [hF2.at 122 rfl 0]; exact e122) hn ht (by rw [hF2.fn 47 rfl]; exact e47) (by rw [hF2.fn 48 rfl]; exact e48) hhd hlv) ?_
    rintro _ ν10 ⟨rfl, hF10⟩
    refine s_goto (pc := 13) 18 dX9_edge_13 rfl ?_
    refine s_ireturn (pc := 18) dX9_edge_18 rfl ?_
    first | exact ⟨by rw [if_neg (by omega)], hF2.mono (by decide)⟩ | exact ⟨by rw [if_pos (by omega)], (hF2.mono (by decide)).tr hF10.1⟩
