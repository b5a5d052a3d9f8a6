def gB (κ : Mem) (s : BS) : Prop := 0 ≤ s.1 ∧ s.1 ≤ 54 * 6144 ^ (κ 125 0).toNat ∧ (0 ≤ s.2.1 ∧ s.2.1 ≤ 15) ∧ (0 ≤ s.2.2 ∧ s.2.2 ≤ 4)
theorem bstB_g {κ : Mem} (h : KO κ) {p L : Int} (hL : 0 ≤ L ∧ L ≤ 4) (p0 : 0 ≤ p) (p1 : p < κ 129 0) (p2 : p < κ 124 0) {s : BS} : ∀ m : Nat, m ≤ 16 → (s.1 < 0 ∨ gB κ s) → ((bstB κ p L s m).1 < 0 ∨ gB κ (bstB κ p L s m)) ∧ (1 ≤ m → gB κ (bstB κ p L s m))
  | 0, _, hs => ⟨hs, fun q => by omega⟩
  | m + 1, hm, hs => by
    have ih := (bstB_g h hL p0 p1 p2 (s := s) m (by omega) hs).1
    have hc := cw_in h hL (b := m) (by omega) p0 p1 p2
    have hg : gB κ (bstB κ p L s (m + 1)) := by
      show gB κ (if (bstB κ p L s m).1 < 0 ∨ cw κ p L m < (bstB κ p L s m).1 then (cw κ p L m, m, L) else bstB κ p L s m)
      split
      · exact ⟨hc.1, hc.2, by dsimp only; omega, hL⟩
      · rename_i hn
        rcases ih with q | q
        · exact absurd (Or.inl q) hn
        · exact q
    exact ⟨Or.inr hg, fun _ => hg⟩
theorem lvO_in {κ : Mem} (h : KR κ) {j : Nat} (hj : j ≤ (κ 125 0).toNat) : 0 ≤ lvO κ j ∧ lvO κ j ≤ 4 := by
  have := h.2.1
  unfold lvO
  split <;> omega
theorem pow16 {κ : Mem} (h : KR κ) : 1 ≤ 2 ^ (κ 125 0).toNat ∧ 2 ^ (κ 125 0).toNat ≤ 16 := by
  have h1 := pw_small h.2.1
  have h2 := pw_nat (k := κ 125 0)
  omega
theorem bstL_g {κ : Mem} (h : KO κ) {p : Int} (p0 : 0 ≤ p) (p1 : p < κ 129 0) (p2 : p < κ 124 0) : ∀ j : Nat, j ≤ (κ 125 0).toNat + 1 → ((bstL κ p j).1 < 0 ∨ gB κ (bstL κ p j)) ∧ (1 ≤ j → gB κ (bstL κ p j))
  | 0, _ => ⟨Or.inl (by show (-1 : Int) < 0; decide), fun q => by omega⟩
  | j + 1, hj => by
    have ih := (bstL_g h p0 p1 p2 j (by omega)).1
    have h16 := pow16 h.1
    have := bstB_g h (lvO_in h.1 (j := j) (by omega)) p0 p1 p2 (s := bstL κ p j) (2 ^ (κ 125 0).toNat) h16.2 ih
    exact ⟨this.1, fun _ => this.2 h16.1⟩
theorem best_g {κ : Mem} (h : KO κ) {p : Int} (p0 : 0 ≤ p) (p1 : p < κ 129 0) (p2 : p < κ 124 0) : gB κ (best κ p) := (bstL_g h p0 p1 p2 _ (Nat.le_refl _)).2 (by omega)
theorem RB_g {κ ν : Mem} {s : BS} (hg : gB κ s) (h : RB κ ν s) : ν 133 0 = s.1 * sc κ ∧ ν 131 0 = s.2.1 ∧ ν 132 0 = s.2.2 := by
  rcases h with ⟨q1, _⟩ | ⟨_, _, q3, q4, q5, _⟩
  · have := hg.1; omega
  · exact ⟨q3, q4, q5⟩
def sBest (κ : Mem) (p w : Int) : Int := if w = 2 then (best κ p).2.1 else if w = 3 then (best κ p).2.2 else frc (best κ p).1 (6144 ^ (κ 125 0).toNat) w
/-- one round -/
def rndN (κ : Mem) : Nat → Mem × Int
  | 0 => (κ, 0)
  | j + 1 => if (best (rndN κ j).1 j).1 < cst (rndN κ j).1 j then (way (rndN κ j).1 j (best (rndN κ j).1 j).2.2 (best (rndN κ j).1 j).2.1, 1) else rndN κ j
def rnd (κ : Mem) : Mem × Int := rndN κ (κ 124 0).toNat
theorem rndN_succ {κ : Mem} {j : Int} (h : 0 ≤ j) : rndN κ (j + 1).toNat = if (best (rndN κ j.toNat).1 j).1 < cst (rndN κ j.toNat).1 j then (way (rndN κ j.toNat).1 j (best (rndN κ j.toNat).1 j).2.2 (best (rndN κ j.toNat).1 j).2.1, 1) else rndN κ j.toNat := by
  rw [show (j + 1).toNat = j.toNat + 1 by omega]
  show (if (best (rndN κ j.toNat).1 ((j.toNat : Nat) : Int)).1 < cst (rndN κ j.toNat).1 ((j.toNat : Nat) : Int) then (way (rndN κ j.toNat).1 ((j.toNat : Nat) : Int) (best (rndN κ j.toNat).1 ((j.toNat : Nat) : Int)).2.2 (best (rndN κ j.toNat).1 ((j.toNat : Nat) : Int)).2.1, 1) else rndN κ j.toNat) = _
  rw [show ((j.toNat : Nat) : Int) = j by omega]
/-- ways alone change -/
def sameW (κ κ' : Mem) : Prop := ∀ c : Nat, c ≠ 49 → c ≠ 50 → κ' c = κ c
theorem rndN_ok {κ : Mem} (h : KO κ) (he : κ 124 0 = κ 129 0) : ∀ j : Nat, (j : Int) ≤ κ 129 0 → KO (rndN κ j).1 ∧ sameW κ (rndN κ j).1 ∧ ((rndN κ j).2 = 0 ∨ (rndN κ j).2 = 1)
  | 0, _ => ⟨h, fun _ _ _ => rfl, Or.inl rfl⟩
  | j + 1, hj => by
    obtain ⟨ih1, ih2, ih3⟩ := rndN_ok h he j (by omega)
    have e129 : (rndN κ j).1 129 0 = κ 129 0 := by rw [ih2 129 (by decide) (by decide)]
    have e124 : (rndN κ j).1 124 0 = κ 124 0 := by rw [ih2 124 (by decide) (by decide)]
    have hg := best_g ih1 (p := j) (by omega) (by omega) (by omega)
    unfold rndN
    split
    · exact ⟨way_KO ih1 hg.2.2.2 hg.2.2.1, fun c h1 h2 => by show (way _ _ _ _) c = κ c; rw [way_o h1 h2]; exact ih2 c h1 h2, Or.inr rfl⟩
    · exact ⟨ih1, ih2, ih3⟩
/-- rounds, until they rest: ways, whether the last one changed, how many -/
def rsN (κ : Mem) : Nat → Mem × Int × Int
  | 0 => (κ, 1, 0)
  | j + 1 => if (rsN κ j).2.1 = 0 then rsN κ j else ((rnd (rsN κ j).1).1, (rnd (rsN κ j).1).2, (rsN κ j).2.2 + 1)
def rs (κ : Mem) : Mem × Int × Int := rsN κ 20
def sRest (κ : Mem) (p w : Int) : Int := if p = -1 then (if (rs κ).2.1 = 0 then (rs κ).2.2 else -1) else if w = 0 then (rs κ).1 49 p else (rs κ).1 50 p
theorem rsN_stop {κ : Mem} {j : Nat} (h : (rsN κ j).2.1 = 0) : ∀ k : Nat, rsN κ (j + k) = rsN κ j
  | 0 => rfl
  | k + 1 => by
    have := rsN_stop h k
    show (if (rsN κ (j + k)).2.1 = 0 then rsN κ (j + k) else _) = _
    rw [this, if_pos h]
def okW (κ κ' : Mem) : Prop := KR κ' ∧ sameW κ κ' ∧ (0 < κ 129 0 → KO κ')
theorem rnd_ok {κ κ' : Mem} (h : okW κ κ') (he : κ 124 0 = κ 129 0) : okW κ (rnd κ').1 ∧ ((rnd κ').2 = 0 ∨ (rnd κ').2 = 1) := by
  have e129 : κ' 129 0 = κ 129 0 := by rw [h.2.1 129 (by decide) (by decide)]
  have e124 : κ' 124 0 = κ 124 0 := by rw [h.2.1 124 (by decide) (by decide)]
  by_cases hp : 0 < κ 129 0
  · have hk := h.2.2 hp
    obtain ⟨a1, a2, a3⟩ := rndN_ok hk (by omega) (κ' 124 0).toNat (by omega)
    exact ⟨⟨a1.1, fun c h1 h2 => (a2 c h1 h2).trans (h.2.1 c h1 h2), fun _ => a1⟩, a3⟩
  · have hz : (κ' 124 0).toNat = 0 := by omega
    unfold rnd
    rw [hz]
    exact ⟨h, Or.inl rfl⟩
theorem rsN_ok {κ : Mem} (h : okW κ κ) (he : κ 124 0 = κ 129 0) : ∀ j : Nat, okW κ (rsN κ j).1 ∧ ((rsN κ j).2.1 = 0 ∨ (rsN κ j).2.1 = 1)
  | 0 => ⟨h, Or.inr rfl⟩
  | j + 1 => by
    have ih := rsN_ok h he j
    unfold rsN
    split
    · exact ih
    · exact rnd_ok ih.1 he
theorem c_X9_bestOf {tx : Int → Int} {n p w : Int} {hd lv : Int → Int} {μ : Mem} (hp : 0 ≤ p ∧ p < pPe tx n) (hw : 0 ≤ w ∧ w ≤ 3) (e43 : μ 43 = tx) (e122 : μ 122 0 = n) (hn : 0 ≤ n ∧ n ≤ 60) (ht : ∀ k : Int, 0 ≤ k → k < n → 0 ≤ tx k ∧ tx k ≤ 255) (e47 : μ 47 = hd) (e48 : μ 48 = lv) (hhd : ∀ p : Int, 0 ≤ p → p < 4 → 0 ≤ hd p ∧ hd p ≤ 15) (hlv : ∀ p : Int, 0 ≤ p → p < 4 → 0 ≤ lv p ∧ lv p ≤ 4) : Mc kX9_bestOf [.inr (.inr 9), .inl p, .inl w] μ (pL (fun z ν => sBest (cfg tx n hd lv) p w = z ∧ FrT tx n [42, 44, 45, 46, 49, 50, 51, 52, 53, 54, 55, 56, 123, 124, 125, 126, 127, 128, 129, 130, 131, 132, 133, 134] μ ν)) := by
  refine Mc_of (by decide +kernel) (fun _ => Nat.le_of_ble_eq_true rfl) ?_
  show AW kX9_bestOf 0 [some (.inr (.inr 9)), some (.inl p), some (.inl w)] [] μ _
  have hpe := pPe_in (tx := tx) hn.1
  have hta := pTa_in (tx := tx) hn.1
  refine s_aload_0 (pc := 0) dX9_bestOf_0 ?_
  refine cV0v (pc := 1) (Ky := kX9_tries) dX9_bestOf_1 rfl lnX9_194 okX9_tries ⟨9, TX9, 40, rfl, rfl⟩ ⟨Nat.le_of_ble_eq_true rfl, Nat.le_of_ble_eq_true rfl⟩ (Nat.le_of_ble_eq_true rfl) (c_X9_tries e43 e122 hn ht e47 e48 hhd hlv) ?_
  rintro ν1 ⟨hF1, hR1, hM1⟩
  have hF1 := FrT.of hF1 hR1
  have hko := cfg_KO hM1.1 (by omega)
  have hpw := p6144 hko.1
  have hsc := sc_in hko.1
  have hmp : (6144 : Int) ^ ((cfg tx n hd lv) 125 0).toNat * sc (cfg tx n hd lv) ≤ 6144 ^ ((cfg tx n hd lv) 125 0).toNat * 16 := Int.mul_le_mul_of_nonneg_left hsc.2.1 (by omega)
  have hmp0 : 0 < (6144 : Int) ^ ((cfg tx n hd lv) 125 0).toNat * sc (cfg tx n hd lv) := Int.mul_pos (by omega) (by omega)
  refine s_aload_0 (pc := 4) dX9_bestOf_4 ?_
  refine s_iload_1 (pc := 5) dX9_bestOf_5 ?_
  refine cV1v (pc := 6) (Ky := kX9_findBest) dX9_bestOf_6 rfl lnX9_276 okX9_findBest ⟨9, TX9, 40, rfl, rfl⟩ ⟨Nat.le_of_ble_eq_true rfl, Nat.le_of_ble_eq_true rfl⟩ (Nat.le_of_ble_eq_true rfl) (c_X9_findBest hM1 hko hp hp.2) ?_
  rintro ν6 ⟨hF6, hM6, hB6⟩
  have hbg := best_g hko hp.1 hp.2 hp.2
  obtain ⟨b133, b131, b132⟩ := RB_g hbg hB6
  have hci := cost_in hko.1 hbg.1 hbg.2.1
  obtain ⟨g1, g2, g3, g4⟩ := id hbg
  refine s_iload_2 (pc := 9) dX9_bestOf_9 ?_
  refine s_iconst_2 (pc := 10) dX9_bestOf_10 ?_
  refine s_icmp_ne (pc := 11) 22 dX9_bestOf_11 rfl (by omega) (by omega) (fun h11 => ?_) (fun h11 => ?_)
  · refine s_iload_2 (pc := 22) dX9_bestOf_22 ?_
    refine s_iconst_3 (pc := 23) dX9_bestOf_23 ?_
    refine s_icmp_ne (pc := 24) 35 dX9_bestOf_24 rfl (by omega) (by omega) (fun h24 => ?_) (fun h24 => ?_)
    · refine s_aload_0 (pc := 35) dX9_bestOf_35 ?_
      refine gfX9_266 (pc := 36) dX9_bestOf_36 rfl ?_
      refine s_aload_0 (pc := 39) dX9_bestOf_39 ?_
      refine cV0l (pc := 40) (Ky := kX9_all) dX9_bestOf_40 rfl lnX9_233 okX9_all ⟨9, TX9, 40, rfl, rfl⟩ ⟨Nat.le_of_ble_eq_true rfl, Nat.le_of_ble_eq_true rfl⟩ (Nat.le_of_ble_eq_true rfl) (c_X9_all hM6) ?_
      rintro _ _ ⟨rfl, rfl⟩
      refine s_iload_2 (pc := 43) dX9_bestOf_43 ?_
      refine cS3l (pc := 44) (Ky := kX9_part) dX9_bestOf_44 rfl lnX9_240 okX9_part ⟨Nat.le_of_ble_eq_true rfl, Nat.le_of_ble_eq_true rfl⟩ (Nat.le_of_ble_eq_true rfl) (c_X9_part (by omega) (by omega) (by omega)) ?_
      rintro _ _ ⟨rfl, rfl⟩
      refine s_lreturn (pc := 47) dX9_bestOf_47 rfl ?_
      refine ⟨?_, (hF1.mono (by decide)).tr (hF6.mono (by decide))⟩
      unfold sBest
      first
        | (rw [if_pos (by omega)]; exact b131.symm)
        | (rw [if_neg (by omega), if_pos (by omega)]; exact b132.symm)
        | (rw [if_neg (by omega), if_neg (by omega), b133]; exact (frc_mul (by omega)).symm)
    · refine s_aload_0 (pc := 27) dX9_bestOf_27 ?_
      refine gfX9_273 (pc := 28) dX9_bestOf_28 rfl ?_
      refine s_i2l (pc := 31) dX9_bestOf_31 (by omega) ?_
      refine s_goto (pc := 32) 47 dX9_bestOf_32 rfl ?_
      refine s_lreturn (pc := 47) dX9_bestOf_47 rfl ?_
      refine ⟨?_, (hF1.mono (by decide)).tr (hF6.mono (by decide))⟩
      unfold sBest
      first
        | (rw [if_pos (by omega)]; exact b131.symm)
        | (rw [if_neg (by omega), if_pos (by omega)]; exact b132.symm)
        | (rw [if_neg (by omega), if_neg (by omega), b133]; exact (frc_mul (by omega)).symm)
  · refine s_aload_0 (pc := 14) dX9_bestOf_14 ?_
    refine gfX9_270 (pc := 15) dX9_bestOf_15 rfl ?_
    refine s_i2l (pc := 18) dX9_bestOf_18 (by omega) ?_
    refine s_goto (pc := 19) 47 dX9_bestOf_19 rfl ?_
    refine s_lreturn (pc := 47) dX9_bestOf_47 rfl ?_
    refine ⟨?_, (hF1.mono (by decide)).tr (hF6.mono (by decide))⟩
    unfold sBest
    first
      | (rw [if_pos (by omega)]; exact b131.symm)
      | (rw [if_neg (by omega), if_pos (by omega)]; exact b132.symm)
      | (rw [if_neg (by omega), if_neg (by omega), b133]; exact (frc_mul (by omega)).symm)
theorem c_X9_best {tx : Int → Int} {n p w : Int} {hd lv : Int → Int} {μ : Mem} (h_p : -2147483648 ≤ p ∧ p < 2147483648) (h_w : -2147483648 ≤ w ∧ w < 2147483648) (e43 : μ 43 = tx) (e122 : μ 122 0 = n) (hn : 0 ≤ n ∧ n ≤ 60) (ht : ∀ k : Int, 0 ≤ k → k < n → 0 ≤ tx k ∧ tx k ≤ 255) (e47 : μ 47 = hd) (e48 : μ 48 = lv) (hhd : ∀ p : Int, 0 ≤ p → p < 4 → 0 ≤ hd p ∧ hd p ≤ 15) (hlv : ∀ p : Int, 0 ≤ p → p < 4 → 0 ≤ lv p ∧ lv p ≤ 4) : Mc kX9_best [.inr (.inr 9), .inl p, .inl w] μ (pL (fun z ν => (if (0 ≤ p ∧ p < pPe tx n) ∧ (0 ≤ w ∧ w ≤ 3) then sBest (cfg tx n hd lv) p w else -9223372036854775806) = z ∧ Fr [42, 44, 45, 46, 49, 50, 51, 52, 53, 54, 55, 56, 123, 124, 125, 126, 127, 128, 129, 130, 131, 132, 133, 134] μ ν)) := by
  refine Mc_of (by decide +kernel) (fun _ => Nat.le_of_ble_eq_true rfl) ?_
  show AW kX9_best 0 [some (.inr (.inr 9)), some (.inl p), some (.inl w)] [] μ _
  have hpe := pPe_in (tx := tx) hn.1
  have hta := pTa_in (tx := tx) hn.1
  refine s_aload_0 (pc := 0) dX9_best_0 ?_
  refine s_iload_1 (pc := 1) dX9_best_1 ?_
  refine cV1i (pc := 2) (Ky := kX9_isPerson) dX9_best_2 rfl lnX9_158 okX9_isPerson ⟨9, TX9, 40, rfl, rfl⟩ ⟨Nat.le_of_ble_eq_true rfl, Nat.le_of_ble_eq_true rfl⟩ (Nat.le_of_ble_eq_true rfl) (c_X9_isPerson (by omega) e43 e122 hn ht) ?_
  rintro _ ν2 ⟨rfl, hF2, hM2⟩
  refine s_if_eq (pc := 5) 29 dX9_best_5 rfl (by omega) (fun h5 => ?_) (fun h5 => ?_)
  · refine s_bipush (pc := 29) (z := -2) dX9_best_29 rfl ?_
    refine cS1l (pc := 31) (Ky := kX9_no) dX9_best_31 rfl lnX9_251 okX9_no ⟨Nat.le_of_ble_eq_true rfl, Nat.le_of_ble_eq_true rfl⟩ (Nat.le_of_ble_eq_true rfl) (c_X9_no (by omega)) ?_
    rintro _ _ ⟨rfl, rfl⟩
    refine s_lreturn (pc := 34) dX9_best_34 rfl ?_
    first | exact ⟨by rw [if_neg (by omega)]; rfl, hF2.mono (by decide)⟩ | exact ⟨by rw [if_pos (by omega)], (hF2.mono (by decide)).tr hF23.1⟩
  · refine s_iload_2 (pc := 8) dX9_best_8 ?_
    refine s_i2l (pc := 9) dX9_best_9 (by omega) ?_
    refine s_lconst_0 (pc := 10) dX9_best_10 ?_
    refine s_ldc2_w (pc := 11) dX9_best_11 rfl cnX9_97 ?_
    refine cS3i (pc := 14) (Ky := kX9_in) dX9_best_14 rfl lnX9_89 okX9_in ⟨Nat.le_of_ble_eq_true rfl, Nat.le_of_ble_eq_true rfl⟩ (Nat.le_of_ble_eq_true rfl) (c_X9_in (by omega) (by omega) (by omega)) ?_
    rintro _ _ ⟨rfl, rfl⟩
    refine s_if_eq (pc := 17) 29 dX9_best_17 rfl (by omega) (fun h17 => ?_) (fun h17 => ?_)
    · refine s_bipush (pc := 29) (z := -2) dX9_best_29 rfl ?_
      refine cS1l (pc := 31) (Ky := kX9_no) dX9_best_31 rfl lnX9_251 okX9_no ⟨Nat.le_of_ble_eq_true rfl, Nat.le_of_ble_eq_true rfl⟩ (Nat.le_of_ble_eq_true rfl) (c_X9_no (by omega)) ?_
      rintro _ _ ⟨rfl, rfl⟩
      refine s_lreturn (pc := 34) dX9_best_34 rfl ?_
      first | exact ⟨by rw [if_neg (by omega)]; rfl, hF2.mono (by decide)⟩ | exact ⟨by rw [if_pos (by omega)], (hF2.mono (by decide)).tr hF23.1⟩
    · refine s_aload_0 (pc := 20) dX9_best_20 ?_
      refine s_iload_1 (pc := 21) dX9_best_21 ?_
      refine s_iload_2 (pc := 22) dX9_best_22 ?_
      refine cV2l (pc := 23) (Ky := kX9_bestOf) dX9_best_23 rfl lnX9_279 okX9_bestOf ⟨9, TX9, 40, rfl, rfl⟩ ⟨Nat.le_of_ble_eq_true rfl, Nat.le_of_ble_eq_true rfl⟩ (Nat.le_of_ble_eq_true rfl) (c_X9_bestOf (tx := tx) (n := n) (hd := hd) (lv := lv) (by omega) (by omega) (by rw [hF2.fn 43 rfl]; exact e43) (by rw [hF2.at 122 rfl 0]; exact e122) hn ht (by rw [hF2.fn 47 rfl]; exact e47) (by rw [hF2.fn 48 rfl]; exact e48) hhd hlv) ?_
      rintro _ ν23 ⟨rfl, hF23⟩
      refine s_goto (pc := 26) 34 dX9_best_26 rfl ?_
      refine s_lreturn (pc := 34) dX9_best_34 rfl ?_
      first | exact ⟨by rw [if_neg (by omega)]; rfl, hF2.mono (by decide)⟩ | exact ⟨by rw [if_pos (by omega)], (hF2.mono (by decide)).tr hF23.1⟩
theorem lp_X9_rnd {κ : Mem} {μ : Mem} (hko : 0 < κ 129 0 → KO κ) (hkr : KR κ) (heq : κ 124 0 = κ 129 0) : ∀ (f : Nat) (j : Int) (ν : Mem), (0 ≤ j) → (j ≤ κ 124 0) → (Fr [49, 50, 53, 54, 131, 132, 133] μ ν) → (MR (rndN κ j.toNat).1 ν) → ((rndN κ j.toNat).2 = 0 ∨ (rndN κ j.toNat).2 = 1) → (sameW κ (rndN κ j.toNat).1) → κ 124 0 - j < (f : Int) → AW kX9_roundGoes 4 [some (.inr (.inr 9)), some (.inl (rndN κ j.toNat).2), some (.inl j)] [] ν (pI (fun z ν => (rnd κ).2 = z ∧ Fr [49, 50, 53, 54, 131, 132, 133] μ ν ∧ MR (rnd κ).1 ν)) := by
  intro f
  induction f with
  | zero =>
    intro j ν h0 h1 hF hM hz hW hm
    exfalso; omega
  | succ f ih =>
    intro j ν h0 h1 hF hM hz hW hm
    have r124 := hkr.1
    have m124 := hM.2.2.2.2.2.2.2.2.1
    rw [hW 124 (by decide) (by decide)] at m124
    have e129 : (rndN κ j.toNat).1 129 0 = κ 129 0 := by rw [hW 129 (by decide) (by decide)]
    have e124 : (rndN κ j.toNat).1 124 0 = κ 124 0 := by rw [hW 124 (by decide) (by decide)]
    have hsu := rndN_succ (κ := κ) h0
    refine s_iload_2 (pc := 4) dX9_roundGoes_4 ?_
    refine s_aload_0 (pc := 5) dX9_roundGoes_5 ?_
    refine gfX9_126 (pc := 6) dX9_roundGoes_6 rfl ?_
    refine s_icmp_ge (pc := 9) 58 dX9_roundGoes_9 rfl (by omega) (by omega) (fun h9 => ?_) (fun h9 => ?_)
    · refine s_iload_1 (pc := 58) dX9_roundGoes_58 ?_
      refine s_zreturn (pc := 59) dX9_roundGoes_59 rfl hz ?_
      cases (show j = κ 124 0 by omega)
      exact ⟨rfl, hF, hM⟩
    · have hkj := (rndN_ok (hko (by omega)) heq j.toNat (by omega)).1
      have hup := rndN_ok (hko (by omega)) heq (j + 1).toNat (by omega)
      have hbg := best_g hkj (p := j) h0 (by omega) (by omega)
      have hcb := cost_in hkj.1 hbg.1 hbg.2.1
      have hci := cst_in hkj (p := j) h0 (by omega) (by omega)
      have hcc := cost_in hkj.1 hci.1 hci.2
      refine s_aload_0 (pc := 12) dX9_roundGoes_12 ?_
      refine s_iload_2 (pc := 13) dX9_roundGoes_13 ?_
      refine cV1v (pc := 14) (Ky := kX9_findBest) dX9_roundGoes_14 rfl lnX9_276 okX9_findBest ⟨9, TX9, 40, rfl, rfl⟩ ⟨Nat.le_of_ble_eq_true rfl, Nat.le_of_ble_eq_true rfl⟩ (Nat.le_of_ble_eq_true rfl) (c_X9_findBest hM hkj (by omega) (by omega)) ?_
      rintro ν14 ⟨hF14, hM14, hB14⟩
      obtain ⟨b133, b131, b132⟩ := RB_g hbg hB14
      refine s_aload_0 (pc := 17) dX9_roundGoes_17 ?_
      refine gfX9_266 (pc := 18) dX9_roundGoes_18 rfl ?_
      refine s_aload_0 (pc := 21) dX9_roundGoes_21 ?_
      refine s_iload_2 (pc := 22) dX9_roundGoes_22 ?_
      refine cV1l (pc := 23) (Ky := kX9_costNow) dX9_roundGoes_23 rfl lnX9_258 okX9_costNow ⟨9, TX9, 40, rfl, rfl⟩ ⟨Nat.le_of_ble_eq_true rfl, Nat.le_of_ble_eq_true rfl⟩ (Nat.le_of_ble_eq_true rfl) (c_X9_costNow hM14 hkj.2 (by omega) (by omega)) ?_
      rintro _ ν23 ⟨rfl, hF23⟩
      have c131 : ν23 131 0 = ν14 131 0 := hF23.at 131 rfl 0
      have c132 : ν23 132 0 = ν14 132 0 := hF23.at 132 rfl 0
      have hM23 := hM14.frB hF23 (by decide)
      have hFF : Fr [49, 50, 53, 54, 131, 132, 133] μ ν23 := (hF.tr hF14).tr (hF23.mono (by decide))
      rw [b133]
      refine s_lif_ge (pc := 26) 52 dX9_roundGoes_26 dX9_roundGoes_27 rfl (by omega) (by omega) (fun h27 => ?_) (fun h27 => ?_)
      · have hnl : ¬ ((best (rndN κ j.toNat).1 j).1 < cst (rndN κ j.toNat).1 j) := fun q => by have := (mul_lt_sc hkj.1).mpr q; omega
        rw [if_neg hnl] at hsu
        refine s_iinc_2 (pc := 52) dX9_roundGoes_52 (Nat.le_of_ble_eq_true rfl) rfl ?_
        refine s_goto (pc := 55) 4 dX9_roundGoes_55 rfl ?_
        first
          | (refine s_le ?_ (ih (j + 1) _ (by omega) (by omega) hFF (by rw [hsu]; exact hM23) (by rw [hsu]; exact hz) (by rw [hsu]; exact hW) (by omega))
             refine ⟨Or.inr rfl, Or.inr (by rw [hsu]), Or.inr rfl, trivial⟩
             done)
          | (have hM24 := (hM23.w49 (p := j) g3).w50 (p := j) g4
             rw [wr_cm (by decide)] at hM24
             refine s_le ?_ (ih (j + 1) _ (by omega) (by omega) ((hFF.wr (by decide)).wr (by decide)) (by rw [hsu]; exact hM24) hup.2.2 hup.2.1 (by omega))
             refine ⟨Or.inr rfl, Or.inr (by rw [hsu]), Or.inr rfl, trivial⟩)
      · have hnl : (best (rndN κ j.toNat).1 j).1 < cst (rndN κ j.toNat).1 j := (mul_lt_sc hkj.1).mp (by omega)
        rw [if_pos hnl] at hsu
        obtain ⟨g1, g2, g3, g4⟩ := id hbg
        refine s_aload_0 (pc := 30) dX9_roundGoes_30 ?_
        refine gfX9_40 (pc := 31) dX9_roundGoes_31 rfl ?_
        refine s_iload_2 (pc := 34) dX9_roundGoes_34 ?_
        refine s_aload_0 (pc := 35) dX9_roundGoes_35 ?_
        refine gfX9_270 (pc := 36) dX9_roundGoes_36 rfl ?_
        rw [c131, b131]
        refine z_iastore (pc := 39) dX9_roundGoes_39 ly_49 ip_49 (by omega) (by omega) ?_
        refine s_aload_0 (pc := 40) dX9_roundGoes_40 ?_
        refine gfX9_43 (pc := 41) dX9_roundGoes_41 rfl ?_
        refine s_iload_2 (pc := 44) dX9_roundGoes_44 ?_
        refine s_aload_0 (pc := 45) dX9_roundGoes_45 ?_
        refine gfX9_273 (pc := 46) dX9_roundGoes_46 rfl ?_
        refine s_valI (y := (best (rndN κ j.toNat).1 j).2.2) (by simp (decide := true) only [wr_s, wr_n, wa_s, wa_n, mg_i, mg_o, if_true, eq_self, reduceIte]; rw [c132, b132]) ?_
        refine z_iastore (pc := 49) dX9_roundGoes_49 ly_50 ip_50 (by omega) (by omega) ?_
        refine s_iconst_1 (pc := 50) dX9_roundGoes_50 ?_
        refine s_istore_1 (pc := 51) dX9_roundGoes_51 (Nat.le_of_ble_eq_true rfl) rfl ?_
        refine s_iinc_2 (pc := 52) dX9_roundGoes_52 (Nat.le_of_ble_eq_true rfl) rfl ?_
        refine s_goto (pc := 55) 4 dX9_roundGoes_55 rfl ?_
        first
          | (refine s_le ?_ (ih (j + 1) _ (by omega) (by omega) hFF (by rw [hsu]; exact hM23) (by rw [hsu]; exact hz) (by rw [hsu]; exact hW) (by omega))
             refine ⟨Or.inr rfl, Or.inr (by rw [hsu]), Or.inr rfl, trivial⟩
             done)
          | (have hM24 := (hM23.w49 (p := j) g3).w50 (p := j) g4
             rw [wr_cm (by decide)] at hM24
             refine s_le ?_ (ih (j + 1) _ (by omega) (by omega) ((hFF.wr (by decide)).wr (by decide)) (by rw [hsu]; exact hM24) hup.2.2 hup.2.1 (by omega))
             refine ⟨Or.inr rfl, Or.inr (by rw [hsu]), Or.inr rfl, trivial⟩)
theorem c_X9_roundGoes {κ : Mem} {μ : Mem} (hM : MR κ μ) (hko : 0 < κ 129 0 → KO κ) (heq : κ 124 0 = κ 129 0) : Mc kX9_roundGoes [.inr (.inr 9)] μ (pI (fun z ν => (rnd κ).2 = z ∧ Fr [49, 50, 53, 54, 131, 132, 133] μ ν ∧ MR (rnd κ).1 ν)) := by
  refine Mc_of (by decide +kernel) (fun _ => Nat.le_of_ble_eq_true rfl) ?_
  show AW kX9_roundGoes 0 [some (.inr (.inr 9)), none, none] [] μ _
  refine s_iconst_0 (pc := 0) dX9_roundGoes_0 ?_
  refine s_istore_1 (pc := 1) dX9_roundGoes_1 (Nat.le_of_ble_eq_true rfl) rfl ?_
  refine s_iconst_0 (pc := 2) dX9_roundGoes_2 ?_
  refine s_istore_2 (pc := 3) dX9_roundGoes_3 (Nat.le_of_ble_eq_true rfl) rfl ?_
  have r124 := hM.1.1
  exact lp_X9_rnd hko hM.1 heq 5 0 μ (by omega) (by omega) Fr.rf hM (Or.inl rfl) (fun _ _ _ => rfl) (by omega)
theorem rsN_succ {κ : Mem} {j : Int} (h : 0 ≤ j) (hc : (rsN κ j.toNat).2.1 ≠ 0) : rsN κ (j + 1).toNat = ((rnd (rsN κ j.toNat).1).1, (rnd (rsN κ j.toNat).1).2, (rsN κ j.toNat).2.2 + 1) := by
  rw [show (j + 1).toNat = j.toNat + 1 by omega]
  show (if (rsN κ j.toNat).2.1 = 0 then rsN κ j.toNat else _) = _
  rw [if_neg hc]
theorem lp_X9_rests {κ : Mem} {μ : Mem} (hok : okW κ κ) (heq : κ 124 0 = κ 129 0) : ∀ (f : Nat) (j : Int) (ν : Mem), (0 ≤ j) → (j ≤ 20) → (Fr [49, 50, 53, 54, 131, 132, 133] μ ν) → (MR (rsN κ j.toNat).1 ν) → ((rsN κ j.toNat).2.2 = j) → 20 - j < (f : Int) → AW kX9_rests 8 [some (.inr (.inr 9)), some (.inl j), some (.inl (rsN κ j.toNat).2.1)] [] ν (pI (fun z ν => sRest κ (-1) 0 = z ∧ Fr [49, 50, 53, 54, 131, 132, 133] μ ν ∧ MR (rs κ).1 ν)) := by
  intro f
  induction f with
  | zero =>
    intro j ν h0 h1 hF hM hn hm
    exfalso; omega
  | succ f ih =>
    intro j ν h0 h1 hF hM hn hm
    have hoj := rsN_ok hok heq j.toNat
    have e129 : (rsN κ j.toNat).1 129 0 = κ 129 0 := by rw [hoj.1.2.1 129 (by decide) (by decide)]
    have e124 : (rsN κ j.toNat).1 124 0 = κ 124 0 := by rw [hoj.1.2.1 124 (by decide) (by decide)]
    refine s_iload_2 (pc := 8) dX9_rests_8 ?_
    refine s_if_eq (pc := 9) 29 dX9_rests_9 rfl (by omega) (fun h9 => ?_) (fun h9 => ?_)
    · have hrs : rs κ = rsN κ j.toNat := by
        have := rsN_stop (κ := κ) (j := j.toNat) (by omega) (20 - j.toNat)
        rw [show j.toNat + (20 - j.toNat) = 20 by omega] at this
        exact this
      refine s_iload_2 (pc := 29) dX9_rests_29 ?_
      refine s_if_eq (pc := 30) 37 dX9_rests_30 rfl (by omega) (fun h30 => ?_) (fun h30 => ?_)
      · refine s_iload_1 (pc := 37) dX9_rests_37 ?_
        refine s_ireturn (pc := 38) dX9_rests_38 rfl ?_
        refine ⟨?_, hF, by rw [hrs]; exact hM⟩
        rw [sRest, if_pos rfl, hrs]
        first | (rw [if_pos (by omega)]; exact hn) | rw [if_neg (by omega)]
      · refine s_iconst_m1 (pc := 33) dX9_rests_33 ?_
        refine s_goto (pc := 34) 38 dX9_rests_34 rfl ?_
        refine s_ireturn (pc := 38) dX9_rests_38 rfl ?_
        refine ⟨?_, hF, by rw [hrs]; exact hM⟩
        rw [sRest, if_pos rfl, hrs]
        first | (rw [if_pos (by omega)]; exact hn) | rw [if_neg (by omega)]
    · refine s_iload_1 (pc := 12) dX9_rests_12 ?_
      refine s_bipush (pc := 13) (z := 20) dX9_rests_13 rfl ?_
      refine s_icmp_ge (pc := 15) 29 dX9_rests_15 rfl (by omega) (by omega) (fun h15 => ?_) (fun h15 => ?_)
      · have hrs : rs κ = rsN κ j.toNat := by rw [show j = 20 by omega]; rfl
        refine s_iload_2 (pc := 29) dX9_rests_29 ?_
        refine s_if_eq (pc := 30) 37 dX9_rests_30 rfl (by omega) (fun h30 => ?_) (fun h30 => ?_)
        · refine s_iload_1 (pc := 37) dX9_rests_37 ?_
          refine s_ireturn (pc := 38) dX9_rests_38 rfl ?_
          refine ⟨?_, hF, by rw [hrs]; exact hM⟩
          rw [sRest, if_pos rfl, hrs]
          first | (rw [if_pos (by omega)]; exact hn) | rw [if_neg (by omega)]
        · refine s_iconst_m1 (pc := 33) dX9_rests_33 ?_
          refine s_goto (pc := 34) 38 dX9_rests_34 rfl ?_
          refine s_ireturn (pc := 38) dX9_rests_38 rfl ?_
          refine ⟨?_, hF, by rw [hrs]; exact hM⟩
          rw [sRest, if_pos rfl, hrs]
          first | (rw [if_pos (by omega)]; exact hn) | rw [if_neg (by omega)]
      · refine s_aload_0 (pc := 18) dX9_rests_18 ?_
        refine cV0i (pc := 19) (Ky := kX9_roundGoes) dX9_rests_19 rfl lnX9_282 okX9_roundGoes ⟨9, TX9, 40, rfl, rfl⟩ ⟨Nat.le_of_ble_eq_true rfl, Nat.le_of_ble_eq_true rfl⟩ (Nat.le_of_ble_eq_true rfl) (c_X9_roundGoes hM (fun q => hoj.1.2.2 (by omega)) (by omega)) ?_
        rintro _ ν19 ⟨rfl, hF19, hM19⟩
        refine s_istore_2 (pc := 22) dX9_rests_22 (Nat.le_of_ble_eq_true rfl) rfl ?_
        refine s_iinc_1 (pc := 23) dX9_rests_23 (Nat.le_of_ble_eq_true rfl) rfl ?_
        refine s_goto (pc := 26) 8 dX9_rests_26 rfl ?_
        have hsu := rsN_succ h0 (show (rsN κ j.toNat).2.1 ≠ 0 by omega)
        refine s_le ?_ (ih (j + 1) _ (by omega) (by omega) (hF.tr hF19) (by rw [hsu]; exact hM19) (by rw [hsu]; dsimp only; omega) (by omega))
        refine ⟨Or.inr rfl, Or.inr rfl, Or.inr (by rw [hsu]), trivial⟩
theorem cfg_okW {tx : Int → Int} {n : Int} {hd lv : Int → Int} (hK : KR (cfg tx n hd lv)) : okW (cfg tx n hd lv) (cfg tx n hd lv) := ⟨hK, fun _ _ _ => rfl, fun h => cfg_KO hK h⟩
theorem c_X9_rests {tx : Int → Int} {n : Int} {hd lv : Int → Int} {μ : Mem} (e43 : μ 43 = tx) (e122 : μ 122 0 = n) (hn : 0 ≤ n ∧ n ≤ 60) (ht : ∀ k : Int, 0 ≤ k → k < n → 0 ≤ tx k ∧ tx k ≤ 255) (e47 : μ 47 = hd) (e48 : μ 48 = lv) (hhd : ∀ p : Int, 0 ≤ p → p < 4 → 0 ≤ hd p ∧ hd p ≤ 15) (hlv : ∀ p : Int, 0 ≤ p → p < 4 → 0 ≤ lv p ∧ lv p ≤ 4) : Mc kX9_rests [.inr (.inr 9)] μ (pI (fun z ν => sRest (cfg tx n hd lv) (-1) 0 = z ∧ FrT tx n [42, 44, 45, 46, 49, 50, 51, 52, 53, 54, 55, 56, 123, 124, 125, 126, 127, 128, 129, 130, 131, 132, 133, 134] μ ν ∧ MR (rs (cfg tx n hd lv)).1 ν)) := by
  refine Mc_of (by decide +kernel) (fun _ => Nat.le_of_ble_eq_true rfl) ?_
  show AW kX9_rests 0 [some (.inr (.inr 9)), none, none] [] μ _
  refine s_aload_0 (pc := 0) dX9_rests_0 ?_
  refine cV0v (pc := 1) (Ky := kX9_tries) dX9_rests_1 rfl lnX9_194 okX9_tries ⟨9, TX9, 40, rfl, rfl⟩ ⟨Nat.le_of_ble_eq_true rfl, Nat.le_of_ble_eq_true rfl⟩ (Nat.le_of_ble_eq_true rfl) (c_X9_tries e43 e122 hn ht e47 e48 hhd hlv) ?_
  rintro ν1 ⟨hF1, hR1, hM1⟩
  have hF1 := FrT.of hF1 hR1
  refine s_iconst_0 (pc := 4) dX9_rests_4 ?_
  refine s_istore_1 (pc := 5) dX9_rests_5 (Nat.le_of_ble_eq_true rfl) rfl ?_
  refine s_iconst_1 (pc := 6) dX9_rests_6 ?_
  refine s_istore_2 (pc := 7) dX9_rests_7 (Nat.le_of_ble_eq_true rfl) rfl ?_
  refine AW.mono (lp_X9_rests (cfg_okW hM1.1) rfl 21 0 ν1 (by omega) (by omega) Fr.rf hM1 rfl (by omega)) ?_
  rintro r ν ⟨z, rfl, hz, hF2, hM2⟩
  exact ⟨z, rfl, hz, (hF1.mono (by decide)).tr (hF2.mono (by decide)), hM2⟩
theorem c_X9_restOf {tx : Int → Int} {n p w : Int} {hd lv : Int → Int} {μ : Mem} (hp : p = -1 ∨ (0 ≤ p ∧ p < pPe tx n ∧ 0 ≤ w ∧ w ≤ 1)) (e43 : μ 43 = tx) (e122 : μ 122 0 = n) (hn : 0 ≤ n ∧ n ≤ 60) (ht : ∀ k : Int, 0 ≤ k → k < n → 0 ≤ tx k ∧ tx k ≤ 255) (e47 : μ 47 = hd) (e48 : μ 48 = lv) (hhd : ∀ p : Int, 0 ≤ p → p < 4 → 0 ≤ hd p ∧ hd p ≤ 15) (hlv : ∀ p : Int, 0 ≤ p → p < 4 → 0 ≤ lv p ∧ lv p ≤ 4) : Mc kX9_restOf [.inr (.inr 9), .inl p, .inl w] μ (pI (fun z ν => sRest (cfg tx n hd lv) p w = z ∧ FrT tx n [42, 44, 45, 46, 49, 50, 51, 52, 53, 54, 55, 56, 123, 124, 125, 126, 127, 128, 129, 130, 131, 132, 133, 134] μ ν)) := by
  refine Mc_of (by decide +kernel) (fun _ => Nat.le_of_ble_eq_true rfl) ?_
  show AW kX9_restOf 0 [some (.inr (.inr 9)), some (.inl p), some (.inl w), none] [] μ _
  have hpe := pPe_in (tx := tx) hn.1
  have hta := pTa_in (tx := tx) hn.1
  refine s_aload_0 (pc := 0) dX9_restOf_0 ?_
  refine cV0i (pc := 1) (Ky := kX9_rests) dX9_restOf_1 rfl lnX9_285 okX9_rests ⟨9, TX9, 40, rfl, rfl⟩ ⟨Nat.le_of_ble_eq_true rfl, Nat.le_of_ble_eq_true rfl⟩ (Nat.le_of_ble_eq_true rfl) (c_X9_rests e43 e122 hn ht e47 e48 hhd hlv) ?_
  rintro _ ν1 ⟨rfl, hF1, hM1⟩
  obtain ⟨-, -, -, -, -, -, -, mP, -, -⟩ := id hM1
  refine s_istore_3 (pc := 4) dX9_restOf_4 (Nat.le_of_ble_eq_true rfl) rfl ?_
  refine s_iload_1 (pc := 5) dX9_restOf_5 ?_
  refine s_iconst_m1 (pc := 6) dX9_restOf_6 ?_
  refine s_icmp_ne (pc := 7) 14 dX9_restOf_7 rfl (by omega) (by omega) (fun h7 => ?_) (fun h7 => ?_)
  · refine s_iload_2 (pc := 14) dX9_restOf_14 ?_
    refine s_if_ne (pc := 15) 27 dX9_restOf_15 rfl (by omega) (fun h15 => ?_) (fun h15 => ?_)
    · refine s_aload_0 (pc := 27) dX9_restOf_27 ?_
      refine gfX9_43 (pc := 28) dX9_restOf_28 rfl ?_
      refine s_iload_1 (pc := 31) dX9_restOf_31 ?_
      refine z_iaload (pc := 32) dX9_restOf_32 ly_50 (by omega) (by omega) ?_
      refine s_ireturn (pc := 33) dX9_restOf_33 rfl ?_
      refine ⟨?_, hF1⟩
      first
        | (rw [show p = -1 by omega]; rfl)
        | (have mp := mP p (by omega) (by omega)
           rw [sRest, if_neg (by omega)]
           first | (rw [if_pos (by omega)]; exact mp.1.symm) | (rw [if_neg (by omega)]; exact mp.2.1.symm))
    · refine s_aload_0 (pc := 18) dX9_restOf_18 ?_
      refine gfX9_40 (pc := 19) dX9_restOf_19 rfl ?_
      refine s_iload_1 (pc := 22) dX9_restOf_22 ?_
      refine z_iaload (pc := 23) dX9_restOf_23 ly_49 (by omega) (by omega) ?_
      refine s_goto (pc := 24) 33 dX9_restOf_24 rfl ?_
      refine s_ireturn (pc := 33) dX9_restOf_33 rfl ?_
      refine ⟨?_, hF1⟩
      first
        | (rw [show p = -1 by omega]; rfl)
        | (have mp := mP p (by omega) (by omega)
           rw [sRest, if_neg (by omega)]
           first | (rw [if_pos (by omega)]; exact mp.1.symm) | (rw [if_neg (by omega)]; exact mp.2.1.symm))
  · refine s_iload_3 (pc := 10) dX9_restOf_10 ?_
    refine s_goto (pc := 11) 33 dX9_restOf_11 rfl ?_
    refine s_ireturn (pc := 33) dX9_restOf_33 rfl ?_
    refine ⟨?_, hF1⟩
    first
      | (rw [show p = -1 by omega]; rfl)
      | (have mp := mP p (by omega) (by omega)
         rw [sRest, if_neg (by omega)]
         first | (rw [if_pos (by omega)]; exact mp.1.symm) | (rw [if_neg (by omega)]; exact mp.2.1.symm))
theorem c_X9_rest {tx : Int → Int} {n p w : Int} {hd lv : Int → Int} {μ : Mem} (h_p : -2147483648 ≤ p ∧ p < 2147483648) (h_w : -2147483648 ≤ w ∧ w < 2147483648) (e43 : μ 43 = tx) (e122 : μ 122 0 = n) (hn : 0 ≤ n ∧ n ≤ 60) (ht : ∀ k : Int, 0 ≤ k → k < n → 0 ≤ tx k ∧ tx k ≤ 255) (e47 : μ 47 = hd) (e48 : μ 48 = lv) (hhd : ∀ p : Int, 0 ≤ p → p < 4 → 0 ≤ hd p ∧ hd p ≤ 15) (hlv : ∀ p : Int, 0 ≤ p → p < 4 → 0 ≤ lv p ∧ lv p ≤ 4) : Mc kX9_rest [.inr (.inr 9), .inl p, .inl w] μ (pI (fun z ν => (if (p = -1 ∧ w = 0) ∨ ((0 ≤ p ∧ p < pPe tx n) ∧ (0 ≤ w ∧ w ≤ 1)) then sRest (cfg tx n hd lv) p w else -2) = z ∧ Fr [42, 44, 45, 46, 49, 50, 51, 52, 53, 54, 55, 56, 123, 124, 125, 126, 127, 128, 129, 130, 131, 132, 133, 134] μ ν)) := by
  refine Mc_of (by decide +kernel) (fun _ => Nat.le_of_ble_eq_true rfl) ?_
  show AW kX9_rest 0 [some (.inr (.inr 9)), some (.inl p), some (.inl w), none] [] μ _
  have hpe := pPe_in (tx := tx) hn.1
  have hta := pTa_in (tx := tx) hn.1
  refine s_iload_1 (pc := 0) dX9_rest_0 ?_
  refine s_iconst_m1 (pc := 1) dX9_rest_1 ?_
  refine s_icmp_ne (pc := 2) 17 dX9_rest_2 rfl (by omega) (by omega) (fun h2 => ?_) (fun h2 => ?_)
  · refine s_aload_0 (pc := 17) dX9_rest_17 ?_
    refine s_iload_1 (pc := 18) dX9_rest_18 ?_
    refine cV1i (pc := 19) (Ky := kX9_isPerson) dX9_rest_19 rfl lnX9_158 okX9_isPerson ⟨9, TX9, 40, rfl, rfl⟩ ⟨Nat.le_of_ble_eq_true rfl, Nat.le_of_ble_eq_true rfl⟩ (Nat.le_of_ble_eq_true rfl) (c_X9_isPerson (by omega) e43 e122 hn ht) ?_
    rintro _ ν19 ⟨rfl, hF19, hM19⟩
    refine s_if_eq (pc := 22) 36 dX9_rest_22 rfl (by omega) (fun h22 => ?_) (fun h22 => ?_)
    · refine s_iconst_0 (pc := 36) dX9_rest_36 ?_
      refine s_istore_3 (pc := 37) dX9_rest_37 (Nat.le_of_ble_eq_true rfl) rfl ?_
      refine s_iload_3 (pc := 38) dX9_rest_38 ?_
      refine s_if_eq (pc := 39) 51 dX9_rest_39 rfl (by omega) (fun h39 => ?_) (fun h39 => ?_)
      · refine s_bipush (pc := 51) (z := -2) dX9_rest_51 rfl ?_
        refine s_ireturn (pc := 53) dX9_rest_53 rfl ?_
        first | exact ⟨by rw [if_neg (by omega)], hF19.mono (by decide)⟩ | exact ⟨by rw [if_pos (by omega)], (hF19.mono (by decide)).tr hF45.1⟩
      · exact absurd h39 (by decide)
    · refine s_iload_2 (pc := 25) dX9_rest_25 ?_
      refine cS1i (pc := 26) (Ky := kX9_isTwo) dX9_rest_26 rfl lnX9_244 okX9_isTwo ⟨Nat.le_of_ble_eq_true rfl, Nat.le_of_ble_eq_true rfl⟩ (Nat.le_of_ble_eq_true rfl) (c_X9_isTwo (by omega)) ?_
      rintro _ _ ⟨rfl, rfl⟩
      refine s_if_eq (pc := 29) 36 dX9_rest_29 rfl (by omega) (fun h29 => ?_) (fun h29 => ?_)
      · refine s_iconst_0 (pc := 36) dX9_rest_36 ?_
        refine s_istore_3 (pc := 37) dX9_rest_37 (Nat.le_of_ble_eq_true rfl) rfl ?_
        refine s_iload_3 (pc := 38) dX9_rest_38 ?_
        refine s_if_eq (pc := 39) 51 dX9_rest_39 rfl (by omega) (fun h39 => ?_) (fun h39 => ?_)
        · refine s_bipush (pc := 51) (z := -2) dX9_rest_51 rfl ?_
          refine s_ireturn (pc := 53) dX9_rest_53 rfl ?_
          first | exact ⟨by rw [if_neg (by omega)], hF19.mono (by decide)⟩ | exact ⟨by rw [if_pos (by omega)], (hF19.mono (by decide)).tr hF45.1⟩
        · exact absurd h39 (by decide)
      · refine s_iconst_1 (pc := 32) dX9_rest_32 ?_
        refine s_goto (pc := 33) 37 dX9_rest_33 rfl ?_
        refine s_istore_3 (pc := 37) dX9_rest_37 (Nat.le_of_ble_eq_true rfl) rfl ?_
        refine s_iload_3 (pc := 38) dX9_rest_38 ?_
        refine s_if_eq (pc := 39) 51 dX9_rest_39 rfl (by omega) (fun h39 => ?_) (fun h39 => ?_)
        · exact absurd h39 (by decide)
        · refine s_aload_0 (pc := 42) dX9_rest_42 ?_
          refine s_iload_1 (pc := 43) dX9_rest_43 ?_
          refine s_iload_2 (pc := 44) dX9_rest_44 ?_
          refine cV2i (pc := 45) (Ky := kX9_restOf) dX9_rest_45 rfl lnX9_288 okX9_restOf ⟨9, TX9, 40, rfl, rfl⟩ ⟨Nat.le_of_ble_eq_true rfl, Nat.le_of_ble_eq_true rfl⟩ (Nat.le_of_ble_eq_true rfl) (c_X9_restOf (tx := tx) (n := n) (hd := hd) (lv := lv) (by omega) (by rw [hF19.fn 43 rfl]; exact e43) (by rw [hF19.at 122 rfl 0]; exact e122) hn ht (by rw [hF19.fn 47 rfl]; exact e47) (by rw [hF19.fn 48 rfl]; exact e48) hhd hlv) ?_
          rintro _ ν45 ⟨rfl, hF45⟩
          refine s_goto (pc := 48) 53 dX9_rest_48 rfl ?_
          refine s_ireturn (pc := 53) dX9_rest_53 rfl ?_
          first | exact ⟨by rw [if_neg (by omega)], hF19.mono (by decide)⟩ | exact ⟨by rw [if_pos (by omega)], (hF19.mono (by decide)).tr hF45.1⟩
  · have hF19 : Fr [44, 45, 46, 123, 124, 125] μ μ := Fr.rf
    refine s_iload_2 (pc := 5) dX9_rest_5 ?_
    refine s_if_ne (pc := 6) 13 dX9_rest_6 rfl (by omega) (fun h6 => ?_) (fun h6 => ?_)
    · refine s_iconst_0 (pc := 13) dX9_rest_13 ?_
      refine s_goto (pc := 14) 37 dX9_rest_14 rfl ?_
      refine s_istore_3 (pc := 37) dX9_rest_37 (Nat.le_of_ble_eq_true rfl) rfl ?_
      refine s_iload_3 (pc := 38) dX9_rest_38 ?_
      refine s_if_eq (pc := 39) 51 dX9_rest_39 rfl (by omega) (fun h39 => ?_) (fun h39 => ?_)
      · refine s_bipush (pc := 51) (z := -2) dX9_rest_51 rfl ?_
        refine s_ireturn (pc := 53) dX9_rest_53 rfl ?_
        first | exact ⟨by rw [if_neg (by omega)], hF19.mono (by decide)⟩ | exact ⟨by rw [if_pos (by omega)], (hF19.mono (by decide)).tr hF45.1⟩
      · exact absurd h39 (by decide)
    · refine s_iconst_1 (pc := 9) dX9_rest_9 ?_
      refine s_goto (pc := 10) 37 dX9_rest_10 rfl ?_
      refine s_istore_3 (pc := 37) dX9_rest_37 (Nat.le_of_ble_eq_true rfl) rfl ?_
      refine s_iload_3 (pc := 38) dX9_rest_38 ?_
      refine s_if_eq (pc := 39) 51 dX9_rest_39 rfl (by omega) (fun h39 => ?_) (fun h39 => ?_)
      · exact absurd h39 (by decide)
      · refine s_aload_0 (pc := 42) dX9_rest_42 ?_
        refine s_iload_1 (pc := 43) dX9_rest_43 ?_
        refine s_iload_2 (pc := 44) dX9_rest_44 ?_
        refine cV2i (pc := 45) (Ky := kX9_restOf) dX9_rest_45 rfl lnX9_288 okX9_restOf ⟨9, TX9, 40, rfl, rfl⟩ ⟨Nat.le_of_ble_eq_true rfl, Nat.le_of_ble_eq_true rfl⟩ (Nat.le_of_ble_eq_true rfl) (c_X9_restOf (tx := tx) (n := n) (hd := hd) (lv := lv) (by omega) (by rw [hF19.fn 43 rfl]; exact e43) (by rw [hF19.at 122 rfl 0]; exact e122) hn ht (by rw [hF19.fn 47 rfl]; exact e47) (by rw [hF19.fn 48 rfl]; exact e48) hhd hlv) ?_
        rintro _ ν45 ⟨rfl, hF45⟩
        refine s_goto (pc := 48) 53 dX9_rest_48 rfl ?_
        refine s_ireturn (pc := 53) dX9_rest_53 rfl ?_
        first | exact ⟨by rw [if_neg (by omega)], hF19.mono (by decide)⟩ | exact ⟨by rw [if_pos (by omega)], (hF19.mono (by decide)).tr hF45.1⟩
