theorem SQ.k {κ κ' μ : Mem} (h : SQ κ μ) (h58 : κ' 58 = κ 58) (h59 : κ' 59 = κ 59) (h60 : κ' 60 = κ 60) (h61 : κ' 61 = κ 61) (h62 : κ' 62 = κ 62) (h135 : κ' 135 = κ 135) : SQ κ' μ := by
  unfold SQ SW at h ⊢
  rw [h58, h59, h60, h61, h62, h135]
  exact h
theorem rd_end {κ : Mem} {a sz : Int} {it : Int → Int} {j : Nat} {s : Mem × Int × Int} (hs : rdN κ a it sz j = s) (h : sz < 3 * s.2.2 + 3) (hj : j ≤ 20) : rd κ a it sz = (s.1, s.2.2) := by
  have := rdN_stop (κ := κ) (a := a) (sz := sz) (it := it) (j := j) (by rw [hs]; intro q; omega) (20 - j)
  rw [show j + (20 - j) = 20 by omega, hs] at this
  unfold rd
  rw [this]
theorem rd_stop {κ : Mem} {a sz : Int} {it : Int → Int} {j : Nat} {s : Mem × Int × Int} (hs : rdN κ a it sz j = s) (h1 : s.2.1 = 1) (h : 3 * s.2.2 + 3 ≤ sz) (hj : j < 20) (hf : (sawF s.1 a (it (3 * s.2.2)) (it (3 * s.2.2 + 1)) 0 (it (3 * s.2.2 + 2))).2 < 0) (he : (sawF s.1 a (it (3 * s.2.2)) (it (3 * s.2.2 + 1)) 0 (it (3 * s.2.2 + 2))).1 = s.1) : rd κ a it sz = (s.1, s.2.2) := by
  have hn : rdN κ a it sz (j + 1) = (s.1, 0, s.2.2 + 0) := by
    show (if (rdN κ a it sz j).2.1 = 1 ∧ 3 * (rdN κ a it sz j).2.2 + 3 ≤ sz then rdS a it (rdN κ a it sz j) else rdN κ a it sz j) = _
    rw [hs, if_pos ⟨h1, h⟩]
    unfold rdS
    rw [he, if_neg (by omega)]
  have := rdN_stop (κ := κ) (a := a) (sz := sz) (it := it) (j := j + 1) (by rw [hn]; intro q; have := q.1; dsimp only at this; omega) (20 - (j + 1))
  rw [show j + 1 + (20 - (j + 1)) = 20 by omega, hn] at this
  unfold rd
  rw [this, Int.add_zero]
theorem rd_go {κ : Mem} {a sz : Int} {it : Int → Int} {j : Nat} {s : Mem × Int × Int} (hs : rdN κ a it sz j = s) (h1 : s.2.1 = 1) (h : 3 * s.2.2 + 3 ≤ sz) (hf : 0 ≤ (sawF s.1 a (it (3 * s.2.2)) (it (3 * s.2.2 + 1)) 0 (it (3 * s.2.2 + 2))).2) : rdN κ a it sz (j + 1) = ((sawF s.1 a (it (3 * s.2.2)) (it (3 * s.2.2 + 1)) 0 (it (3 * s.2.2 + 2))).1, 1, s.2.2 + 1) := by
  show (if (rdN κ a it sz j).2.1 = 1 ∧ 3 * (rdN κ a it sz j).2.2 + 3 ≤ sz then rdS a it (rdN κ a it sz j) else rdN κ a it sz j) = _
  rw [hs, if_pos ⟨h1, h⟩]
  unfold rdS
  rw [if_pos hf]
theorem lp_X8_read {κ : Mem} {sh a : Int} {μ : Mem} (hsh : 0 ≤ sh ∧ sh ≤ 3) (ha : 0 ≤ a ∧ a ≤ 3) (hsz : 0 ≤ κ 40 sh ∧ κ 40 sh ≤ 60) (c36 : μ 36 sh = κ 40 sh) (hit : ∀ k : Int, 0 ≤ k → k < κ 40 sh → μ 38 (60 * sh + k) = κ 41 (60 * sh + k)) (hir : ∀ k : Int, 0 ≤ k → k < 240 → -2147483648 ≤ μ 38 k ∧ μ 38 k < 2147483648) : ∀ (f : Nat) (j : Int) (s : Mem × Int × Int) (ν : Mem), (0 ≤ j) → (j ≤ 20) → (rdN κ a (fun k => κ 41 (60 * sh + k)) (κ 40 sh) j.toNat = s) → (s.2.1 = 1) → (s.2.2 = j) → (SQ s.1 ν) → (Fr [31, 32, 33, 34, 35, 119] μ ν) → 20 - j < (f : Int) → AW kX8_read 43 [some (.inr (.inr 0)), some (.inl sh), some (.inl a), some (.inl j), some (.inl (3 * j)), none, none, none] [] ν (pI (fun z ν => (rd κ a (fun k => κ 41 (60 * sh + k)) (κ 40 sh)).2 = z ∧ SQ (rd κ a (fun k => κ 41 (60 * sh + k)) (κ 40 sh)).1 ν ∧ Fr [31, 32, 33, 34, 35, 119] μ ν)) := by
  intro f
  induction f with
  | zero =>
    intro j s ν h0 h1 hs hm1 hc hS hF hm
    exfalso; omega
  | succ f ih =>
    intro j s ν h0 h1 hs hm1 hc hS hF hm
    have c36v : ν 36 sh = κ 40 sh := (hF.at 36 rfl sh).trans c36
    have h60 := hS.1.1
    refine s_iload_4 (pc := 43) dX8_read_43 ?_
    refine s_iconst_3 (pc := 45) dX8_read_45 ?_
    refine s_iadd (pc := 46) dX8_read_46 ?_
    refine s_aload_0 (pc := 47) dX8_read_47 ?_
    refine gfX8_77 (pc := 48) dX8_read_48 rfl ?_
    refine gfX8_251 (pc := 51) dX8_read_51 rfl ?_
    refine s_iload_1 (pc := 54) dX8_read_54 ?_
    refine z_iaload (pc := 55) dX8_read_55 ly_36 (by omega) (by omega) ?_
    try rw [c36v]
    refine s_icmp_gt (pc := 56) 140 dX8_read_56 rfl (by omega) (by omega) (fun h56 => ?_) (fun h56 => ?_)
    · refine s_iload_3 (pc := 140) dX8_read_140 ?_
      refine s_ireturn (pc := 141) dX8_read_141 rfl ?_
      have hrd := rd_end hs (by omega) (by omega)
      exact ⟨by rw [hrd]; exact hc, by rw [hrd]; exact hS, hF⟩
    · have i0 : ν 38 (60 * sh + 3 * j) = κ 41 (60 * sh + 3 * j) := (hF.at 38 rfl _).trans (hit (3 * j) (by omega) (by omega))
      have i1 : ν 38 (60 * sh + (3 * j + 1)) = κ 41 (60 * sh + (3 * j + 1)) := (hF.at 38 rfl _).trans (hit (3 * j + 1) (by omega) (by omega))
      have i2 : ν 38 (60 * sh + (3 * j + 2)) = κ 41 (60 * sh + (3 * j + 2)) := (hF.at 38 rfl _).trans (hit (3 * j + 2) (by omega) (by omega))
      have t0 := hir (60 * sh + 3 * j) (by omega) (by omega)
      have t1 := hir (60 * sh + (3 * j + 1)) (by omega) (by omega)
      have t2 := hir (60 * sh + (3 * j + 2)) (by omega) (by omega)
      rw [← hF.at 38 rfl, i0] at t0
      rw [← hF.at 38 rfl, i1] at t1
      rw [← hF.at 38 rfl, i2] at t2
      have hgo := rd_go hs hm1 (by omega)
      have hst := rd_stop hs hm1 (by omega) (by omega)
      rw [hc] at hgo hst
      change 0 ≤ (sawF s.1 a (κ 41 (60 * sh + 3 * j)) (κ 41 (60 * sh + (3 * j + 1))) 0 (κ 41 (60 * sh + (3 * j + 2)))).2 → _ = ((sawF s.1 a (κ 41 (60 * sh + 3 * j)) (κ 41 (60 * sh + (3 * j + 1))) 0 (κ 41 (60 * sh + (3 * j + 2)))).1, 1, j + 1) at hgo
      change (sawF s.1 a (κ 41 (60 * sh + 3 * j)) (κ 41 (60 * sh + (3 * j + 1))) 0 (κ 41 (60 * sh + (3 * j + 2)))).2 < 0 → (sawF s.1 a (κ 41 (60 * sh + 3 * j)) (κ 41 (60 * sh + (3 * j + 1))) 0 (κ 41 (60 * sh + (3 * j + 2)))).1 = s.1 → _ at hst
      refine s_aload_0 (pc := 59) dX8_read_59 ?_
      refine gfX8_77 (pc := 60) dX8_read_60 rfl ?_
      refine s_iload_1 (pc := 63) dX8_read_63 ?_
      refine s_iload_4 (pc := 64) dX8_read_64 ?_
      refine cV2i (pc := 66) (Ky := kX7_item) dX8_read_66 rfl lnX8_254 okX7_item ⟨7, TX7, 4, rfl, rfl⟩ ⟨Nat.le_of_ble_eq_true rfl, Nat.le_of_ble_eq_true rfl⟩ (Nat.le_of_ble_eq_true rfl) (c_X7_item hsh (by omega)) ?_
      rintro _ _ ⟨rfl, rfl⟩
      rw [i0]
      refine s_istore_5 (pc := 69) dX8_read_69 (Nat.le_of_ble_eq_true rfl) rfl ?_
      refine s_aload_0 (pc := 71) dX8_read_71 ?_
      refine gfX8_77 (pc := 72) dX8_read_72 rfl ?_
      refine s_iload_1 (pc := 75) dX8_read_75 ?_
      refine s_iload_4 (pc := 76) dX8_read_76 ?_
      refine s_iconst_1 (pc := 78) dX8_read_78 ?_
      refine s_iadd (pc := 79) dX8_read_79 ?_
      refine cV2i (pc := 80) (Ky := kX7_item) dX8_read_80 rfl lnX8_254 okX7_item ⟨7, TX7, 4, rfl, rfl⟩ ⟨Nat.le_of_ble_eq_true rfl, Nat.le_of_ble_eq_true rfl⟩ (Nat.le_of_ble_eq_true rfl) (c_X7_item hsh (by omega)) ?_
      rintro _ _ ⟨rfl, rfl⟩
      rw [i1]
      refine s_istore_6 (pc := 83) dX8_read_83 (Nat.le_of_ble_eq_true rfl) rfl ?_
      refine s_aload_0 (pc := 85) dX8_read_85 ?_
      refine gfX8_77 (pc := 86) dX8_read_86 rfl ?_
      refine s_iload_1 (pc := 89) dX8_read_89 ?_
      refine s_iload_4 (pc := 90) dX8_read_90 ?_
      refine s_iconst_2 (pc := 92) dX8_read_92 ?_
      refine s_iadd (pc := 93) dX8_read_93 ?_
      refine cV2i (pc := 94) (Ky := kX7_item) dX8_read_94 rfl lnX8_254 okX7_item ⟨7, TX7, 4, rfl, rfl⟩ ⟨Nat.le_of_ble_eq_true rfl, Nat.le_of_ble_eq_true rfl⟩ (Nat.le_of_ble_eq_true rfl) (c_X7_item hsh (by omega)) ?_
      rintro _ _ ⟨rfl, rfl⟩
      rw [i2]
      refine s_istore_7 (pc := 97) dX8_read_97 (Nat.le_of_ble_eq_true rfl) rfl ?_
      refine s_iload_5 (pc := 99) dX8_read_99 ?_
      refine s_iload_6 (pc := 101) dX8_read_101 ?_
      refine s_iload_7 (pc := 103) dX8_read_103 ?_
      refine cS3i (pc := 105) (Ky := kX8_mayBeSeen) dX8_read_105 rfl lnX8_231 okX8_mayBeSeen ⟨Nat.le_of_ble_eq_true rfl, Nat.le_of_ble_eq_true rfl⟩ (Nat.le_of_ble_eq_true rfl) (c_X8_mayBeSeen t0 t1 t2) ?_
      rintro _ _ ⟨rfl, rfl⟩
      refine s_if_eq (pc := 108) 129 dX8_read_108 rfl (by omega) (fun h108 => ?_) (fun h108 => ?_)
      · have hno : ¬ sawOk a (κ 41 (60 * sh + 3 * j)) (κ 41 (60 * sh + (3 * j + 1))) 0 (κ 41 (60 * sh + (3 * j + 2))) := by omega
        have hsf : (sawF s.1 a (κ 41 (60 * sh + 3 * j)) (κ 41 (60 * sh + (3 * j + 1))) 0 (κ 41 (60 * sh + (3 * j + 2)))) = (s.1, -2) := by rw [sawF, if_neg hno]
        rw [hsf] at hst
        have hrd := hst (show (-2 : Int) < 0 by decide) rfl
        have hSe := hS
        have hFe := hF
        refine s_iload_3 (pc := 129) dX8_read_129 ?_
        refine s_ireturn (pc := 130) dX8_read_130 rfl ?_
        exact ⟨by rw [hrd], by rw [hrd]; exact hSe, hFe⟩
      · have hyo : sawOk a (κ 41 (60 * sh + 3 * j)) (κ 41 (60 * sh + (3 * j + 1))) 0 (κ 41 (60 * sh + (3 * j + 2))) := by omega
        refine s_aload_0 (pc := 111) dX8_read_111 ?_
        refine gfX8_70 (pc := 112) dX8_read_112 rfl ?_
        refine s_iload_2 (pc := 115) dX8_read_115 ?_
        refine s_iload_5 (pc := 116) dX8_read_116 ?_
        refine s_iload_6 (pc := 118) dX8_read_118 ?_
        refine s_iconst_0 (pc := 120) dX8_read_120 ?_
        refine s_iload_7 (pc := 121) dX8_read_121 ?_
        refine cV5i (pc := 123) (Ky := kX5_add) dX8_read_123 rfl lnX8_235 okX5_add ⟨5, TX5, 6, rfl, rfl⟩ ⟨Nat.le_of_ble_eq_true rfl, Nat.le_of_ble_eq_true rfl⟩ (Nat.le_of_ble_eq_true rfl) (c_X5_add hS hyo) ?_
        rintro _ ν123 ⟨rfl, hS123, hF123⟩
        refine s_if_ne (pc := 126) 131 dX8_read_126 rfl (by omega) (fun h126 => ?_) (fun h126 => ?_)
        · have hnf : s.1 135 0 ≠ 60 := fun q => by rw [if_pos q] at h126; exact h126 rfl
          have hsf : (sawF s.1 a (κ 41 (60 * sh + 3 * j)) (κ 41 (60 * sh + (3 * j + 1))) 0 (κ 41 (60 * sh + (3 * j + 2)))) = (sawM s.1 a (κ 41 (60 * sh + 3 * j)) (κ 41 (60 * sh + (3 * j + 1))) 0 (κ 41 (60 * sh + (3 * j + 2))), s.1 135 0 + 1) := by rw [sawF, if_pos hyo, if_neg hnf]
          have hge : 0 ≤ (sawF s.1 a (κ 41 (60 * sh + 3 * j)) (κ 41 (60 * sh + (3 * j + 1))) 0 (κ 41 (60 * sh + (3 * j + 2)))).2 := by rw [hsf]; dsimp only; omega
          have hnx := hgo hge
          refine s_iinc_3 (pc := 131) dX8_read_131 (Nat.le_of_ble_eq_true rfl) rfl ?_
          refine s_iinc_4 (pc := 134) dX8_read_134 (Nat.le_of_ble_eq_true rfl) rfl ?_
          refine s_goto (pc := 137) 43 dX8_read_137 rfl ?_
          refine s_le ?_ (ih (j + 1) ((sawF s.1 a (κ 41 (60 * sh + 3 * j)) (κ 41 (60 * sh + (3 * j + 1))) 0 (κ 41 (60 * sh + (3 * j + 2)))).1, 1, j + 1) _ (by omega) (by omega) (by rw [show (j + 1).toNat = j.toNat + 1 by omega]; exact hnx) rfl rfl hS123 (hF.tr hF123) (by omega))
          exact ⟨Or.inr rfl, Or.inr rfl, Or.inr rfl, Or.inr rfl, Or.inr (by rw [show (3 : Int) * (j + 1) = 3 * j + 3 by omega]), Or.inl rfl, Or.inl rfl, Or.inl rfl, trivial⟩
        · have hfu : s.1 135 0 = 60 := Decidable.byContradiction fun q => by rw [if_neg q] at h126; exact absurd h126 (by decide)
          have hsf : (sawF s.1 a (κ 41 (60 * sh + 3 * j)) (κ 41 (60 * sh + (3 * j + 1))) 0 (κ 41 (60 * sh + (3 * j + 2)))) = (s.1, -4) := by rw [sawF, if_pos hyo, if_pos hfu]
          rw [hsf] at hst hS123
          have hrd := hst (show (-4 : Int) < 0 by decide) rfl
          have hSe : SQ s.1 ν123 := hS123
          have hFe := hF.tr hF123
          refine s_iload_3 (pc := 129) dX8_read_129 ?_
          refine s_ireturn (pc := 130) dX8_read_130 rfl ?_
          exact ⟨by rw [hrd], by rw [hrd]; exact hSe, hFe⟩
theorem c_X8_read {κ : Mem} {sh a : Int} {μ : Mem} (h_sh : -2147483648 ≤ sh ∧ sh < 2147483648) (h_a : -2147483648 ≤ a ∧ a < 2147483648) (hS : SQ κ μ) (hza : ∀ s : Int, 0 ≤ s → s < 4 → -1 ≤ μ 36 s ∧ μ 36 s ≤ 60) (hir : ∀ k : Int, 0 ≤ k → k < 240 → -2147483648 ≤ μ 38 k ∧ μ 38 k < 2147483648) (hrl : ∀ s : Int, 0 ≤ s → s < 4 → (μ 36 s = -1 ∧ κ 39 s = -1) ∨ (μ 36 s = κ 40 s ∧ μ 37 s = κ 39 s ∧ (0 ≤ κ 39 s ∧ κ 39 s ≤ 2) ∧ (0 ≤ κ 40 s ∧ κ 40 s ≤ 60) ∧ ∀ k : Int, 0 ≤ k → k < κ 40 s → μ 38 (60 * s + k) = κ 41 (60 * s + k))) : Mc kX8_read [.inr (.inr 0), .inl sh, .inl a] μ (pI (fun z ν => (rdR κ sh a).2 = z ∧ SQ (rdR κ sh a).1 ν ∧ Fr [31, 32, 33, 34, 35, 119, 120] μ ν ∧ ν 120 0 = (if ((0 ≤ sh ∧ sh ≤ 3) ∧ (0 ≤ a ∧ a ≤ 3)) ∧ κ 39 sh < 0 then 1 else μ 120 0))) := by
  refine Mc_of (by decide +kernel) (fun _ => Nat.le_of_ble_eq_true rfl) ?_
  show AW kX8_read 0 [some (.inr (.inr 0)), some (.inl sh), some (.inl a), none, none, none, none, none] [] μ _
  refine s_iload_1 (pc := 0) dX8_read_0 ?_
  refine cS1i (pc := 1) (Ky := kX8_isSheet) dX8_read_1 rfl lnX8_242 okX8_isSheet ⟨Nat.le_of_ble_eq_true rfl, Nat.le_of_ble_eq_true rfl⟩ (Nat.le_of_ble_eq_true rfl) (c_X8_isSheet (by omega)) ?_
  rintro _ _ ⟨rfl, rfl⟩
  refine s_if_eq (pc := 4) 15 dX8_read_4 rfl (by omega) (fun h4 => ?_) (fun h4 => ?_)
  · refine s_bipush (pc := 15) (z := -2) dX8_read_15 rfl ?_
    refine s_ireturn (pc := 17) dX8_read_17 rfl ?_
    first
      | exact ⟨by rw [rdR, if_neg (by omega)], by rw [rdR, if_neg (by omega)]; exact hS, Fr.rf, by rw [if_neg (by omega)]⟩
      | (have hlo : κ 39 sh < 0 := by rcases hr with ⟨q1, q2⟩ | ⟨q1, q2, q3, q4, q5⟩ <;> omega
         have hrd : rdR κ sh a = (wr κ 121 0 1, -11) := by rw [rdR, if_pos (by omega), if_pos hlo]
         exact ⟨by rw [hrd]; rfl, by rw [hrd]; exact SQ.k (κ := κ) (κ' := wr κ 121 0 1) (hS.fr (F := [120]) (Fr.rf.wr (by decide)) (by decide)) (wr_nc (by decide)) (wr_nc (by decide)) (wr_nc (by decide)) (wr_nc (by decide)) (wr_nc (by decide)) (wr_nc (by decide)), Fr.rf.wr (by decide), by rw [if_pos ⟨by omega, hlo⟩, wr_s, if_pos rfl]⟩)
  · refine s_iload_2 (pc := 7) dX8_read_7 ?_
    refine s_iconst_3 (pc := 8) dX8_read_8 ?_
    refine cS2i (pc := 9) (Ky := kX8_within) dX8_read_9 rfl lnX8_81 okX8_within ⟨Nat.le_of_ble_eq_true rfl, Nat.le_of_ble_eq_true rfl⟩ (Nat.le_of_ble_eq_true rfl) (c_X8_within (by omega) (by omega)) ?_
    rintro _ _ ⟨rfl, rfl⟩
    refine s_if_ne (pc := 12) 18 dX8_read_12 rfl (by omega) (fun h12 => ?_) (fun h12 => ?_)
    · have hz := hza sh (by omega) (by omega)
      have hr := hrl sh (by omega) (by omega)
      refine s_aload_0 (pc := 18) dX8_read_18 ?_
      refine gfX8_77 (pc := 19) dX8_read_19 rfl ?_
      refine s_iload_1 (pc := 22) dX8_read_22 ?_
      refine cV1i (pc := 23) (Ky := kX7_isLost) dX8_read_23 rfl lnX8_245 okX7_isLost ⟨7, TX7, 4, rfl, rfl⟩ ⟨Nat.le_of_ble_eq_true rfl, Nat.le_of_ble_eq_true rfl⟩ (Nat.le_of_ble_eq_true rfl) (c_X7_isLost (by omega) hz) ?_
      rintro _ _ ⟨rfl, rfl⟩
      refine s_if_eq (pc := 26) 38 dX8_read_26 rfl (by omega) (fun h26 => ?_) (fun h26 => ?_)
      · refine s_iconst_0 (pc := 38) dX8_read_38 ?_
        refine s_istore_3 (pc := 39) dX8_read_39 (Nat.le_of_ble_eq_true rfl) rfl ?_
        refine s_iconst_0 (pc := 40) dX8_read_40 ?_
        refine s_istore_4 (pc := 41) dX8_read_41 (Nat.le_of_ble_eq_true rfl) rfl ?_
        have hr2 : μ 36 sh = κ 40 sh ∧ 0 ≤ κ 39 sh ∧ (0 ≤ κ 40 sh ∧ κ 40 sh ≤ 60) ∧ ∀ k : Int, 0 ≤ k → k < κ 40 sh → μ 38 (60 * sh + k) = κ 41 (60 * sh + k) := by
          rcases hr with ⟨q1, q2⟩ | ⟨q1, q2, q3, q4, q5⟩
          · omega
          · exact ⟨q1, q3.1, q4, q5⟩
        obtain ⟨q1, q2, q3, q4⟩ := hr2
        refine AW.mono (lp_X8_read (κ := κ) (sh := sh) (a := a) (μ := μ) (by omega) (by omega) q3 q1 q4 hir 21 0 (κ, 1, 0) μ (by omega) (by omega) rfl rfl rfl hS Fr.rf (by omega)) ?_
        rintro r ν ⟨z, rfl, rfl, hS2, hF2⟩
        have hrd : rdR κ sh a = rd κ a (fun k => κ 41 (60 * sh + k)) (κ 40 sh) := by rw [rdR, if_pos (by omega), if_neg (by omega)]
        exact ⟨_, rfl, by rw [hrd], by rw [hrd]; exact hS2, hF2.mono (by decide), by rw [if_neg (by omega)]; exact hF2.at 120 rfl 0⟩
      · refine s_aload_0 (pc := 29) dX8_read_29 ?_
        refine gfX8_77 (pc := 30) dX8_read_30 rfl ?_
        refine s_iconst_1 (pc := 33) dX8_read_33 ?_
        refine cV1i (pc := 34) (Ky := kX7_find) dX8_read_34 rfl lnX8_248 okX7_find ⟨7, TX7, 4, rfl, rfl⟩ ⟨Nat.le_of_ble_eq_true rfl, Nat.le_of_ble_eq_true rfl⟩ (Nat.le_of_ble_eq_true rfl) (c_X7_find (by omega)) ?_
        rintro _ _ ⟨rfl, rfl⟩
        refine s_ireturn (pc := 37) dX8_read_37 rfl ?_
        first
          | exact ⟨by rw [rdR, if_neg (by omega)], by rw [rdR, if_neg (by omega)]; exact hS, Fr.rf, by rw [if_neg (by omega)]⟩
          | (have hlo : κ 39 sh < 0 := by rcases hr with ⟨q1, q2⟩ | ⟨q1, q2, q3, q4, q5⟩ <;> omega
             have hrd : rdR κ sh a = (wr κ 121 0 1, -11) := by rw [rdR, if_pos (by omega), if_pos hlo]
             exact ⟨by rw [hrd]; rfl, by rw [hrd]; exact SQ.k (κ := κ) (κ' := wr κ 121 0 1) (hS.fr (F := [120]) (Fr.rf.wr (by decide)) (by decide)) (wr_nc (by decide)) (wr_nc (by decide)) (wr_nc (by decide)) (wr_nc (by decide)) (wr_nc (by decide)) (wr_nc (by decide)), Fr.rf.wr (by decide), by rw [if_pos ⟨by omega, hlo⟩, wr_s, if_pos rfl]⟩)
    · refine s_bipush (pc := 15) (z := -2) dX8_read_15 rfl ?_
      refine s_ireturn (pc := 17) dX8_read_17 rfl ?_
      first
        | exact ⟨by rw [rdR, if_neg (by omega)], by rw [rdR, if_neg (by omega)]; exact hS, Fr.rf, by rw [if_neg (by omega)]⟩
        | (have hlo : κ 39 sh < 0 := by rcases hr with ⟨q1, q2⟩ | ⟨q1, q2, q3, q4, q5⟩ <;> omega
           have hrd : rdR κ sh a = (wr κ 121 0 1, -11) := by rw [rdR, if_pos (by omega), if_pos hlo]
           exact ⟨by rw [hrd]; rfl, by rw [hrd]; exact SQ.k (κ := κ) (κ' := wr κ 121 0 1) (hS.fr (F := [120]) (Fr.rf.wr (by decide)) (by decide)) (wr_nc (by decide)) (wr_nc (by decide)) (wr_nc (by decide)) (wr_nc (by decide)) (wr_nc (by decide)) (wr_nc (by decide)), Fr.rf.wr (by decide), by rw [if_pos ⟨by omega, hlo⟩, wr_s, if_pos rfl]⟩)
theorem c_X8_count {κ : Mem} {tx : Int → Int} {n q : Int} {μ : Mem} (h_q : -2147483648 ≤ q ∧ q < 2147483648) (hQ : RQ tx n μ) (hn : 0 ≤ n ∧ n ≤ 60) (hS : SQ κ μ) (e12 : μ 12 = κ 57) (e100 : μ 100 0 = n) (e120 : μ 120 0 = κ 121 0) : Mc kX8_count [.inr (.inr 0), .inl q] μ (pI (fun z ν => cnV tx n κ q = z ∧ μ = ν)) := by
  refine Mc_of (by decide +kernel) (fun _ => Nat.le_of_ble_eq_true rfl) ?_
  show AW kX8_count 0 [some (.inr (.inr 0)), some (.inl q)] [] μ _
  obtain ⟨q1, q2, q3, q4, q5⟩ := id hQ
  refine s_iload_1 (pc := 0) dX8_count_0 ?_
  by_cases hq : 0 ≤ q ∧ q ≤ 8
  · rcases (show q = 0 ∨ q = 1 ∨ q = 2 ∨ q = 3 ∨ q = 4 ∨ q = 5 ∨ q = 6 ∨ q = 7 ∨ q = 8 by omega) with rfl | rfl | rfl | rfl | rfl | rfl | rfl | rfl | rfl
    · refine s_tableIn (pc := 1) (off := 51) 52 dX8_count_1 (by decide) (by decide) (by decide) rfl rfl ?_
      refine s_aload_0 (pc := 52) dX8_count_52 ?_
      refine gfX8_12 (pc := 53) dX8_count_53 rfl ?_
      refine gfX8_182 (pc := 56) dX8_count_56 rfl ?_
      refine s_ireturn (pc := 59) dX8_count_59 rfl ?_
      exact ⟨q1.symm, rfl⟩
    · refine s_tableIn (pc := 1) (off := 59) 60 dX8_count_1 (by decide) (by decide) (by decide) rfl rfl ?_
      refine s_aload_0 (pc := 60) dX8_count_60 ?_
      refine gfX8_12 (pc := 61) dX8_count_61 rfl ?_
      refine gfX8_121 (pc := 64) dX8_count_64 rfl ?_
      refine s_ireturn (pc := 67) dX8_count_67 rfl ?_
      exact ⟨q2.symm, rfl⟩
    · refine s_tableIn (pc := 1) (off := 67) 68 dX8_count_1 (by decide) (by decide) (by decide) rfl rfl ?_
      refine s_aload_0 (pc := 68) dX8_count_68 ?_
      refine gfX8_12 (pc := 69) dX8_count_69 rfl ?_
      refine gfX8_89 (pc := 72) dX8_count_72 rfl ?_
      refine s_ireturn (pc := 75) dX8_count_75 rfl ?_
      exact ⟨e100.symm, rfl⟩
    · refine s_tableIn (pc := 1) (off := 75) 76 dX8_count_1 (by decide) (by decide) (by decide) rfl rfl ?_
      refine s_aload_0 (pc := 76) dX8_count_76 ?_
      refine gfX8_12 (pc := 77) dX8_count_77 rfl ?_
      refine cV0i (pc := 80) (Ky := kX3_funnyTogether) dX8_count_80 rfl lnX8_294 okX3_funnyTogether ⟨3, TX3, 9, rfl, rfl⟩ ⟨Nat.le_of_ble_eq_true rfl, Nat.le_of_ble_eq_true rfl⟩ (Nat.le_of_ble_eq_true rfl) (c_X3_funnyTogether hQ hn) ?_
      rintro _ _ ⟨rfl, rfl⟩
      refine s_ireturn (pc := 83) dX8_count_83 rfl ?_
      exact ⟨rfl, rfl⟩
    · refine s_tableIn (pc := 1) (off := 83) 84 dX8_count_1 (by decide) (by decide) (by decide) rfl rfl ?_
      refine s_aload_0 (pc := 84) dX8_count_84 ?_
      refine gfX8_70 (pc := 85) dX8_count_85 rfl ?_
      refine gfX8_239 (pc := 88) dX8_count_88 rfl ?_
      refine s_ireturn (pc := 91) dX8_count_91 rfl ?_
      exact ⟨hS.2.1.symm, rfl⟩
    · refine s_tableIn (pc := 1) (off := 91) 92 dX8_count_1 (by decide) (by decide) (by decide) rfl rfl ?_
      refine s_aload_0 (pc := 92) dX8_count_92 ?_
      refine gfX8_70 (pc := 93) dX8_count_93 rfl ?_
      refine cV0i (pc := 96) (Ky := kX5_laughedTogether) dX8_count_96 rfl lnX8_297 okX5_laughedTogether ⟨5, TX5, 6, rfl, rfl⟩ ⟨Nat.le_of_ble_eq_true rfl, Nat.le_of_ble_eq_true rfl⟩ (Nat.le_of_ble_eq_true rfl) (c_X5_laughedTogether hS) ?_
      rintro _ _ ⟨rfl, rfl⟩
      refine s_ireturn (pc := 99) dX8_count_99 rfl ?_
      exact ⟨rfl, rfl⟩
    · refine s_tableIn (pc := 1) (off := 99) 100 dX8_count_1 (by decide) (by decide) (by decide) rfl rfl ?_
      refine s_aload_0 (pc := 100) dX8_count_100 ?_
      refine cV0i (pc := 101) (Ky := kX8_totalWeight) dX8_count_101 rfl lnX8_200 okX8_totalWeight ⟨8, TX8, 11, rfl, rfl⟩ ⟨Nat.le_of_ble_eq_true rfl, Nat.le_of_ble_eq_true rfl⟩ (Nat.le_of_ble_eq_true rfl) (c_X8_totalWeight) ?_
      rintro _ _ ⟨rfl, rfl⟩
      refine s_ireturn (pc := 104) dX8_count_104 rfl ?_
      exact ⟨by rw [e12]; rfl, rfl⟩
    · refine s_tableIn (pc := 1) (off := 104) 105 dX8_count_1 (by decide) (by decide) (by decide) rfl rfl ?_
      refine s_aload_0 (pc := 105) dX8_count_105 ?_
      refine gfX8_12 (pc := 106) dX8_count_106 rfl ?_
      refine cV0i (pc := 109) (Ky := kX3_worthTogether) dX8_count_109 rfl lnX8_300 okX3_worthTogether ⟨3, TX3, 9, rfl, rfl⟩ ⟨Nat.le_of_ble_eq_true rfl, Nat.le_of_ble_eq_true rfl⟩ (Nat.le_of_ble_eq_true rfl) (c_X3_worthTogether hQ hn) ?_
      rintro _ _ ⟨rfl, rfl⟩
      refine s_ireturn (pc := 112) dX8_count_112 rfl ?_
      exact ⟨rfl, rfl⟩
    · refine s_tableIn (pc := 1) (off := 112) 113 dX8_count_1 (by decide) (by decide) (by decide) rfl rfl ?_
      refine s_aload_0 (pc := 113) dX8_count_113 ?_
      refine gfX8_77 (pc := 114) dX8_count_114 rfl ?_
      refine gfX8_303 (pc := 117) dX8_count_117 rfl ?_
      refine s_ireturn (pc := 120) dX8_count_120 rfl ?_
      exact ⟨e120.symm, rfl⟩
  · refine s_tableOut (pc := 1) 121 dX8_count_1 (by omega) (by omega) rfl ?_
    refine s_bipush (pc := 121) (z := -2) dX8_count_121 rfl ?_
    refine s_ireturn (pc := 123) dX8_count_123 rfl ?_
    exact ⟨by unfold cnV; rw [if_neg (by omega), if_neg (by omega), if_neg (by omega), if_neg (by omega), if_neg (by omega), if_neg (by omega), if_neg (by omega), if_neg (by omega), if_neg (by omega)], rfl⟩
