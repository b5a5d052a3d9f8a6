def wtI (μ κ : Mem) (p sh m : Int) (k : Int) : Int := if 60 * sh ≤ k ∧ k < 60 * sh + m then cutF (μ 39 sh) (kq κ p (k - 60 * sh)) else μ 41 k
theorem wtI_0 {μ κ : Mem} {p sh k : Int} : wtI μ κ p sh 0 k = μ 41 k := by unfold wtI; rw [if_neg (by omega)]
def wtM (μ : Mem) (T sh : Int) : Int := if T ≤ μ 40 sh then T else μ 40 sh
theorem lp_X9_write {κ : Mem} {p sh m : Int} {μ : Mem} (hMμ : MR κ μ) (hp : 0 ≤ p ∧ p < 4) (hsh : 0 ≤ sh ∧ sh ≤ 3) (hm4 : m ≤ 4) (hm0 : -1 ≤ m) (hfm : 0 ≤ μ 39 sh ∧ μ 39 sh ≤ 2) : ∀ (f : Nat) (i : Int) (ν : Mem), (0 ≤ i) → (i ≤ m ∨ (m < 0 ∧ i = 0)) → (Fr [41] μ ν) → (∀ k, ν 41 k = wtI μ κ p sh i k) → 4 - i < (f : Int) → AW kX9_write 67 [some (.inr (.inr 9)), some (.inl p), some (.inl sh), some (.inl m), some (.inl i)] [] ν (pI (fun z ν => m = z ∧ Fr [41] μ ν ∧ ∀ k, ν 41 k = wtI μ κ p sh m k)) := by
  intro f
  induction f with
  | zero =>
    intro i ν h0 h1 hF hv hm
    exfalso; omega
  | succ f ih =>
    intro i ν h0 h1 hF hv hm
    have hM := hMμ.frB hF (by decide)
    have c39 : ν 39 sh = μ 39 sh := hF.at 39 rfl sh
    refine s_iload_4 (pc := 67) dX9_write_67 ?_
    refine s_iload_3 (pc := 69) dX9_write_69 ?_
    refine s_icmp_ge (pc := 70) 107 dX9_write_70 rfl (by omega) (by omega) (fun h70 => ?_) (fun h70 => ?_)
    · refine s_iload_3 (pc := 107) dX9_write_107 ?_
      refine s_ireturn (pc := 108) dX9_write_108 rfl ?_
      refine ⟨rfl, hF, fun k => ?_⟩
      rw [hv k]
      unfold wtI
      by_cases hk2 : 60 * sh ≤ k ∧ k < 60 * sh + i
      · rw [if_pos hk2, if_pos (by omega)]
      · rw [if_neg hk2, if_neg (by omega)]
    · refine s_aload_0 (pc := 73) dX9_write_73 ?_
      refine gfX9_16 (pc := 74) dX9_write_74 rfl ?_
      refine s_bipush (pc := 77) (z := 60) dX9_write_77 rfl ?_
      refine s_iload_2 (pc := 79) dX9_write_79 ?_
      refine s_imul (pc := 80) dX9_write_80 ?_
      refine s_iload_4 (pc := 81) dX9_write_81 ?_
      refine s_iadd (pc := 83) dX9_write_83 ?_
      refine s_aload_0 (pc := 84) dX9_write_84 ?_
      refine gfX9_7 (pc := 85) dX9_write_85 rfl ?_
      refine s_iload_2 (pc := 88) dX9_write_88 ?_
      refine z_iaload (pc := 89) dX9_write_89 ly_39 (by omega) (by omega) ?_
      try rw [c39]
      refine s_aload_0 (pc := 90) dX9_write_90 ?_
      refine s_iload_1 (pc := 91) dX9_write_91 ?_
      refine s_iload_4 (pc := 92) dX9_write_92 ?_
      refine cV2i (pc := 94) (Ky := kX9_quartersNow) dX9_write_94 rfl lnX9_197 okX9_quartersNow ⟨9, TX9, 40, rfl, rfl⟩ ⟨Nat.le_of_ble_eq_true rfl, Nat.le_of_ble_eq_true rfl⟩ (Nat.le_of_ble_eq_true rfl) (c_X9_quartersNow hM hp (by omega)) ?_
      rintro _ _ ⟨rfl, rfl⟩
      have hq := kq_in hMμ.1 (p := p) (i := i) hp (by omega)
      refine cS2i (pc := 97) (Ky := kX9_cut) dX9_write_97 rfl lnX9_113 okX9_cut ⟨Nat.le_of_ble_eq_true rfl, Nat.le_of_ble_eq_true rfl⟩ (Nat.le_of_ble_eq_true rfl) (c_X9_cut (by omega) (by omega)) ?_
      rintro _ _ ⟨rfl, rfl⟩
      refine z_iastore (pc := 100) dX9_write_100 ly_41 ip_41 (by omega) (by omega) ?_
      refine s_iinc_4 (pc := 101) dX9_write_101 (Nat.le_of_ble_eq_true rfl) rfl ?_
      refine s_goto (pc := 104) 67 dX9_write_104 rfl ?_
      refine s_le ?_ (ih (i + 1) _ (by omega) (by omega) (hF.wr (by decide)) (fun k => ?_) (by omega))
      · exact ⟨Or.inr rfl, Or.inr rfl, Or.inr rfl, Or.inr rfl, Or.inr rfl, trivial⟩
      · unfold wtI
        by_cases hk : k = 60 * sh + i
        · rw [hk, wr_s, if_pos rfl, if_pos (by omega), show 60 * sh + i - 60 * sh = i by omega]
        · rw [wr_s, if_neg hk, hv k]
          unfold wtI
          by_cases hk2 : 60 * sh ≤ k ∧ k < 60 * sh + i
          · rw [if_pos hk2, if_pos (by omega)]
          · rw [if_neg hk2, if_neg (by omega)]
theorem c_X9_write {tx : Int → Int} {n p sh : Int} {hd lv : Int → Int} {μ : Mem} (h_p : -2147483648 ≤ p ∧ p < 2147483648) (h_sh : -2147483648 ≤ sh ∧ sh < 2147483648) (hsz : ∀ k : Int, 0 ≤ k → k < 4 → -1 ≤ μ 40 k ∧ μ 40 k ≤ 60) (hfm : ∀ k : Int, 0 ≤ k → k < 4 → -1 ≤ μ 39 k ∧ μ 39 k ≤ 2) (e43 : μ 43 = tx) (e122 : μ 122 0 = n) (hn : 0 ≤ n ∧ n ≤ 60) (ht : ∀ k : Int, 0 ≤ k → k < n → 0 ≤ tx k ∧ tx k ≤ 255) (e47 : μ 47 = hd) (e48 : μ 48 = lv) (hhd : ∀ p : Int, 0 ≤ p → p < 4 → 0 ≤ hd p ∧ hd p ≤ 15) (hlv : ∀ p : Int, 0 ≤ p → p < 4 → 0 ≤ lv p ∧ lv p ≤ 4) : Mc kX9_write [.inr (.inr 9), .inl p, .inl sh] μ (pI (fun z ν => (if ((0 ≤ p ∧ p < pPe tx n) ∧ (0 ≤ sh ∧ sh ≤ 3)) then (if μ 39 sh < 0 then -11 else wtM μ (pTa tx n) sh) else -2) = z ∧ Fr [42, 44, 45, 46, 49, 50, 51, 52, 53, 54, 55, 56, 123, 124, 125, 126, 127, 128, 129, 130, 131, 132, 133, 134, 41, 121] μ ν ∧ (∀ k, ν 41 k = wtI μ (cfg tx n hd lv) p sh (if ((0 ≤ p ∧ p < pPe tx n) ∧ (0 ≤ sh ∧ sh ≤ 3)) ∧ 0 ≤ μ 39 sh then wtM μ (pTa tx n) sh else 0) k) ∧ ν 121 0 = (if ((0 ≤ p ∧ p < pPe tx n) ∧ (0 ≤ sh ∧ sh ≤ 3)) ∧ μ 39 sh < 0 then 1 else μ 121 0))) := by
  refine Mc_of (by decide +kernel) (fun _ => Nat.le_of_ble_eq_true rfl) ?_
  show AW kX9_write 0 [some (.inr (.inr 9)), some (.inl p), some (.inl sh), none, none] [] μ _
  have hpe := pPe_in (tx := tx) hn.1
  have hta := pTa_in (tx := tx) hn.1
  refine s_aload_0 (pc := 0) dX9_write_0 ?_
  refine s_iload_1 (pc := 1) dX9_write_1 ?_
  refine cV1i (pc := 2) (Ky := kX9_isPerson) dX9_write_2 rfl lnX9_158 okX9_isPerson ⟨9, TX9, 40, rfl, rfl⟩ ⟨Nat.le_of_ble_eq_true rfl, Nat.le_of_ble_eq_true rfl⟩ (Nat.le_of_ble_eq_true rfl) (c_X9_isPerson (by omega) e43 e122 hn ht) ?_
  rintro _ ν2 ⟨rfl, hF2, hM2⟩
  obtain ⟨k1, k2, k3, k4, k5⟩ := id hM2
  have c39 : ν2 39 sh = μ 39 sh := hF2.at 39 rfl sh
  refine s_if_eq (pc := 5) 15 dX9_write_5 rfl (by omega) (fun h5 => ?_) (fun h5 => ?_)
  · refine s_bipush (pc := 15) (z := -2) dX9_write_15 rfl ?_
    refine s_ireturn (pc := 17) dX9_write_17 rfl ?_
    first
      | exact ⟨by rw [if_neg (by omega)], hF2.mono (by decide), fun k => by rw [if_neg (by omega), wtI_0]; exact hF2.at 41 rfl k, by rw [if_neg (by omega)]; exact hF2.at 121 rfl 0⟩
      | exact ⟨by rw [if_pos (by omega), if_pos (by omega)]; rfl, (hF2.mono (by decide)).wr (by decide), fun k => by rw [if_neg (by omega), wtI_0, wr_n (by decide)]; exact hF2.at 41 rfl k, by rw [if_pos (by omega), wr_s, if_pos rfl]⟩
  · refine s_iload_2 (pc := 8) dX9_write_8 ?_
    refine cS1i (pc := 9) (Ky := kX9_isSheet) dX9_write_9 rfl lnX9_99 okX9_isSheet ⟨Nat.le_of_ble_eq_true rfl, Nat.le_of_ble_eq_true rfl⟩ (Nat.le_of_ble_eq_true rfl) (c_X9_isSheet (by omega)) ?_
    rintro _ _ ⟨rfl, rfl⟩
    refine s_if_ne (pc := 12) 18 dX9_write_12 rfl (by omega) (fun h12 => ?_) (fun h12 => ?_)
    · refine s_aload_0 (pc := 18) dX9_write_18 ?_
      have hf1 := hfm sh (by omega) (by omega)
      have hs1 := hsz sh (by omega) (by omega)
      refine gfX9_7 (pc := 19) dX9_write_19 rfl ?_
      refine s_iload_2 (pc := 22) dX9_write_22 ?_
      refine z_iaload (pc := 23) dX9_write_23 ly_39 (by omega) (by omega) ?_
      try rw [c39]
      try rw [c40]
      try rw [c125]
      refine s_if_ge (pc := 24) 33 dX9_write_24 rfl (by omega) (fun h24 => ?_) (fun h24 => ?_)
      · refine s_aload_0 (pc := 33) dX9_write_33 ?_
        refine cV0v (pc := 34) (Ky := kX9_tries) dX9_write_34 rfl lnX9_194 okX9_tries ⟨9, TX9, 40, rfl, rfl⟩ ⟨Nat.le_of_ble_eq_true rfl, Nat.le_of_ble_eq_true rfl⟩ (Nat.le_of_ble_eq_true rfl) (c_X9_tries (tx := tx) (n := n) (by rw [hF2.fn 43 rfl]; exact e43) (by rw [hF2.at 122 rfl 0]; exact e122) hn ht (by rw [hF2.fn 47 rfl]; exact e47) (by rw [hF2.fn 48 rfl]; exact e48) hhd hlv) ?_
        rintro ν34 ⟨hF34, hR34, hM34⟩
        have c40 : ν34 40 sh = μ 40 sh := by rw [hF34.at 40 rfl sh, hF2.at 40 rfl sh]
        have c125 : ν34 125 0 = pTa tx n := hR34.2.1
        have c39b : ν34 39 sh = μ 39 sh := by rw [hF34.at 39 rfl sh, hF2.at 39 rfl sh]
        refine s_aload_0 (pc := 37) dX9_write_37 ?_
        refine gfX9_13 (pc := 38) dX9_write_38 rfl ?_
        refine s_iload_2 (pc := 41) dX9_write_41 ?_
        refine z_iaload (pc := 42) dX9_write_42 ly_40 (by omega) (by omega) ?_
        try rw [c39]
        try rw [c40]
        try rw [c125]
        refine s_aload_0 (pc := 43) dX9_write_43 ?_
        refine gfX9_129 (pc := 44) dX9_write_44 rfl ?_
        try rw [c39]
        try rw [c40]
        try rw [c125]
        refine s_icmp_ge (pc := 47) 59 dX9_write_47 rfl (by omega) (by omega) (fun h47 => ?_) (fun h47 => ?_)
        · refine s_aload_0 (pc := 59) dX9_write_59 ?_
          refine gfX9_129 (pc := 60) dX9_write_60 rfl ?_
          try rw [c39]
          try rw [c40]
          try rw [c125]
          refine s_istore_3 (pc := 63) dX9_write_63 (Nat.le_of_ble_eq_true rfl) rfl ?_
          refine s_iconst_0 (pc := 64) dX9_write_64 ?_
          refine s_istore_4 (pc := 65) dX9_write_65 (Nat.le_of_ble_eq_true rfl) rfl ?_
          have hwm : wtM μ (pTa tx n) sh = (if pTa tx n ≤ μ 40 sh then pTa tx n else μ 40 sh) := rfl
          first
            | (rw [if_pos (by omega)] at hwm
               refine AW.mono (lp_X9_write (p := p) (sh := sh) (m := pTa tx n) hM34 (by omega) (by omega) (by omega) (by omega) (by omega) 5 0 ν34 (by omega) (by omega) Fr.rf (fun k => wtI_0.symm) (by omega)) ?_
               skip)
            | (rw [if_neg (by omega)] at hwm
               refine AW.mono (lp_X9_write (p := p) (sh := sh) (m := μ 40 sh) hM34 (by omega) (by omega) (by omega) (by omega) (by omega) 5 0 ν34 (by omega) (by omega) Fr.rf (fun k => wtI_0.symm) (by omega)) ?_
               skip)
          rintro r ν ⟨z, rfl, rfl, hF3, hv3⟩
          have hFF : Fr [42, 44, 45, 46, 49, 50, 51, 52, 53, 54, 55, 56, 123, 124, 125, 126, 127, 128, 129, 130, 131, 132, 133, 134, 41, 121] μ ν := ((hF2.mono (by decide)).tr (hF34.mono (by decide))).tr (hF3.mono (by decide))
          refine ⟨_, rfl, by rw [if_pos (by omega), if_neg (by omega)]; exact hwm, hFF, fun k => ?_, ?_⟩
          · rw [hv3 k, if_pos (by omega), hwm]
            unfold wtI
            rw [c39b, hF34.at 41 rfl k, hF2.at 41 rfl k]
          · rw [if_neg (by omega), hF3.at 121 rfl 0, hF34.at 121 rfl 0, hF2.at 121 rfl 0]
        · refine s_aload_0 (pc := 50) dX9_write_50 ?_
          refine gfX9_13 (pc := 51) dX9_write_51 rfl ?_
          refine s_iload_2 (pc := 54) dX9_write_54 ?_
          refine z_iaload (pc := 55) dX9_write_55 ly_40 (by omega) (by omega) ?_
          try rw [c39]
          try rw [c40]
          try rw [c125]
          refine s_goto (pc := 56) 63 dX9_write_56 rfl ?_
          refine s_istore_3 (pc := 63) dX9_write_63 (Nat.le_of_ble_eq_true rfl) rfl ?_
          refine s_iconst_0 (pc := 64) dX9_write_64 ?_
          refine s_istore_4 (pc := 65) dX9_write_65 (Nat.le_of_ble_eq_true rfl) rfl ?_
          have hwm : wtM μ (pTa tx n) sh = (if pTa tx n ≤ μ 40 sh then pTa tx n else μ 40 sh) := rfl
          first
            | (rw [if_pos (by omega)] at hwm
               refine AW.mono (lp_X9_write (p := p) (sh := sh) (m := pTa tx n) hM34 (by omega) (by omega) (by omega) (by omega) (by omega) 5 0 ν34 (by omega) (by omega) Fr.rf (fun k => wtI_0.symm) (by omega)) ?_
               skip)
            | (rw [if_neg (by omega)] at hwm
               refine AW.mono (lp_X9_write (p := p) (sh := sh) (m := μ 40 sh) hM34 (by omega) (by omega) (by omega) (by omega) (by omega) 5 0 ν34 (by omega) (by omega) Fr.rf (fun k => wtI_0.symm) (by omega)) ?_
               skip)
          rintro r ν ⟨z, rfl, rfl, hF3, hv3⟩
          have hFF : Fr [42, 44, 45, 46, 49, 50, 51, 52, 53, 54, 55, 56, 123, 124, 125, 126, 127, 128, 129, 130, 131, 132, 133, 134, 41, 121] μ ν := ((hF2.mono (by decide)).tr (hF34.mono (by decide))).tr (hF3.mono (by decide))
          refine ⟨_, rfl, by rw [if_pos (by omega), if_neg (by omega)]; exact hwm, hFF, fun k => ?_, ?_⟩
          · rw [hv3 k, if_pos (by omega), hwm]
            unfold wtI
            rw [c39b, hF34.at 41 rfl k, hF2.at 41 rfl k]
          · rw [if_neg (by omega), hF3.at 121 rfl 0, hF34.at 121 rfl 0, hF2.at 121 rfl 0]
      · refine s_aload_0 (pc := 27) dX9_write_27 ?_
        refine s_iconst_1 (pc := 28) dX9_write_28 ?_
        refine cV1i (pc := 29) (Ky := kX9_met) dX9_write_29 rfl lnX9_105 okX9_met ⟨9, TX9, 40, rfl, rfl⟩ ⟨Nat.le_of_ble_eq_true rfl, Nat.le_of_ble_eq_true rfl⟩ (Nat.le_of_ble_eq_true rfl) (c_X9_met (by omega)) ?_
        rintro _ _ ⟨rfl, rfl⟩
        refine s_ireturn (pc := 32) dX9_write_32 rfl ?_
        first
          | exact ⟨by rw [if_neg (by omega)], hF2.mono (by decide), fun k => by rw [if_neg (by omega), wtI_0]; exact hF2.at 41 rfl k, by rw [if_neg (by omega)]; exact hF2.at 121 rfl 0⟩
          | exact ⟨by rw [if_pos (by omega), if_pos (by omega)]; rfl, (hF2.mono (by decide)).wr (by decide), fun k => by rw [if_neg (by omega), wtI_0, wr_n (by decide)]; exact hF2.at 41 rfl k, by rw [if_pos (by omega), wr_s, if_pos rfl]⟩
    · refine s_bipush (pc := 15) (z := -2) dX9_write_15 rfl ?_
      refine s_ireturn (pc := 17) dX9_write_17 rfl ?_
      first
        | exact ⟨by rw [if_neg (by omega)], hF2.mono (by decide), fun k => by rw [if_neg (by omega), wtI_0]; exact hF2.at 41 rfl k, by rw [if_neg (by omega)]; exact hF2.at 121 rfl 0⟩
        | exact ⟨by rw [if_pos (by omega), if_pos (by omega)]; rfl, (hF2.mono (by decide)).wr (by decide), fun k => by rw [if_neg (by omega), wtI_0, wr_n (by decide)]; exact hF2.at 41 rfl k, by rw [if_pos (by omega), wr_s, if_pos rfl]⟩
def cnV (tx : Int → Int) (n : Int) (μ : Mem) (q : Int) : Int := if q = 0 then pPe tx n else if q = 1 then pTa tx n else if q = 2 then n else if q = 3 then sm (pFu tx n) (pTa tx n).toNat else if q = 4 then μ 135 0 else if q = 5 then sm (μ 62) (μ 135 0).toNat else if q = 6 then sm (μ 57) 5 else if q = 7 then sm (fun p => pPr tx n (4 * p + 3)) (pPe tx n).toNat else if q = 8 then μ 121 0 else -2
theorem lp_X9_count3 {tx : Int → Int} {n q : Int} {μ ν : Mem} (hR : RM tx n ν) (hF : Fr [44, 45, 46, 123, 124, 125] μ ν) (hN : 0 ≤ pTa tx n ∧ pTa tx n ≤ 4) : ∀ (f : Nat) (i : Int), (0 ≤ i) → (i ≤ pTa tx n) → pTa tx n - i < (f : Int) → AW kX9_count 77 [some (.inr (.inr 9)), some (.inl q), some (.inl (sm (pFu tx n) i.toNat)), some (.inl i)] [] ν (pI (fun z ν => sm (pFu tx n) (pTa tx n).toNat = z ∧ Fr [44, 45, 46, 123, 124, 125] μ ν)) := by
  intro f
  induction f with
  | zero =>
    intro i h0 h1 hm
    exfalso; omega
  | succ f ih =>
    intro i h0 h1 hm
    obtain ⟨k1, k2, k3, k4, k5⟩ := id hR
    have hsu := sm_succ (f := pFu tx n) h0
    have c135 : ν 135 0 = μ 135 0 := hF.at 135 rfl 0
    have c62 : ν 62 = μ 62 := hF.fn 62 rfl
    refine s_iload_3 (pc := 77) dX9_count_77 ?_
    refine s_aload_0 (pc := 78) dX9_count_78 ?_
    refine gfX9_129 (pc := 79) dX9_count_79 rfl ?_
    try rw [c135]
    try rw [c62]
    try rw [k1]
    try rw [k2]
    refine s_icmp_ge (pc := 82) 100 dX9_count_82 rfl (by omega) (by omega) (fun h82 => ?_) (fun h82 => ?_)
    · refine s_iload_2 (pc := 100) dX9_count_100 ?_
      refine s_ireturn (pc := 101) dX9_count_101 rfl ?_
      cases (show i = pTa tx n by omega)
      exact ⟨rfl, hF⟩
    · refine s_iload_2 (pc := 85) dX9_count_85 ?_
      refine s_aload_0 (pc := 86) dX9_count_86 ?_
      refine gfX9_28 (pc := 87) dX9_count_87 rfl ?_
      refine s_iload_3 (pc := 90) dX9_count_90 ?_
      refine z_iaload (pc := 91) dX9_count_91 ly_45 (by omega) (by omega) ?_
      try rw [c135]
      try rw [c62]
      try rw [k1]
      try rw [k2]
      rw [k5 i h0 (by omega)]
      refine s_iadd (pc := 92) dX9_count_92 ?_
      refine s_istore_2 (pc := 93) dX9_count_93 (Nat.le_of_ble_eq_true rfl) rfl ?_
      refine s_iinc_3 (pc := 94) dX9_count_94 (Nat.le_of_ble_eq_true rfl) rfl ?_
      refine s_goto (pc := 97) 77 dX9_count_97 rfl ?_
      refine s_le ?_ (ih (i + 1) (by omega) (by omega) (by omega))
      rw [hsu]
      exact ⟨Or.inr rfl, Or.inr rfl, Or.inr rfl, Or.inr rfl, trivial⟩
theorem lp_X9_count5 {tx : Int → Int} {n q : Int} {μ ν : Mem} (hR : RM tx n ν) (hF : Fr [44, 45, 46, 123, 124, 125] μ ν) (hN : 0 ≤ μ 135 0 ∧ μ 135 0 ≤ 60) : ∀ (f : Nat) (i : Int), (0 ≤ i) → (i ≤ μ 135 0) → μ 135 0 - i < (f : Int) → AW kX9_count 109 [some (.inr (.inr 9)), some (.inl q), some (.inl (sm (μ 62) i.toNat)), some (.inl i)] [] ν (pI (fun z ν => sm (μ 62) (μ 135 0).toNat = z ∧ Fr [44, 45, 46, 123, 124, 125] μ ν)) := by
  intro f
  induction f with
  | zero =>
    intro i h0 h1 hm
    exfalso; omega
  | succ f ih =>
    intro i h0 h1 hm
    obtain ⟨k1, k2, k3, k4, k5⟩ := id hR
    have hsu := sm_succ (f := μ 62) h0
    have c135 : ν 135 0 = μ 135 0 := hF.at 135 rfl 0
    have c62 : ν 62 = μ 62 := hF.fn 62 rfl
    refine s_iload_3 (pc := 109) dX9_count_109 ?_
    refine s_aload_0 (pc := 110) dX9_count_110 ?_
    refine gfX9_332 (pc := 111) dX9_count_111 rfl ?_
    try rw [c135]
    try rw [c62]
    try rw [k1]
    try rw [k2]
    refine s_icmp_ge (pc := 114) 132 dX9_count_114 rfl (by omega) (by omega) (fun h114 => ?_) (fun h114 => ?_)
    · refine s_iload_2 (pc := 132) dX9_count_132 ?_
      refine s_ireturn (pc := 133) dX9_count_133 rfl ?_
      cases (show i = μ 135 0 by omega)
      exact ⟨rfl, hF⟩
    · refine s_iload_2 (pc := 117) dX9_count_117 ?_
      refine s_aload_0 (pc := 118) dX9_count_118 ?_
      refine gfX9_81 (pc := 119) dX9_count_119 rfl ?_
      refine s_iload_3 (pc := 122) dX9_count_122 ?_
      refine z_iaload (pc := 123) dX9_count_123 ly_62 (by omega) (by omega) ?_
      try rw [c135]
      try rw [c62]
      try rw [k1]
      try rw [k2]
      skip
      refine s_iadd (pc := 124) dX9_count_124 ?_
      refine s_istore_2 (pc := 125) dX9_count_125 (Nat.le_of_ble_eq_true rfl) rfl ?_
      refine s_iinc_3 (pc := 126) dX9_count_126 (Nat.le_of_ble_eq_true rfl) rfl ?_
      refine s_goto (pc := 129) 109 dX9_count_129 rfl ?_
      refine s_le ?_ (ih (i + 1) (by omega) (by omega) (by omega))
      rw [hsu]
      exact ⟨Or.inr rfl, Or.inr rfl, Or.inr rfl, Or.inr rfl, trivial⟩
theorem lp_X9_count7 {tx : Int → Int} {n q : Int} {μ ν : Mem} (hR : RM tx n ν) (hF : Fr [44, 45, 46, 123, 124, 125] μ ν) (hN : 0 ≤ pPe tx n ∧ pPe tx n ≤ 4) : ∀ (f : Nat) (i : Int), (0 ≤ i) → (i ≤ pPe tx n) → pPe tx n - i < (f : Int) → AW kX9_count 141 [some (.inr (.inr 9)), some (.inl q), some (.inl (sm (fun p => pPr tx n (4 * p + 3)) i.toNat)), some (.inl i)] [] ν (pI (fun z ν => sm (fun p => pPr tx n (4 * p + 3)) (pPe tx n).toNat = z ∧ Fr [44, 45, 46, 123, 124, 125] μ ν)) := by
  intro f
  induction f with
  | zero =>
    intro i h0 h1 hm
    exfalso; omega
  | succ f ih =>
    intro i h0 h1 hm
    obtain ⟨k1, k2, k3, k4, k5⟩ := id hR
    have hsu := sm_succ (f := fun p => pPr tx n (4 * p + 3)) h0
    have c135 : ν 135 0 = μ 135 0 := hF.at 135 rfl 0
    have c62 : ν 62 = μ 62 := hF.fn 62 rfl
    refine s_iload_3 (pc := 141) dX9_count_141 ?_
    refine s_aload_0 (pc := 142) dX9_count_142 ?_
    refine gfX9_126 (pc := 143) dX9_count_143 rfl ?_
    try rw [c135]
    try rw [c62]
    try rw [k1]
    try rw [k2]
    refine s_icmp_ge (pc := 146) 168 dX9_count_146 rfl (by omega) (by omega) (fun h146 => ?_) (fun h146 => ?_)
    · refine s_iload_2 (pc := 168) dX9_count_168 ?_
      refine s_ireturn (pc := 169) dX9_count_169 rfl ?_
      cases (show i = pPe tx n by omega)
      exact ⟨rfl, hF⟩
    · refine s_iload_2 (pc := 149) dX9_count_149 ?_
      refine s_aload_0 (pc := 150) dX9_count_150 ?_
      refine gfX9_25 (pc := 151) dX9_count_151 rfl ?_
      refine s_iconst_4 (pc := 154) dX9_count_154 ?_
      refine s_iload_3 (pc := 155) dX9_count_155 ?_
      refine s_imul (pc := 156) dX9_count_156 ?_
      refine s_iconst_3 (pc := 157) dX9_count_157 ?_
      refine s_iadd (pc := 158) dX9_count_158 ?_
      refine z_iaload (pc := 159) dX9_count_159 ly_44 (by omega) (by omega) ?_
      try rw [c135]
      try rw [c62]
      try rw [k1]
      try rw [k2]
      rw [k4 (4 * i + 3) (by omega) (by omega)]
      refine s_iadd (pc := 160) dX9_count_160 ?_
      refine s_istore_2 (pc := 161) dX9_count_161 (Nat.le_of_ble_eq_true rfl) rfl ?_
      refine s_iinc_3 (pc := 162) dX9_count_162 (Nat.le_of_ble_eq_true rfl) rfl ?_
      refine s_goto (pc := 165) 141 dX9_count_165 rfl ?_
      refine s_le ?_ (ih (i + 1) (by omega) (by omega) (by omega))
      rw [hsu]
      exact ⟨Or.inr rfl, Or.inr rfl, Or.inr rfl, Or.inr rfl, trivial⟩
theorem c_X9_count {tx : Int → Int} {n q : Int} {μ : Mem} (h_q : -2147483648 ≤ q ∧ q < 2147483648) (h135 : 0 ≤ μ 135 0 ∧ μ 135 0 ≤ 60) (e43 : μ 43 = tx) (e122 : μ 122 0 = n) (hn : 0 ≤ n ∧ n ≤ 60) (ht : ∀ k : Int, 0 ≤ k → k < n → 0 ≤ tx k ∧ tx k ≤ 255) : Mc kX9_count [.inr (.inr 9), .inl q] μ (pI (fun z ν => cnV tx n μ q = z ∧ Fr [44, 45, 46, 123, 124, 125] μ ν)) := by
  refine Mc_of (by decide +kernel) (fun _ => Nat.le_of_ble_eq_true rfl) ?_
  show AW kX9_count 0 [some (.inr (.inr 9)), some (.inl q), none, none] [] μ _
  refine s_iconst_0 (pc := 0) dX9_count_0 ?_
  refine s_istore_2 (pc := 1) dX9_count_1 (Nat.le_of_ble_eq_true rfl) rfl ?_
  refine s_aload_0 (pc := 2) dX9_count_2 ?_
  refine cV0i (pc := 3) (Ky := kX9_reads) dX9_count_3 rfl lnX9_155 okX9_reads ⟨9, TX9, 40, rfl, rfl⟩ ⟨Nat.le_of_ble_eq_true rfl, Nat.le_of_ble_eq_true rfl⟩ (Nat.le_of_ble_eq_true rfl) (c_X9_reads e43 e122 hn ht) ?_
  rintro _ ν3 ⟨rfl, hF3, hM3⟩
  obtain ⟨k1, k2, k3, k4, k5⟩ := id hM3
  have hpe := pPe_in (tx := tx) hn.1
  have hta := pTa_in (tx := tx) hn.1
  have c135 : ν3 135 0 = μ 135 0 := hF3.at 135 rfl 0
  refine s_pop (pc := 6) dX9_count_6 rfl ?_
  refine s_iload_1 (pc := 7) dX9_count_7 ?_
  by_cases hq : 0 ≤ q ∧ q ≤ 8
  · rcases (show q = 0 ∨ q = 1 ∨ q = 2 ∨ q = 3 ∨ q = 4 ∨ q = 5 ∨ q = 6 ∨ q = 7 ∨ q = 8 by omega) with rfl | rfl | rfl | rfl | rfl | rfl | rfl | rfl | rfl
    · refine s_tableIn (pc := 8) (off := 52) 60 dX9_count_8 (by decide) (by decide) (by decide) rfl rfl ?_
      refine s_aload_0 (pc := 60) dX9_count_60 ?_
      refine gfX9_126 (pc := 61) dX9_count_61 rfl ?_
      refine s_ireturn (pc := 64) dX9_count_64 rfl ?_
      exact ⟨k1.symm, hF3⟩
    · refine s_tableIn (pc := 8) (off := 57) 65 dX9_count_8 (by decide) (by decide) (by decide) rfl rfl ?_
      refine s_aload_0 (pc := 65) dX9_count_65 ?_
      refine gfX9_129 (pc := 66) dX9_count_66 rfl ?_
      refine s_ireturn (pc := 69) dX9_count_69 rfl ?_
      exact ⟨k2.symm, hF3⟩
    · refine s_tableIn (pc := 8) (off := 62) 70 dX9_count_8 (by decide) (by decide) (by decide) rfl rfl ?_
      refine s_aload_0 (pc := 70) dX9_count_70 ?_
      refine gfX9_120 (pc := 71) dX9_count_71 rfl ?_
      refine s_ireturn (pc := 74) dX9_count_74 rfl ?_
      exact ⟨((hF3.at 122 rfl 0).trans e122).symm, hF3⟩
    · refine s_tableIn (pc := 8) (off := 67) 75 dX9_count_8 (by decide) (by decide) (by decide) rfl rfl ?_
      refine s_iconst_0 (pc := 75) dX9_count_75 ?_
      refine s_istore_3 (pc := 76) dX9_count_76 (Nat.le_of_ble_eq_true rfl) rfl ?_
      exact lp_X9_count3 hM3 hF3 (by omega) 61 0 (by omega) (by omega) (by omega)
    · refine s_tableIn (pc := 8) (off := 94) 102 dX9_count_8 (by decide) (by decide) (by decide) rfl rfl ?_
      refine s_aload_0 (pc := 102) dX9_count_102 ?_
      refine gfX9_332 (pc := 103) dX9_count_103 rfl ?_
      refine s_ireturn (pc := 106) dX9_count_106 rfl ?_
      exact ⟨(hF3.at 135 rfl 0).symm, hF3⟩
    · refine s_tableIn (pc := 8) (off := 99) 107 dX9_count_8 (by decide) (by decide) (by decide) rfl rfl ?_
      refine s_iconst_0 (pc := 107) dX9_count_107 ?_
      refine s_istore_3 (pc := 108) dX9_count_108 (Nat.le_of_ble_eq_true rfl) rfl ?_
      exact lp_X9_count5 hM3 hF3 (by omega) 61 0 (by omega) (by omega) (by omega)
    · refine s_tableIn (pc := 8) (off := 126) 134 dX9_count_8 (by decide) (by decide) (by decide) rfl rfl ?_
      refine s_aload_0 (pc := 134) dX9_count_134 ?_
      refine cV0i (pc := 135) (Ky := kX9_allWeights) dX9_count_135 rfl lnX9_308 okX9_allWeights ⟨9, TX9, 40, rfl, rfl⟩ ⟨Nat.le_of_ble_eq_true rfl, Nat.le_of_ble_eq_true rfl⟩ (Nat.le_of_ble_eq_true rfl) (c_X9_allWeights) ?_
      rintro _ _ ⟨rfl, rfl⟩
      refine s_ireturn (pc := 138) dX9_count_138 rfl ?_
      exact ⟨by rw [hF3.fn 57 rfl]; rfl, hF3⟩
    · refine s_tableIn (pc := 8) (off := 131) 139 dX9_count_8 (by decide) (by decide) (by decide) rfl rfl ?_
      refine s_iconst_0 (pc := 139) dX9_count_139 ?_
      refine s_istore_3 (pc := 140) dX9_count_140 (Nat.le_of_ble_eq_true rfl) rfl ?_
      exact lp_X9_count7 hM3 hF3 (by omega) 61 0 (by omega) (by omega) (by omega)
    · refine s_tableIn (pc := 8) (off := 162) 170 dX9_count_8 (by decide) (by decide) (by decide) rfl rfl ?_
      refine s_aload_0 (pc := 170) dX9_count_170 ?_
      refine gfX9_93 (pc := 171) dX9_count_171 rfl ?_
      refine s_ireturn (pc := 174) dX9_count_174 rfl ?_
      exact ⟨(hF3.at 121 rfl 0).symm, hF3⟩
  · refine s_tableOut (pc := 8) 175 dX9_count_8 (by omega) (by omega) rfl ?_
    refine s_bipush (pc := 175) (z := -2) dX9_count_175 rfl ?_
    refine s_ireturn (pc := 177) dX9_count_177 rfl ?_
    exact ⟨by unfold cnV; rw [if_neg (by omega), if_neg (by omega), if_neg (by omega), if_neg (by omega), if_neg (by omega), if_neg (by omega), if_neg (by omega), if_neg (by omega), if_neg (by omega)], hF3⟩
