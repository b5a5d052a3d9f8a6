/-! ===== the class's orders ===== -/
theorem vd_all2 : ∀ T < 5, ∀ i < 256, (decide (ud ((T : Nat) : Int) ((i : Nat) : Int) T = 2 ^ T - 1) = decide (∀ m < T, dg T i ((m : Nat) : Int) < T ∧ bt (ud T i m) (dg T i m) = 0)) := by decide +kernel
theorem vd_iff {T i : Int} (hT : 0 ≤ T ∧ T ≤ 4) (hi : 0 ≤ i ∧ i < 256) : vd T i ↔ ∀ m : Int, 0 ≤ m → m < T → dg T i m < T ∧ bt (ud T i m.toNat) (dg T i m) = 0 := by
  have h := vd_all2 T.toNat (by omega) i.toNat (by omega)
  rw [show ((T.toNat : Nat) : Int) = T by omega, show ((i.toNat : Nat) : Int) = i by omega] at h
  have h2 := decide_eq_decide.mp h
  refine h2.trans ⟨fun q m m0 m1 => ?_, fun q m hm => ?_⟩
  · have := q m.toNat (by omega)
    rw [show ((m.toNat : Nat) : Int) = m by omega] at this
    exact this
  · have := q m (by omega) (by omega)
    rw [show ((m : Int)).toNat = m by omega] at this
    exact this
theorem p24 {k : Int} (h : 0 ≤ k ∧ k ≤ 4) : (2 : Int) ^ (2 * k).toNat = 4 ^ k.toNat := by
  rcases (show k = 0 ∨ k = 1 ∨ k = 2 ∨ k = 3 ∨ k = 4 by omega) with rfl | rfl | rfl | rfl | rfl <;> decide
theorem CR_g {κ ν : Mem} {g : Int → Int} {i : Int} (h : CR (wa κ 52 g) ν) (hk : KR κ) (hg : ∀ m : Int, 0 ≤ m → m < κ 125 0 → g m = κ 52 (dg (κ 125 0) i m)) : CR (wF κ i) ν := by
  have e : ∀ c, c ≠ 52 → wa κ 52 g c = κ c := fun c h => wa_nc h
  have e2 : ∀ c, c ≠ 52 → wF κ i c = κ c := fun c h => wF_o h
  have e52 : ∀ m : Int, m < κ 125 0 → wF κ i 52 m = κ 52 (dg (κ 125 0) i m) := fun m hm => by unfold wF; rw [wa_s, if_pos hm]
  unfold CR at h ⊢
  rw [e 129 (by decide), e 125 (by decide), e 126 (by decide), e 127 (by decide), e 128 (by decide), e 130 (by decide), e 49 (by decide), e 50 (by decide), e 51 (by decide), e 124 (by decide), e 44 (by decide)] at h
  rw [e2 129 (by decide), e2 125 (by decide), e2 126 (by decide), e2 127 (by decide), e2 128 (by decide), e2 130 (by decide), e2 49 (by decide), e2 50 (by decide), e2 51 (by decide), e2 124 (by decide), e2 44 (by decide)]
  obtain ⟨h0, h1, h2, h3, h4, h5, h6, h7, h8, h9⟩ := h
  refine ⟨hk.wa52 fun p p0 p1 => ?_, h1, h2, h3, h4, h5, h6, h7, fun j j0 j1 => ?_, h9⟩
  · have := wF_in hk (i := i) p0 p1
    unfold wF at this
    rwa [wa_s] at this
  · rw [e52 j j1, ← hg j j0 j1]
    have := h8 j j0 j1
    rwa [wa_s] at this
theorem CR_up {κ ν : Mem} {g : Int → Int} {j x : Int} (h : CR (wa κ 52 g) ν) (hx : 0 ≤ x ∧ x ≤ 9) : CR (wa κ 52 (fun m => if m = j then x else g m)) (wr ν 18 j x) := by
  have := h.w18 (p := j) hx
  rwa [wr_wa] at this
theorem lp_X4_setRow {κ : Mem} {n : Int} {μ : Mem} (hkr : KR κ) (hi : 0 ≤ n ∧ n < 256) (h30 : ∀ m : Int, 0 ≤ m → m < κ 125 0 → μ 30 m = κ 52 m) : ∀ (f : Nat) (j : Int) (g : Int → Int) (ν : Mem), (0 ≤ j) → (j ≤ κ 125 0) → (Fr [18, 29] μ ν) → (CR (wa κ 52 g) ν) → (∀ m : Int, 0 ≤ m → m < j → g m = κ 52 (dg (κ 125 0) n m)) → (∀ m : Int, 0 ≤ m → m < j → ν 29 m = dg (κ 125 0) n m) → (∀ m : Int, 0 ≤ m → m < j → dg (κ 125 0) n m < κ 125 0 ∧ bt (ud (κ 125 0) n m.toNat) (dg (κ 125 0) n m) = 0) → κ 125 0 - j < (f : Int) → AW kX4_setRow 4 [some (.inr (.inr 4)), some (.inl n), some (.inl (ud (κ 125 0) n j.toNat)), some (.inl j), none] [] ν (pI (fun z ν => (if vd (κ 125 0) n then 1 else 0) = z ∧ (∃ g, CR (wa κ 52 g) ν) ∧ (vd (κ 125 0) n → CR (wF κ n) ν ∧ ∀ m : Int, 0 ≤ m → m < κ 125 0 → ν 29 m = dg (κ 125 0) n m) ∧ Fr [18, 29] μ ν)) := by
  intro f
  induction f with
  | zero =>
    intro j g ν h0 h1 hF hC hg hr hok hm
    exfalso; omega
  | succ f ih =>
    intro j g ν h0 h1 hF hC hg hr hok hm
    have r125 := hkr.2.1
    have c106 : ν 106 0 = κ 125 0 := by have := hC.2.2.1; rwa [wa_n (by decide)] at this
    have hdi := dg_in (T := κ 125 0) (i := n) (j := j)
    have hui := ud_in (T := κ 125 0) (i := n) j.toNat
    have hvi := vd_iff (T := κ 125 0) (i := n) r125 hi
    have hbt := bt_in (b := ud (κ 125 0) n j.toNat) (k := dg (κ 125 0) n j)
    refine s_iload_3 (pc := 4) dX4_setRow_4 ?_
    refine s_aload_0 (pc := 5) dX4_setRow_5 ?_
    refine gfX4_27 (pc := 6) dX4_setRow_6 rfl ?_
    refine gfX4_65 (pc := 9) dX4_setRow_9 rfl ?_
    try simp (decide := true) only [wr_s, wr_n, wa_s, wa_n, mg_i, mg_o, if_true, eq_self, reduceIte]
    try rw [c106]
    refine s_icmp_ge (pc := 12) 94 dX4_setRow_12 rfl (by omega) (by omega) (fun h12 => ?_) (fun h12 => ?_)
    · refine s_iconst_1 (pc := 94) dX4_setRow_94 ?_
      refine s_zreturn (pc := 95) dX4_setRow_95 rfl (by omega) ?_
      cases (show j = κ 125 0 by omega)
      have hvd : vd (κ 125 0) n := hvi.mpr hok
      exact ⟨if_pos hvd, ⟨g, hC⟩, fun _ => ⟨CR_g hC hkr hg, hr⟩, hF⟩
    · have hp4 := p4_in (j := κ 125 0 - 1 - j) (by omega)
      have hdv : 0 ≤ n / (4 : Int) ^ (κ 125 0 - 1 - j).toNat ∧ n / (4 : Int) ^ (κ 125 0 - 1 - j).toNat ≤ n := ⟨Int.ediv_nonneg hi.1 (by omega), Int.ediv_le_self _ hi.1⟩
      refine s_iload_1 (pc := 15) dX4_setRow_15 ?_
      refine s_iconst_2 (pc := 16) dX4_setRow_16 ?_
      refine s_aload_0 (pc := 17) dX4_setRow_17 ?_
      refine gfX4_27 (pc := 18) dX4_setRow_18 rfl ?_
      refine gfX4_65 (pc := 21) dX4_setRow_21 rfl ?_
      try simp (decide := true) only [wr_s, wr_n, wa_s, wa_n, mg_i, mg_o, if_true, eq_self, reduceIte]
      try rw [c106]
      refine s_iconst_1 (pc := 24) dX4_setRow_24 ?_
      refine s_isub (pc := 25) dX4_setRow_25 ?_
      refine s_iload_3 (pc := 26) dX4_setRow_26 ?_
      refine s_isub (pc := 27) dX4_setRow_27 ?_
      refine s_imul (pc := 28) dX4_setRow_28 ?_
      refine s_ishr (pc := 29) dX4_setRow_29 ?_
      refine s_iconst_3 (pc := 30) dX4_setRow_30 ?_
      refine s_iand (pc := 31) dX4_setRow_31 ?_
      refine s_valI (y := dg (κ 125 0) n j) (by rw [shr_of (by omega) (by omega), p24 (by omega), and3 (by omega)]; rfl) ?_
      refine s_istore_4 (pc := 32) dX4_setRow_32 (Nat.le_of_ble_eq_true rfl) rfl ?_
      refine s_iload_4 (pc := 34) dX4_setRow_34 ?_
      refine s_aload_0 (pc := 36) dX4_setRow_36 ?_
      refine gfX4_27 (pc := 37) dX4_setRow_37 rfl ?_
      refine gfX4_65 (pc := 40) dX4_setRow_40 rfl ?_
      try simp (decide := true) only [wr_s, wr_n, wa_s, wa_n, mg_i, mg_o, if_true, eq_self, reduceIte]
      try rw [c106]
      refine s_icmp_ge (pc := 43) 55 dX4_setRow_43 rfl (by omega) (by omega) (fun h43 => ?_) (fun h43 => ?_)
      · have hnv : ¬ vd (κ 125 0) n := fun q => by have := (hvi.mp q j h0 (by omega)).1; omega
        refine s_iconst_0 (pc := 55) dX4_setRow_55 ?_
        refine s_zreturn (pc := 56) dX4_setRow_56 rfl (by omega) ?_
        exact ⟨if_neg hnv, ⟨g, hC⟩, fun q => absurd q hnv, hF⟩
      · refine s_iload_2 (pc := 46) dX4_setRow_46 ?_
        refine s_iload_4 (pc := 47) dX4_setRow_47 ?_
        refine cN2i (pc := 49) (Ky := kX8_hasBit) dX4_setRow_49 rfl nsX4_118 okX8_hasBit ⟨Nat.le_of_ble_eq_true rfl, Nat.le_of_ble_eq_true rfl⟩ (Nat.le_of_ble_eq_true rfl) (c_X8_hasBit (by omega) (by omega)) ?_
        rintro _ _ ⟨rfl, rfl⟩
        refine s_if_eq (pc := 52) 57 dX4_setRow_52 rfl (by omega) (fun h52 => ?_) (fun h52 => ?_)
        · refine s_iload_2 (pc := 57) dX4_setRow_57 ?_
          refine s_iconst_1 (pc := 58) dX4_setRow_58 ?_
          refine s_iload_4 (pc := 59) dX4_setRow_59 ?_
          refine s_ishl (pc := 61) dX4_setRow_61 ?_
          refine s_ior (pc := 62) dX4_setRow_62 ?_
          rw [← ud_succ h0]
          refine s_istore_2 (pc := 63) dX4_setRow_63 (Nat.le_of_ble_eq_true rfl) rfl ?_
          refine s_aload_0 (pc := 64) dX4_setRow_64 ?_
          refine gfX4_21 (pc := 65) dX4_setRow_65 rfl ?_
          refine s_iload_3 (pc := 68) dX4_setRow_68 ?_
          refine s_iload_4 (pc := 69) dX4_setRow_69 ?_
          refine z_iastore (pc := 71) dX4_setRow_71 ly_29 ip_29 (by omega) (by omega) ?_
          refine s_aload_0 (pc := 72) dX4_setRow_72 ?_
          refine gfX4_27 (pc := 73) dX4_setRow_73 rfl ?_
          refine gfX4_107 (pc := 76) dX4_setRow_76 rfl ?_
          refine s_iload_3 (pc := 79) dX4_setRow_79 ?_
          refine s_aload_0 (pc := 80) dX4_setRow_80 ?_
          refine gfX4_24 (pc := 81) dX4_setRow_81 rfl ?_
          refine s_iload_4 (pc := 84) dX4_setRow_84 ?_
          refine z_iaload (pc := 86) dX4_setRow_86 ly_30 (by omega) (by omega) ?_
          try simp (decide := true) only [wr_s, wr_n, wa_s, wa_n, mg_i, mg_o, if_true, eq_self, reduceIte]
          try rw [c106]
          rw [hF.at 30 rfl, h30 _ hdi.1 (by omega)]
          have rT := (hkr.2.2.2.2.2.2.1 (dg (κ 125 0) n j) hdi.1 hdi.2).2.2.2
          refine z_iastore (pc := 87) dX4_setRow_87 ly_18 ip_18 (by omega) (by omega) ?_
          refine s_iinc_3 (pc := 88) dX4_setRow_88 (Nat.le_of_ble_eq_true rfl) rfl ?_
          refine s_goto (pc := 91) 4 dX4_setRow_91 rfl ?_
          refine s_le ?_ (ih (j + 1) (fun m => if m = j then κ 52 (dg (κ 125 0) n j) else g m) _ (by omega) (by omega) ((hF.wr (by decide)).wr (by decide)) (CR_up (hC.fr ((Fr.rf (F := [29])).wr (by decide)) (by decide)) rT) (fun m m0 m1 => ?_) (fun m m0 m1 => ?_) (fun m m0 m1 => ?_) (by omega))
          · exact ⟨Or.inr rfl, Or.inr rfl, Or.inr rfl, Or.inr rfl, Or.inl rfl, trivial⟩
          · by_cases hm : m = j
            · rw [hm]; exact if_pos rfl
            · exact (if_neg hm).trans (hg m m0 (by omega))
          · rw [wr_n (by decide), wr_s]
            by_cases hm : m = j
            · rw [hm, if_pos rfl]
            · rw [if_neg hm]; exact hr m m0 (by omega)
          · by_cases hm : m = j
            · rw [hm]; exact ⟨by omega, h52⟩
            · exact hok m m0 (by omega)
        · have hnv : ¬ vd (κ 125 0) n := fun q => h52 (hvi.mp q j h0 (by omega)).2
          refine s_iconst_0 (pc := 55) dX4_setRow_55 ?_
          refine s_zreturn (pc := 56) dX4_setRow_56 rfl (by omega) ?_
          exact ⟨if_neg hnv, ⟨g, hC⟩, fun q => absurd q hnv, hF⟩
theorem c_X4_setRow {κ : Mem} {n : Int} {g : Int → Int} {μ : Mem} (hkr : KR κ) (hi : 0 ≤ n ∧ n < 256) (h30 : ∀ m : Int, 0 ≤ m → m < κ 125 0 → μ 30 m = κ 52 m) (hC : CR (wa κ 52 g) μ) : Mc kX4_setRow [.inr (.inr 4), .inl n] μ (pI (fun z ν => (if vd (κ 125 0) n then 1 else 0) = z ∧ (∃ g, CR (wa κ 52 g) ν) ∧ (vd (κ 125 0) n → CR (wF κ n) ν ∧ ∀ m : Int, 0 ≤ m → m < κ 125 0 → ν 29 m = dg (κ 125 0) n m) ∧ Fr [18, 29] μ ν)) := by
  refine Mc_of (by decide +kernel) (fun _ => Nat.le_of_ble_eq_true rfl) ?_
  show AW kX4_setRow 0 [some (.inr (.inr 4)), some (.inl n), none, none, none] [] μ _
  refine s_iconst_0 (pc := 0) dX4_setRow_0 ?_
  refine s_istore_2 (pc := 1) dX4_setRow_1 (Nat.le_of_ble_eq_true rfl) rfl ?_
  refine s_iconst_0 (pc := 2) dX4_setRow_2 ?_
  refine s_istore_3 (pc := 3) dX4_setRow_3 (Nat.le_of_ble_eq_true rfl) rfl ?_
  have r125 := hkr.2.1
  exact lp_X4_setRow hkr hi h30 5 0 g μ (by omega) (by omega) Fr.rf hC (fun m m0 m1 => by omega) (fun m m0 m1 => by omega) (fun m m0 m1 => by omega) (by omega)
theorem lp_X4_fo {κ : Mem} {p : Int} {μ : Mem} (hko : KO κ) (hp : 0 ≤ p ∧ p < κ 129 0) (h30 : ∀ m : Int, 0 ≤ m → m < κ 125 0 → μ 30 m = κ 52 m) : ∀ (f : Nat) (i w : Int) (g : Int → Int) (ν : Mem), (0 ≤ i) → (i ≤ (4 : Int) ^ (κ 125 0).toNat) → (Fr [18, 21, 22, 23, 24, 25, 28, 29, 111] μ ν) → (CR (wa κ 52 g) ν) → (((ordN κ p i.toNat).1 < 0 ∧ w = 9223372036854775807) ∨ (0 ≤ (ordN κ p i.toNat).1 ∧ (ordN κ p i.toNat).1 ≤ 6144 ^ (κ 125 0).toNat ∧ w = (ordN κ p i.toNat).1 ∧ ∀ j : Int, 0 ≤ j → j < κ 125 0 → ν 28 j = dg (κ 125 0) (ordN κ p i.toNat).2 j)) → (4 : Int) ^ (κ 125 0).toNat - i < (f : Int) → AW kX4_findOrder 31 [some (.inr (.inr 4)), some (.inl p), some (.inr (.inl w)), none, some (.inl i)] [] ν (pV (fun ν => (∀ j : Int, 0 ≤ j → j < κ 125 0 → ν 28 j = dg (κ 125 0) (ord κ p).2 j) ∧ Fr [18, 21, 22, 23, 24, 25, 28, 29, 111] μ ν)) := by
  intro f
  induction f with
  | zero =>
    intro i w g ν h0 h1 hF hC hw hm
    exfalso; omega
  | succ f ih =>
    intro i w g ν h0 h1 hF hC hw hm
    have hk1 := hko.1
    have r129 := hk1.1
    have r125 := hk1.2.1
    have h6 := p6144 hk1
    have hp4 := p4_in (j := κ 125 0) r125
    have c106 : ν 106 0 = κ 125 0 := by have := hC.2.2.1; rwa [wa_n (by decide)] at this
    have hsu := ordN_succ (κ := κ) (p := p) h0
    have hwi : 0 ≤ w ∧ w ≤ 9223372036854775807 := by rcases hw with ⟨q1, q2⟩ | ⟨q1, q2, q3, q4⟩ <;> omega
    have ham := wF_am hko (i := i) hp.1 hp.2
    refine s_iload_4 (pc := 31) dX4_findOrder_31 ?_
    refine s_iconst_1 (pc := 33) dX4_findOrder_33 ?_
    refine s_iconst_2 (pc := 34) dX4_findOrder_34 ?_
    refine s_aload_0 (pc := 35) dX4_findOrder_35 ?_
    refine gfX4_27 (pc := 36) dX4_findOrder_36 rfl ?_
    refine gfX4_65 (pc := 39) dX4_findOrder_39 rfl ?_
    try rw [c106]
    refine s_imul (pc := 42) dX4_findOrder_42 ?_
    refine s_ishl (pc := 43) dX4_findOrder_43 ?_
    rw [shl1 (by omega), p24 r125]
    refine s_icmp_ge (pc := 44) 107 dX4_findOrder_44 rfl (by omega) (by omega) (fun h44 => ?_) (fun h44 => ?_)
    · refine s_return (pc := 107) dX4_findOrder_107 rfl ?_
      have hie : i = (4 : Int) ^ (κ 125 0).toNat := by omega
      have hin : i.toNat = 4 ^ (κ 125 0).toNat := by rw [hie]; norm_cast
      rw [hin] at hw
      have hpo := ord_pos hko hp.1 hp.2
      unfold ord at hpo ⊢
      rcases hw with ⟨q1, q2⟩ | ⟨q1, q2, q3, q4⟩
      · omega
      · exact ⟨q4, hF⟩
    · refine s_aload_0 (pc := 47) dX4_findOrder_47 ?_
      refine s_iload_4 (pc := 48) dX4_findOrder_48 ?_
      refine cV1i (pc := 50) (Ky := kX4_setRow) dX4_findOrder_50 rfl lnX4_110 okX4_setRow ⟨4, TX4, 11, rfl, rfl⟩ ⟨Nat.le_of_ble_eq_true rfl, Nat.le_of_ble_eq_true rfl⟩ (Nat.le_of_ble_eq_true rfl) (c_X4_setRow (κ := κ) (g := g) hk1 (by omega) (fun m m0 m1 => by rw [hF.at 30 rfl]; exact h30 m m0 m1) hC) ?_
      rintro _ ν50 ⟨rfl, ⟨g50, hg50⟩, hv50, hF50⟩
      have hF5 : Fr [18, 21, 22, 23, 24, 25, 28, 29, 111] μ ν50 := hF.tr (hF50.mono (by decide))
      have e28 : ν50 28 = ν 28 := hF50.fn 28 rfl
      refine s_if_eq (pc := 53) 101 dX4_findOrder_53 rfl (by omega) (fun h53 => ?_) (fun h53 => ?_)
      · have hnv : ¬ vd (κ 125 0) i := fun q => by rw [if_pos q] at h53; exact absurd h53 (by decide)
        rw [if_neg (fun q => hnv q.1)] at hsu
        refine s_iinc_4 (pc := 101) dX4_findOrder_101 (Nat.le_of_ble_eq_true rfl) rfl ?_
        refine s_goto (pc := 104) 31 dX4_findOrder_104 rfl ?_
        first
          | (have _ := hnv
             refine s_le ?_ (ih (i + 1) w g50 ν50 (by omega) (by omega) hF5 hg50 (by rw [hsu, e28]; exact hw) (by omega))
             exact ⟨Or.inr rfl, Or.inr rfl, Or.inr rfl, Or.inl rfl, Or.inr rfl, trivial⟩
             done)
          | (have _ := hupF
             refine s_le ?_ (ih (i + 1) w _ ν60 (by omega) (by omega) hF6 hC57 (by rw [hsu, hF60.fn 28 rfl, e28]; exact hw) (by omega))
             exact ⟨Or.inr rfl, Or.inr rfl, Or.inr rfl, Or.inl rfl, Or.inr rfl, trivial⟩
             done)
          | (have _ := hupT
             refine s_le ?_ (ih (i + 1) (am (wF κ i) p) _ _ (by omega) (by omega) (hF6.wa (by decide)) (hC57.fr ((Fr.rf (F := [28])).wa (by decide)) (by decide)) ?_ (by omega))
             · exact ⟨Or.inr rfl, Or.inr rfl, Or.inr rfl, Or.inl rfl, Or.inr rfl, trivial⟩
             rw [hsu]
             refine Or.inr ⟨ham.1, ham.2, rfl, fun j j0 j1 => ?_⟩
             rw [wa_s, cpy, if_pos (by omega), show 0 + (j - 0) = j by omega, hF60.at 29 rfl j]
             exact hr50 j j0 j1)
      · have hvd : vd (κ 125 0) i := Decidable.byContradiction fun q => by rw [if_neg q] at h53; exact h53 rfl
        obtain ⟨hCw, hr50⟩ := hv50 hvd
        refine s_aload_0 (pc := 56) dX4_findOrder_56 ?_
        refine gfX4_31 (pc := 57) dX4_findOrder_57 rfl ?_
        refine cV0v (pc := 60) (Ky := kX0_play) dX4_findOrder_60 rfl lnX4_104 okX0_play ⟨0, TX0, 7, rfl, rfl⟩ ⟨Nat.le_of_ble_eq_true rfl, Nat.le_of_ble_eq_true rfl⟩ (Nat.le_of_ble_eq_true rfl) (c_X0_play hCw (wF_KO hko)) ?_
        rintro ν60 ⟨hP60, hF60⟩
        have hC57 := hCw.fr hF60 (by decide)
        have a25 : ν60 25 p = am (wF κ i) p := hP60.2 p hp.1 (by rw [wF_o (by decide)]; exact hp.2)
        have hF6 : Fr [18, 21, 22, 23, 24, 25, 28, 29, 111] μ ν60 := hF5.tr (hF60.mono (by decide))
        refine s_aload_0 (pc := 63) dX4_findOrder_63 ?_
        refine gfX4_31 (pc := 64) dX4_findOrder_64 rfl ?_
        refine gfX4_114 (pc := 67) dX4_findOrder_67 rfl ?_
        refine s_iload_1 (pc := 70) dX4_findOrder_70 ?_
        refine z_laload (pc := 71) dX4_findOrder_71 ly_25 (by omega) (by omega) ?_
        try rw [c106]
        rw [a25]
        refine s_lload_2 (pc := 72) dX4_findOrder_72 ?_
        refine s_lif_ge (pc := 73) 101 dX4_findOrder_73 dX4_findOrder_74 rfl (by omega) (by omega) (fun h74 => ?_) (fun h74 => ?_)
        · have hupF : ¬ (vd (κ 125 0) i ∧ ((ordN κ p i.toNat).1 < 0 ∨ am (wF κ i) p < (ordN κ p i.toNat).1)) := by
            rintro ⟨_, q⟩
            rcases hw with ⟨q1, q2⟩ | ⟨q1, q2, q3, q4⟩ <;> omega
          rw [if_neg hupF] at hsu
          refine s_iinc_4 (pc := 101) dX4_findOrder_101 (Nat.le_of_ble_eq_true rfl) rfl ?_
          refine s_goto (pc := 104) 31 dX4_findOrder_104 rfl ?_
          first
            | (have _ := hnv
               refine s_le ?_ (ih (i + 1) w g50 ν50 (by omega) (by omega) hF5 hg50 (by rw [hsu, e28]; exact hw) (by omega))
               exact ⟨Or.inr rfl, Or.inr rfl, Or.inr rfl, Or.inl rfl, Or.inr rfl, trivial⟩
               done)
            | (have _ := hupF
               refine s_le ?_ (ih (i + 1) w _ ν60 (by omega) (by omega) hF6 hC57 (by rw [hsu, hF60.fn 28 rfl, e28]; exact hw) (by omega))
               exact ⟨Or.inr rfl, Or.inr rfl, Or.inr rfl, Or.inl rfl, Or.inr rfl, trivial⟩
               done)
            | (have _ := hupT
               refine s_le ?_ (ih (i + 1) (am (wF κ i) p) _ _ (by omega) (by omega) (hF6.wa (by decide)) (hC57.fr ((Fr.rf (F := [28])).wa (by decide)) (by decide)) ?_ (by omega))
               · exact ⟨Or.inr rfl, Or.inr rfl, Or.inr rfl, Or.inl rfl, Or.inr rfl, trivial⟩
               rw [hsu]
               refine Or.inr ⟨ham.1, ham.2, rfl, fun j j0 j1 => ?_⟩
               rw [wa_s, cpy, if_pos (by omega), show 0 + (j - 0) = j by omega, hF60.at 29 rfl j]
               exact hr50 j j0 j1)
        · have hupT : vd (κ 125 0) i ∧ ((ordN κ p i.toNat).1 < 0 ∨ am (wF κ i) p < (ordN κ p i.toNat).1) := by
            refine ⟨hvd, ?_⟩
            rcases hw with ⟨q1, q2⟩ | ⟨q1, q2, q3, q4⟩
            · exact Or.inl q1
            · exact Or.inr (by omega)
          rw [if_pos hupT] at hsu
          refine s_aload_0 (pc := 77) dX4_findOrder_77 ?_
          refine gfX4_31 (pc := 78) dX4_findOrder_78 rfl ?_
          refine gfX4_114 (pc := 81) dX4_findOrder_81 rfl ?_
          refine s_iload_1 (pc := 84) dX4_findOrder_84 ?_
          refine z_laload (pc := 85) dX4_findOrder_85 ly_25 (by omega) (by omega) ?_
          try rw [c106]
          rw [a25]
          refine s_lstore_2 (pc := 86) dX4_findOrder_86 (Nat.le_of_ble_eq_true rfl) rfl ?_
          refine s_aload_0 (pc := 87) dX4_findOrder_87 ?_
          refine gfX4_21 (pc := 88) dX4_findOrder_88 rfl ?_
          refine s_iconst_0 (pc := 91) dX4_findOrder_91 ?_
          refine s_aload_0 (pc := 92) dX4_findOrder_92 ?_
          refine gfX4_18 (pc := 93) dX4_findOrder_93 rfl ?_
          refine s_iconst_0 (pc := 96) dX4_findOrder_96 ?_
          refine s_iconst_4 (pc := 97) dX4_findOrder_97 ?_
          refine z_copy (pc := 98) dX4_findOrder_98 rfl lnX4_95 ly_29 ly_28 ip_28 (Nat.le_of_ble_eq_true rfl) (Nat.le_of_ble_eq_true rfl) (by omega) (by omega) (by omega) (by omega) (by omega) ?_
          refine s_iinc_4 (pc := 101) dX4_findOrder_101 (Nat.le_of_ble_eq_true rfl) rfl ?_
          refine s_goto (pc := 104) 31 dX4_findOrder_104 rfl ?_
          first
            | (have _ := hnv
               refine s_le ?_ (ih (i + 1) w g50 ν50 (by omega) (by omega) hF5 hg50 (by rw [hsu, e28]; exact hw) (by omega))
               exact ⟨Or.inr rfl, Or.inr rfl, Or.inr rfl, Or.inl rfl, Or.inr rfl, trivial⟩
               done)
            | (have _ := hupF
               refine s_le ?_ (ih (i + 1) w _ ν60 (by omega) (by omega) hF6 hC57 (by rw [hsu, hF60.fn 28 rfl, e28]; exact hw) (by omega))
               exact ⟨Or.inr rfl, Or.inr rfl, Or.inr rfl, Or.inl rfl, Or.inr rfl, trivial⟩
               done)
            | (have _ := hupT
               refine s_le ?_ (ih (i + 1) (am (wF κ i) p) _ _ (by omega) (by omega) (hF6.wa (by decide)) (hC57.fr ((Fr.rf (F := [28])).wa (by decide)) (by decide)) ?_ (by omega))
               · exact ⟨Or.inr rfl, Or.inr rfl, Or.inr rfl, Or.inl rfl, Or.inr rfl, trivial⟩
               rw [hsu]
               refine Or.inr ⟨ham.1, ham.2, rfl, fun j j0 j1 => ?_⟩
               rw [wa_s, cpy, if_pos (by omega), show 0 + (j - 0) = j by omega, hF60.at 29 rfl j]
               exact hr50 j j0 j1)
theorem c_X4_findOrder {tx : Int → Int} {n p : Int} {hd lv : Int → Int} {μ : Mem} (hQ : RQ tx n μ) (hn : 0 ≤ n ∧ n ≤ 60) (e10 : μ 10 = hd) (e11 : μ 11 = lv) (hhd : ∀ p : Int, 0 ≤ p → p < 4 → 0 ≤ hd p ∧ hd p ≤ 15) (hlv : ∀ p : Int, 0 ≤ p → p < 4 → 0 ≤ lv p ∧ lv p ≤ 4) (hp : 0 ≤ p ∧ p < pPe tx n) : Mc kX4_findOrder [.inr (.inr 4), .inl p] μ (pV (fun ν => (∀ j : Int, 0 ≤ j → j < pTa tx n → ν 28 j = dg (pTa tx n) (ord (cfg tx n hd lv) p).2 j) ∧ Fr [17, 18, 19, 20, 21, 22, 23, 24, 25, 28, 29, 30, 105, 106, 107, 108, 109, 110, 111, 112, 113, 114] μ ν)) := by
  refine Mc_of (by decide +kernel) (fun _ => Nat.le_of_ble_eq_true rfl) ?_
  show AW kX4_findOrder 0 [some (.inr (.inr 4)), some (.inl p), none, none, none] [] μ _
  refine s_aload_0 (pc := 0) dX4_findOrder_0 ?_
  refine gfX4_27 (pc := 1) dX4_findOrder_1 rfl ?_
  refine cV0v (pc := 4) (Ky := kX1_gather) dX4_findOrder_4 rfl lnX4_35 okX1_gather ⟨1, TX1, 13, rfl, rfl⟩ ⟨Nat.le_of_ble_eq_true rfl, Nat.le_of_ble_eq_true rfl⟩ (Nat.le_of_ble_eq_true rfl) (c_X1_gather hQ hn e10 e11 hhd hlv) ?_
  rintro ν4 ⟨hC4, hF4⟩
  have hko := cfg_KO hC4.1 (by omega)
  have hta := pTa_in (tx := tx) hn.1
  refine s_aload_0 (pc := 7) dX4_findOrder_7 ?_
  refine gfX4_27 (pc := 8) dX4_findOrder_8 rfl ?_
  refine gfX4_107 (pc := 11) dX4_findOrder_11 rfl ?_
  refine s_iconst_0 (pc := 14) dX4_findOrder_14 ?_
  refine s_aload_0 (pc := 15) dX4_findOrder_15 ?_
  refine gfX4_24 (pc := 16) dX4_findOrder_16 rfl ?_
  refine s_iconst_0 (pc := 19) dX4_findOrder_19 ?_
  refine s_iconst_4 (pc := 20) dX4_findOrder_20 ?_
  refine z_copy (pc := 21) dX4_findOrder_21 rfl lnX4_95 ly_18 ly_30 ip_30 (Nat.le_of_ble_eq_true rfl) (Nat.le_of_ble_eq_true rfl) (by omega) (by omega) (by omega) (by omega) (by omega) ?_
  refine s_ldc2_w (pc := 24) dX4_findOrder_24 rfl cnX4_55 ?_
  refine s_lstore_2 (pc := 27) dX4_findOrder_27 (Nat.le_of_ble_eq_true rfl) rfl ?_
  refine s_iconst_0 (pc := 28) dX4_findOrder_28 ?_
  refine s_istore_4 (pc := 29) dX4_findOrder_29 (Nat.le_of_ble_eq_true rfl) rfl ?_
  have hp4 := p4_in (j := pTa tx n) hta
  have hid : wa (cfg tx n hd lv) 52 ((cfg tx n hd lv) 52) = (cfg tx n hd lv) := wa_self (fun _ => rfl)
  have hC21 : CR (cfg tx n hd lv) _ := hC4.fr (F := [30]) (Fr.rf.wa (c := 30) (f := cpy (ν4 18) (ν4 30) 0 0 4) (by decide)) (by decide)
  refine AW.mono (lp_X4_fo (κ := (cfg tx n hd lv)) (p := p) hko hp (fun m m0 m1 => ?_) 257 0 9223372036854775807 ((cfg tx n hd lv) 52) _ (by omega) (show (0 : Int) ≤ 4 ^ (pTa tx n).toNat by omega) Fr.rf (by rw [hid]; exact hC21) (Or.inl ⟨show (-1 : Int) < 0 by decide, rfl⟩) (show (4 : Int) ^ (pTa tx n).toNat - 0 < 257 by omega)) ?_
  · have hm : m < pTa tx n := m1
    have hc := hC4.2.2.2.2.2.2.2.2.1 m m0 m1
    rw [wa_s, cpy, if_pos (by omega), show 0 + (m - 0) = m by omega]
    exact hc
  rintro r ν ⟨hr, hO, hF2⟩
  exact ⟨hr, hO, ((hF4.mono (by decide)).tr (((Fr.rf (F := [30])).wa (c := 30) (by decide)).mono (by decide))).tr (hF2.mono (by decide))⟩
