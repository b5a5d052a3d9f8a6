/-! ===== the company over one write ===== -/
theorem CR.w107 {κ μ : Mem} {x : Int} (h : CR κ μ) (hx : 0 ≤ x ∧ x ≤ 2) : CR (wr κ 126 0 x) (wr μ 107 0 x) := by
  have e : ∀ c, c ≠ 126 → wr κ 126 0 x c = κ c := fun c h => wr_nc h
  have e' : ∀ c, c ≠ 107 → wr μ 107 0 x c = μ c := fun c h => wr_nc h
  unfold CR
  rw [e 129 (by decide), e 125 (by decide), e 127 (by decide), e 128 (by decide), e 130 (by decide), e 49 (by decide), e 50 (by decide), e 51 (by decide), e 52 (by decide), e 124 (by decide), e 44 (by decide), e' 105 (by decide), e' 106 (by decide), e' 108 (by decide), e' 109 (by decide), e' 110 (by decide), e' 17 (by decide), e' 18 (by decide), e' 19 (by decide), e' 20 (by decide)]
  exact ⟨h.1.w126 hx, h.2.1, h.2.2.1, (by rw [wr_s, wr_s, if_pos rfl, if_pos rfl]), h.2.2.2.2.1, h.2.2.2.2.2.1, h.2.2.2.2.2.2.1, h.2.2.2.2.2.2.2⟩
theorem CR.w108 {κ μ : Mem} {x : Int} (h : CR κ μ) (hx : 0 ≤ x ∧ x ≤ 2) : CR (wr κ 127 0 x) (wr μ 108 0 x) := by
  have e : ∀ c, c ≠ 127 → wr κ 127 0 x c = κ c := fun c h => wr_nc h
  have e' : ∀ c, c ≠ 108 → wr μ 108 0 x c = μ c := fun c h => wr_nc h
  unfold CR
  rw [e 129 (by decide), e 125 (by decide), e 126 (by decide), e 128 (by decide), e 130 (by decide), e 49 (by decide), e 50 (by decide), e 51 (by decide), e 52 (by decide), e 124 (by decide), e 44 (by decide), e' 105 (by decide), e' 106 (by decide), e' 107 (by decide), e' 109 (by decide), e' 110 (by decide), e' 17 (by decide), e' 18 (by decide), e' 19 (by decide), e' 20 (by decide)]
  exact ⟨h.1.w127 hx, h.2.1, h.2.2.1, h.2.2.2.1, (by rw [wr_s, wr_s, if_pos rfl, if_pos rfl]), h.2.2.2.2.2.1, h.2.2.2.2.2.2.1, h.2.2.2.2.2.2.2⟩
theorem CR.w109 {κ μ : Mem} {x : Int} (h : CR κ μ) (hx : 0 ≤ x ∧ x ≤ 3) : CR (wr κ 128 0 x) (wr μ 109 0 x) := by
  have e : ∀ c, c ≠ 128 → wr κ 128 0 x c = κ c := fun c h => wr_nc h
  have e' : ∀ c, c ≠ 109 → wr μ 109 0 x c = μ c := fun c h => wr_nc h
  unfold CR
  rw [e 129 (by decide), e 125 (by decide), e 126 (by decide), e 127 (by decide), e 130 (by decide), e 49 (by decide), e 50 (by decide), e 51 (by decide), e 52 (by decide), e 124 (by decide), e 44 (by decide), e' 105 (by decide), e' 106 (by decide), e' 107 (by decide), e' 108 (by decide), e' 110 (by decide), e' 17 (by decide), e' 18 (by decide), e' 19 (by decide), e' 20 (by decide)]
  exact ⟨h.1.w128 hx, h.2.1, h.2.2.1, h.2.2.2.1, h.2.2.2.2.1, (by rw [wr_s, wr_s, if_pos rfl, if_pos rfl]), h.2.2.2.2.2.2.1, h.2.2.2.2.2.2.2⟩
theorem CR.w110 {κ μ : Mem} {x : Int} (h : CR κ μ) (hx : 0 ≤ x ∧ x ≤ 15) : CR (wr κ 130 0 x) (wr μ 110 0 x) := by
  have e : ∀ c, c ≠ 130 → wr κ 130 0 x c = κ c := fun c h => wr_nc h
  have e' : ∀ c, c ≠ 110 → wr μ 110 0 x c = μ c := fun c h => wr_nc h
  unfold CR
  rw [e 129 (by decide), e 125 (by decide), e 126 (by decide), e 127 (by decide), e 128 (by decide), e 49 (by decide), e 50 (by decide), e 51 (by decide), e 52 (by decide), e 124 (by decide), e 44 (by decide), e' 105 (by decide), e' 106 (by decide), e' 107 (by decide), e' 108 (by decide), e' 109 (by decide), e' 17 (by decide), e' 18 (by decide), e' 19 (by decide), e' 20 (by decide)]
  exact ⟨h.1.w130 hx, h.2.1, h.2.2.1, h.2.2.2.1, h.2.2.2.2.1, h.2.2.2.2.2.1, (by rw [wr_s, wr_s, if_pos rfl, if_pos rfl]), h.2.2.2.2.2.2.2⟩
theorem CR.w19 {κ μ : Mem} {p x : Int} (h : CR κ μ) (hx : 0 ≤ x ∧ x ≤ 15) : CR (wr κ 49 p x) (wr μ 19 p x) := by
  have e : ∀ c, c ≠ 49 → wr κ 49 p x c = κ c := fun c h => wr_nc h
  have e' : ∀ c, c ≠ 19 → wr μ 19 p x c = μ c := fun c h => wr_nc h
  unfold CR
  rw [e 129 (by decide), e 125 (by decide), e 126 (by decide), e 127 (by decide), e 128 (by decide), e 130 (by decide), e 50 (by decide), e 51 (by decide), e 52 (by decide), e 124 (by decide), e 44 (by decide), e' 105 (by decide), e' 106 (by decide), e' 107 (by decide), e' 108 (by decide), e' 109 (by decide), e' 110 (by decide), e' 17 (by decide), e' 18 (by decide), e' 20 (by decide)]
  refine ⟨h.1.w49 hx, h.2.1, h.2.2.1, h.2.2.2.1, h.2.2.2.2.1, h.2.2.2.2.2.1, h.2.2.2.2.2.2.1, fun q q0 q1 => ⟨?_, (h.2.2.2.2.2.2.2.1 q q0 q1).2⟩, h.2.2.2.2.2.2.2.2⟩
  rw [wr_s, wr_s]
  split
  · rfl
  · exact (h.2.2.2.2.2.2.2.1 q q0 q1).1
theorem CR.w20 {κ μ : Mem} {p x : Int} (h : CR κ μ) (hx : 0 ≤ x ∧ x ≤ 4) : CR (wr κ 50 p x) (wr μ 20 p x) := by
  have e : ∀ c, c ≠ 50 → wr κ 50 p x c = κ c := fun c h => wr_nc h
  have e' : ∀ c, c ≠ 20 → wr μ 20 p x c = μ c := fun c h => wr_nc h
  unfold CR
  rw [e 129 (by decide), e 125 (by decide), e 126 (by decide), e 127 (by decide), e 128 (by decide), e 130 (by decide), e 49 (by decide), e 51 (by decide), e 52 (by decide), e 124 (by decide), e 44 (by decide), e' 105 (by decide), e' 106 (by decide), e' 107 (by decide), e' 108 (by decide), e' 109 (by decide), e' 110 (by decide), e' 17 (by decide), e' 18 (by decide), e' 19 (by decide)]
  refine ⟨h.1.w50 hx, h.2.1, h.2.2.1, h.2.2.2.1, h.2.2.2.2.1, h.2.2.2.2.2.1, h.2.2.2.2.2.2.1, fun q q0 q1 => ⟨(h.2.2.2.2.2.2.2.1 q q0 q1).1, ?_, (h.2.2.2.2.2.2.2.1 q q0 q1).2.2⟩, h.2.2.2.2.2.2.2.2⟩
  rw [wr_s, wr_s]
  split
  · rfl
  · exact (h.2.2.2.2.2.2.2.1 q q0 q1).2.1
theorem CR.w18 {κ μ : Mem} {p x : Int} (h : CR κ μ) (hx : 0 ≤ x ∧ x ≤ 9) : CR (wr κ 52 p x) (wr μ 18 p x) := by
  have e : ∀ c, c ≠ 52 → wr κ 52 p x c = κ c := fun c h => wr_nc h
  have e' : ∀ c, c ≠ 18 → wr μ 18 p x c = μ c := fun c h => wr_nc h
  unfold CR
  rw [e 129 (by decide), e 125 (by decide), e 126 (by decide), e 127 (by decide), e 128 (by decide), e 130 (by decide), e 49 (by decide), e 50 (by decide), e 51 (by decide), e 124 (by decide), e 44 (by decide), e' 105 (by decide), e' 106 (by decide), e' 107 (by decide), e' 108 (by decide), e' 109 (by decide), e' 110 (by decide), e' 17 (by decide), e' 19 (by decide), e' 20 (by decide)]
  refine ⟨h.1.w52 hx, h.2.1, h.2.2.1, h.2.2.2.1, h.2.2.2.2.1, h.2.2.2.2.2.1, h.2.2.2.2.2.2.1, h.2.2.2.2.2.2.2.1, fun i i0 i1 => ?_, h.2.2.2.2.2.2.2.2.2⟩
  rw [wr_s, wr_s]
  split
  · rfl
  · exact h.2.2.2.2.2.2.2.2.1 i i0 i1
theorem way_C {κ ν : Mem} {p L b b' : Int} (h : CR (way κ p L b) ν) (hb : 0 ≤ b' ∧ b' ≤ 15) : CR (way κ p L b') (wr ν 19 p b') := by
  have := h.w19 (p := p) hb
  rwa [way_49] at this
theorem way_C5 {κ ν : Mem} {p L L' b : Int} (h : CR (way κ p L b) ν) (hb : 0 ≤ L' ∧ L' ≤ 4) : CR (way κ p L' b) (wr ν 20 p L') := by
  have := h.w20 (p := p) hb
  rwa [way_50] at this
theorem SR.fr {κ μ ν : Mem} {i : Int} {F : List Nat} (hS : SR κ i μ) (hF : Fr F μ ν) (h : F.all (fun c => decide (c ∉ [23, 25, 111])) = true) : SR κ i ν := by
  have hc : ∀ c : Nat, c ∈ [23, 25, 111] → ν c = μ c := fun c h1 => by
    refine hF c (fun q => ?_)
    have := List.all_eq_true.mp h c q
    simp only [decide_eq_true_eq] at this
    exact this h1
  unfold SR
  rw [hc 23 (by decide), hc 25 (by decide), hc 111 (by decide)]
  exact hS
theorem shlL_of {x y : Int} (hx : 0 ≤ x ∧ x < 576460752303423488) (hy : 0 ≤ y ∧ y ≤ 4) : shlL x y = x * 2 ^ y.toNat := by
  have h : ∀ (k : Nat) (s : Int64), s.toBitVec.smod 64 = BitVec.ofNat 64 k → k ≤ 4 → (Int64.ofInt x <<< s).toInt = x * 2 ^ k := by
    intro k s hs hk
    have h1 : Int64.ofInt x <<< s = Int64.ofInt (x * 2 ^ k) := by
      apply Int64.toBitVec_inj.mp
      rw [Int64.toBitVec_shiftLeft, hs, Int64.toBitVec_ofInt, Int64.toBitVec_ofInt, BitVec.ofInt_mul, BitVec.shiftLeft_eq', BitVec.shiftLeft_eq_mul_twoPow]
      rcases (show k = 0 ∨ k = 1 ∨ k = 2 ∨ k = 3 ∨ k = 4 by omega) with rfl | rfl | rfl | rfl | rfl <;> rfl
    rw [h1, i64_toInt]
    rcases (show k = 0 ∨ k = 1 ∨ k = 2 ∨ k = 3 ∨ k = 4 by omega) with rfl | rfl | rfl | rfl | rfl <;> omega
  unfold shlL
  rcases (show y = 0 ∨ y = 1 ∨ y = 2 ∨ y = 3 ∨ y = 4 by omega) with rfl | rfl | rfl | rfl | rfl <;> exact h _ _ (by decide) (by decide)
/-- played: who has it, behind each tale, and the amounts -/
def PL (κ ν : Mem) : Prop := SR κ (κ 125 0) ν ∧ ∀ p : Int, 0 ≤ p → p < κ 129 0 → ν 25 p = am κ p
theorem PL.fr {κ μ ν : Mem} {F : List Nat} (hS : PL κ μ) (hF : Fr F μ ν) (h : F.all (fun c => decide (c ∉ [23, 25, 111])) = true) : PL κ ν := by
  refine ⟨hS.1.fr hF h, fun p p0 p1 => ?_⟩
  rw [hF 25 (fun q => ?_)]
  · exact hS.2 p p0 p1
  · have := List.all_eq_true.mp h 25 q
    simp (decide := true) at this
theorem lp_X0_finish {κ : Mem} {μ : Mem} (hC : CR κ μ) (hko : KO κ) (hS : SR κ (κ 125 0) μ) (hl : κ 126 0 ≠ 2) : ∀ (f : Nat) (p : Int) (ν : Mem), (0 ≤ p) → (p ≤ κ 129 0) → (Fr [25] μ ν) → (∀ q : Int, 0 ≤ q → q < p → ν 25 q = am κ q) → κ 129 0 - p < (f : Int) → AW kX0_finish 14 [some (.inr (.inr 3)), some (.inl p)] [] ν (pV (fun ν => PL κ ν ∧ Fr [25] μ ν)) := by
  intro f
  induction f with
  | zero =>
    intro p ν h0 h1 hF hv hm
    exfalso; omega
  | succ f ih =>
    intro p ν h0 h1 hF hv hm
    have hCν := hC.fr hF (by decide)
    have r129 := hC.1.1
    have r125 := hC.1.2.1
    have c105 := hCν.2.1
    have c106 := hCν.2.2.1
    refine s_iload_1 (pc := 14) dX0_finish_14 ?_
    refine s_aload_0 (pc := 15) dX0_finish_15 ?_
    refine gfX0_27 (pc := 16) dX0_finish_16 rfl ?_
    refine gfX0_91 (pc := 19) dX0_finish_19 rfl ?_
    try rw [c105]
    try rw [c106]
    refine s_icmp_ge (pc := 22) 61 dX0_finish_22 rfl (by omega) (by omega) (fun h22 => ?_) (fun h22 => ?_)
    · refine s_return (pc := 61) dX0_finish_61 rfl ?_
      cases (show p = κ 129 0 by omega)
      refine ⟨⟨⟨fun m p m0 m1 p0 p1 => ?_, ?_, fun q => absurd q hl⟩, hv⟩, hF⟩
      · rw [hF.at 23 rfl]; exact hS.1 m p m0 m1 p0 p1
      · rw [hF.at 111 rfl]; exact hS.2.1
    · refine s_aload_0 (pc := 25) dX0_finish_25 ?_
      refine gfX0_24 (pc := 26) dX0_finish_26 rfl ?_
      refine s_iload_1 (pc := 29) dX0_finish_29 ?_
      refine s_aload_0 (pc := 30) dX0_finish_30 ?_
      refine gfX0_18 (pc := 31) dX0_finish_31 rfl ?_
      refine s_iconst_4 (pc := 34) dX0_finish_34 ?_
      refine s_aload_0 (pc := 35) dX0_finish_35 ?_
      refine gfX0_27 (pc := 36) dX0_finish_36 rfl ?_
      refine gfX0_34 (pc := 39) dX0_finish_39 rfl ?_
      try rw [c105]
      try rw [c106]
      refine s_imul (pc := 42) dX0_finish_42 ?_
      refine s_iload_1 (pc := 43) dX0_finish_43 ?_
      refine s_iadd (pc := 44) dX0_finish_44 ?_
      refine z_laload (pc := 45) dX0_finish_45 ly_23 (by omega) (by omega) ?_
      try rw [c105]
      try rw [c106]
      rw [(hF.at 23 rfl _).trans (hS.1 (κ 125 0) p r125.1 (Int.le_refl _) h0 (by omega))]
      have how := ow_in hko (i := (κ 125 0).toNat) (by omega) h0 (show p < κ 129 0 by omega)
      have hp3 := p3072 (κ 125 0).toNat (by omega)
      refine s_aload_0 (pc := 46) dX0_finish_46 ?_
      refine gfX0_27 (pc := 47) dX0_finish_47 rfl ?_
      refine gfX0_34 (pc := 50) dX0_finish_50 rfl ?_
      try rw [c105]
      try rw [c106]
      refine s_lshl (pc := 53) dX0_finish_53 ?_
      rw [shlL_of (by omega) (by omega)]
      have ham : am κ p = ow κ (κ 125 0).toNat p * 2 ^ (κ 125 0).toNat := if_neg hl
      refine z_lastore (pc := 54) dX0_finish_54 ly_25 ip_25 (by omega) (by omega) ?_
      refine s_iinc_1 (pc := 55) dX0_finish_55 (Nat.le_of_ble_eq_true rfl) rfl ?_
      refine s_goto (pc := 58) 14 dX0_finish_58 rfl ?_
      refine s_le ?_ (ih (p + 1) _ (by omega) (by omega) (hF.wr (by decide)) (fun q q0 q1 => ?_) (by omega))
      · exact ⟨Or.inr rfl, Or.inr rfl, trivial⟩
      by_cases hq : q = p
      · rw [hq, wr_s, if_pos rfl, ham]
      · rw [wr_s, if_neg hq]; exact hv q q0 (by omega)
theorem c_X0_finish {κ : Mem} {μ : Mem} (hC : CR κ μ) (hko : KO κ) (hS : SR κ (κ 125 0) μ) : Mc kX0_finish [.inr (.inr 3)] μ (pV (fun ν => PL κ ν ∧ Fr [25] μ ν)) := by
  refine Mc_of (by decide +kernel) (fun _ => Nat.le_of_ble_eq_true rfl) ?_
  show AW kX0_finish 0 [some (.inr (.inr 3)), none] [] μ _
  have c107 : μ 107 0 = κ 126 0 := hC.2.2.2.1
  have r126 := hC.1.2.2.1
  have r129 := hC.1.1
  refine s_aload_0 (pc := 0) dX0_finish_0 ?_
  refine gfX0_27 (pc := 1) dX0_finish_1 rfl ?_
  refine gfX0_116 (pc := 4) dX0_finish_4 rfl ?_
  try rw [c107]
  refine s_iconst_2 (pc := 7) dX0_finish_7 ?_
  refine s_icmp_ne (pc := 8) 12 dX0_finish_8 rfl (by omega) (by omega) (fun h8 => ?_) (fun h8 => ?_)
  · refine s_iconst_0 (pc := 12) dX0_finish_12 ?_
    refine s_istore_1 (pc := 13) dX0_finish_13 (Nat.le_of_ble_eq_true rfl) rfl ?_
    exact lp_X0_finish hC hko hS (by omega) 5 0 μ (by omega) (by omega) Fr.rf (fun q q0 q1 => by omega) (by omega)
  · refine s_return (pc := 11) dX0_finish_11 rfl ?_
    exact ⟨⟨hS, fun p p0 p1 => by rw [hS.2.2 (by omega) p p0 p1, am, if_pos (by omega)]⟩, Fr.rf⟩
theorem lp_X0_play {κ : Mem} {μ : Mem} (hC : CR κ μ) (hko : KO κ) : ∀ (f : Nat) (i : Int) (ν : Mem), (0 ≤ i) → (i ≤ κ 125 0) → (Fr [21, 22, 23, 24, 25, 111] μ ν) → (SR κ i ν) → κ 125 0 - i < (f : Int) → AW kX0_play 6 [some (.inr (.inr 3)), some (.inl i)] [] ν (pV (fun ν => PL κ ν ∧ Fr [21, 22, 23, 24, 25, 111] μ ν)) := by
  intro f
  induction f with
  | zero =>
    intro i ν h0 h1 hF hS hm
    exfalso; omega
  | succ f ih =>
    intro i ν h0 h1 hF hS hm
    have hCν := hC.fr hF (by decide)
    have r129 := hC.1.1
    have r125 := hC.1.2.1
    have c106 := hCν.2.2.1
    refine s_iload_1 (pc := 6) dX0_play_6 ?_
    refine s_aload_0 (pc := 7) dX0_play_7 ?_
    refine gfX0_27 (pc := 8) dX0_play_8 rfl ?_
    refine gfX0_34 (pc := 11) dX0_play_11 rfl ?_
    try rw [c106]
    refine s_icmp_ge (pc := 14) 47 dX0_play_14 rfl (by omega) (by omega) (fun h14 => ?_) (fun h14 => ?_)
    · refine s_aload_0 (pc := 47) dX0_play_47 ?_
      cases (show i = κ 125 0 by omega)
      refine cV0v (pc := 48) (Ky := kX0_finish) dX0_play_48 rfl lnX0_75 okX0_finish ⟨0, TX0, 7, rfl, rfl⟩ ⟨Nat.le_of_ble_eq_true rfl, Nat.le_of_ble_eq_true rfl⟩ (Nat.le_of_ble_eq_true rfl) (c_X0_finish hCν hko hS) ?_
      rintro ν48 ⟨hP48, hF48⟩
      refine s_return (pc := 51) dX0_play_51 rfl ?_
      exact ⟨hP48, hF.tr (hF48.mono (by decide))⟩
    · refine s_aload_0 (pc := 17) dX0_play_17 ?_
      refine s_iload_1 (pc := 18) dX0_play_18 ?_
      refine cV1v (pc := 19) (Ky := kX0_split) dX0_play_19 rfl lnX0_64 okX0_split ⟨0, TX0, 7, rfl, rfl⟩ ⟨Nat.le_of_ble_eq_true rfl, Nat.le_of_ble_eq_true rfl⟩ (Nat.le_of_ble_eq_true rfl) (c_X0_split hCν (by omega)) ?_
      rintro ν19 ⟨hF19, hS19⟩
      refine s_aload_0 (pc := 22) dX0_play_22 ?_
      refine s_iconst_3 (pc := 23) dX0_play_23 ?_
      refine s_iload_1 (pc := 24) dX0_play_24 ?_
      refine s_imul (pc := 25) dX0_play_25 ?_
      refine s_iconst_0 (pc := 26) dX0_play_26 ?_
      refine s_iadd (pc := 27) dX0_play_27 ?_
      refine cV1v (pc := 28) (Ky := kX0_spread) dX0_play_28 rfl lnX0_68 okX0_spread ⟨0, TX0, 7, rfl, rfl⟩ ⟨Nat.le_of_ble_eq_true rfl, Nat.le_of_ble_eq_true rfl⟩ (Nat.le_of_ble_eq_true rfl) (c_X0_spread (k := 3 * i + 0) (i := i) (hCν.fr hF19 (by decide)) (by omega) (by omega) hS19) ?_
      rintro ν28 ⟨hF28, ho28, hv28, hp28⟩
      refine s_aload_0 (pc := 31) dX0_play_31 ?_
      refine s_iload_1 (pc := 32) dX0_play_32 ?_
      refine s_iconst_3 (pc := 33) dX0_play_33 ?_
      refine s_iload_1 (pc := 34) dX0_play_34 ?_
      refine s_imul (pc := 35) dX0_play_35 ?_
      refine s_iconst_0 (pc := 36) dX0_play_36 ?_
      refine s_iadd (pc := 37) dX0_play_37 ?_
      refine cV2v (pc := 38) (Ky := kX0_step) dX0_play_38 rfl lnX0_71 okX0_step ⟨0, TX0, 7, rfl, rfl⟩ ⟨Nat.le_of_ble_eq_true rfl, Nat.le_of_ble_eq_true rfl⟩ (Nat.le_of_ble_eq_true rfl) (c_X0_step (k := 3 * i + 0) (i := i) ((hCν.fr hF19 (by decide)).fr hF28 (by decide)) (by omega) (by omega) ((hS.fr hF19 (by decide)).fr hF28 (by decide)) hv28 hp28) ?_
      rintro ν38 ⟨hS38, hF38⟩
      refine s_iinc_1 (pc := 41) dX0_play_41 (Nat.le_of_ble_eq_true rfl) rfl ?_
      refine s_goto (pc := 44) 6 dX0_play_44 rfl ?_
      refine s_le ?_ (ih (i + 1) _ (by omega) (by omega) (((hF.tr (hF19.mono (by decide))).tr (hF28.mono (by decide))).tr (hF38.mono (by decide))) hS38 (by omega))
      exact ⟨Or.inr rfl, Or.inr rfl, trivial⟩
theorem c_X0_play {κ : Mem} {μ : Mem} (hC : CR κ μ) (hko : KO κ) : Mc kX0_play [.inr (.inr 3)] μ (pV (fun ν => PL κ ν ∧ Fr [21, 22, 23, 24, 25, 111] μ ν)) := by
  refine Mc_of (by decide +kernel) (fun _ => Nat.le_of_ble_eq_true rfl) ?_
  show AW kX0_play 0 [some (.inr (.inr 3)), none] [] μ _
  refine s_aload_0 (pc := 0) dX0_play_0 ?_
  refine cV0v (pc := 1) (Ky := kX0_begin) dX0_play_1 rfl lnX0_61 okX0_begin ⟨0, TX0, 7, rfl, rfl⟩ ⟨Nat.le_of_ble_eq_true rfl, Nat.le_of_ble_eq_true rfl⟩ (Nat.le_of_ble_eq_true rfl) (c_X0_begin hC) ?_
  rintro ν1 ⟨hS1, hF1⟩
  refine s_iconst_0 (pc := 4) dX0_play_4 ?_
  refine s_istore_1 (pc := 5) dX0_play_5 (Nat.le_of_ble_eq_true rfl) rfl ?_
  have r125 := hC.1.2.1
  exact lp_X0_play hC hko 5 0 ν1 (by omega) (by omega) (hF1.mono (by decide)) hS1 (by omega)
/-- which of the three weighed choices that is -/
def ch (κ : Mem) (p i : Int) : Int := if i < κ 50 p ∧ bt (κ 130 0) p = 0 then (if bt (κ 49 p) i = 1 then 1 else 0) else 2
def WP (κ : Mem) (p : Int) (μ : Mem) : Prop := ∀ i : Int, 0 ≤ i → i < κ 125 0 → μ 22 (5 * (3 * i + ch κ p i) + 4) = sty κ i ∧ ∀ q : Int, 0 ≤ q → q < κ 129 0 → μ 22 (5 * (3 * i + ch κ p i) + q) = pas κ i q
theorem lp_X0_replay {κ : Mem} {p : Int} {μ : Mem} (hC : CR κ μ) (hko : KO κ) (hp : 0 ≤ p ∧ p < κ 129 0) (hW : WP κ p μ) : ∀ (f : Nat) (i : Int) (ν : Mem), (0 ≤ i) → (i ≤ κ 125 0) → (Fr [23, 24, 25, 111] μ ν) → (SR κ i ν) → κ 125 0 - i < (f : Int) → AW kX0_replay 6 [some (.inr (.inr 3)), some (.inl p), some (.inl i), none] [] ν (pV (fun ν => PL κ ν ∧ Fr [23, 24, 25, 111] μ ν)) := by
  intro f
  induction f with
  | zero =>
    intro i ν h0 h1 hF hS hm
    exfalso; omega
  | succ f ih =>
    intro i ν h0 h1 hF hS hm
    have hCν := hC.fr hF (by decide)
    have r129 := hC.1.1
    have r125 := hC.1.2.1
    have c106 := hCν.2.2.1
    have c19 := (hCν.2.2.2.2.2.2.2.1 p hp.1 hp.2).1
    have r49 := (hC.1.2.2.2.2.2.2.1 p hp.1 (by omega)).1
    have hbt := bt_in (b := κ 49 p) (k := i)
    have hch : ch κ p i = if i < κ 50 p ∧ bt (κ 130 0) p = 0 then (if bt (κ 49 p) i = 1 then 1 else 0) else 2 := rfl
    have hci : 0 ≤ ch κ p i ∧ ch κ p i ≤ 2 := by rw [hch]; split <;> (try split) <;> omega
    refine s_iload_2 (pc := 6) dX0_replay_6 ?_
    refine s_aload_0 (pc := 7) dX0_replay_7 ?_
    refine gfX0_27 (pc := 8) dX0_replay_8 rfl ?_
    refine gfX0_34 (pc := 11) dX0_replay_11 rfl ?_
    try rw [c106]
    try rw [c19]
    refine s_icmp_ge (pc := 14) 71 dX0_replay_14 rfl (by omega) (by omega) (fun h14 => ?_) (fun h14 => ?_)
    · refine s_aload_0 (pc := 71) dX0_replay_71 ?_
      cases (show i = κ 125 0 by omega)
      refine cV0v (pc := 72) (Ky := kX0_finish) dX0_replay_72 rfl lnX0_75 okX0_finish ⟨0, TX0, 7, rfl, rfl⟩ ⟨Nat.le_of_ble_eq_true rfl, Nat.le_of_ble_eq_true rfl⟩ (Nat.le_of_ble_eq_true rfl) (c_X0_finish hCν hko hS) ?_
      rintro ν72 ⟨hP72, hF72⟩
      refine s_return (pc := 75) dX0_replay_75 rfl ?_
      exact ⟨hP72, hF.tr (hF72.mono (by decide))⟩
    · refine s_aload_0 (pc := 17) dX0_replay_17 ?_
      refine gfX0_27 (pc := 18) dX0_replay_18 rfl ?_
      refine gfX0_78 (pc := 21) dX0_replay_21 rfl ?_
      refine s_iload_1 (pc := 24) dX0_replay_24 ?_
      refine z_iaload (pc := 25) dX0_replay_25 ly_19 (by omega) (by omega) ?_
      try rw [c106]
      try rw [c19]
      refine s_iload_2 (pc := 26) dX0_replay_26 ?_
      refine cN2i (pc := 27) (Ky := kX8_hasBit) dX0_replay_27 rfl nsX0_84 okX8_hasBit ⟨Nat.le_of_ble_eq_true rfl, Nat.le_of_ble_eq_true rfl⟩ (Nat.le_of_ble_eq_true rfl) (c_X8_hasBit (by omega) (by omega)) ?_
      rintro _ _ ⟨rfl, rfl⟩
      refine s_if_eq (pc := 30) 37 dX0_replay_30 rfl (by omega) (fun h30 => ?_) (fun h30 => ?_)
      · refine s_iconst_0 (pc := 37) dX0_replay_37 ?_
        refine s_istore_3 (pc := 38) dX0_replay_38 (Nat.le_of_ble_eq_true rfl) rfl ?_
        refine s_aload_0 (pc := 39) dX0_replay_39 ?_
        refine s_iload_2 (pc := 40) dX0_replay_40 ?_
        refine s_iconst_3 (pc := 41) dX0_replay_41 ?_
        refine s_iload_2 (pc := 42) dX0_replay_42 ?_
        refine s_imul (pc := 43) dX0_replay_43 ?_
        refine s_aload_0 (pc := 44) dX0_replay_44 ?_
        refine gfX0_27 (pc := 45) dX0_replay_45 rfl ?_
        refine s_iload_1 (pc := 48) dX0_replay_48 ?_
        refine s_iload_2 (pc := 49) dX0_replay_49 ?_
        refine cV2i (pc := 50) (Ky := kX1_isThere) dX0_replay_50 rfl lnX0_88 okX1_isThere ⟨1, TX1, 13, rfl, rfl⟩ ⟨Nat.le_of_ble_eq_true rfl, Nat.le_of_ble_eq_true rfl⟩ (Nat.le_of_ble_eq_true rfl) (c_X1_isThere hCν hp (by omega)) ?_
        rintro _ _ ⟨rfl, rfl⟩
        refine s_if_eq (pc := 53) 60 dX0_replay_53 rfl (by omega) (fun h53 => ?_) (fun h53 => ?_)
        · have hth : ¬ (i < κ 50 p ∧ bt (κ 130 0) p = 0) := fun q => by rw [if_pos q] at h53; exact absurd h53 (by decide)
          rw [if_neg hth] at hch
          refine s_iconst_2 (pc := 60) dX0_replay_60 ?_
          refine s_iadd (pc := 61) dX0_replay_61 ?_
          refine s_valI (y := 3 * i + ch κ p i) (by omega) ?_
          have hWi := hW i h0 (by omega)
          refine cV2v (pc := 62) (Ky := kX0_step) dX0_replay_62 rfl lnX0_71 okX0_step ⟨0, TX0, 7, rfl, rfl⟩ ⟨Nat.le_of_ble_eq_true rfl, Nat.le_of_ble_eq_true rfl⟩ (Nat.le_of_ble_eq_true rfl) (c_X0_step (k := 3 * i + ch κ p i) (i := i) hCν (by omega) (by omega) hS ((hF.at 22 rfl _).trans hWi.1) (fun q q0 q1 => (hF.at 22 rfl _).trans (hWi.2 q q0 q1))) ?_
          rintro ν62 ⟨hS62, hF62⟩
          refine s_iinc_2 (pc := 65) dX0_replay_65 (Nat.le_of_ble_eq_true rfl) rfl ?_
          refine s_goto (pc := 68) 6 dX0_replay_68 rfl ?_
          refine s_le ?_ (ih (i + 1) _ (by omega) (by omega) (hF.tr (hF62.mono (by decide))) hS62 (by omega))
          exact ⟨Or.inr rfl, Or.inr rfl, Or.inr rfl, Or.inl rfl, trivial⟩
        · have hth : i < κ 50 p ∧ bt (κ 130 0) p = 0 := Decidable.byContradiction fun q => by rw [if_neg q] at h53; exact h53 rfl
          rw [if_pos hth] at hch
          first | rw [if_pos (by omega)] at hch | rw [if_neg (by omega)] at hch
          refine s_iload_3 (pc := 56) dX0_replay_56 ?_
          refine s_goto (pc := 57) 61 dX0_replay_57 rfl ?_
          refine s_iadd (pc := 61) dX0_replay_61 ?_
          refine s_valI (y := 3 * i + ch κ p i) (by omega) ?_
          have hWi := hW i h0 (by omega)
          refine cV2v (pc := 62) (Ky := kX0_step) dX0_replay_62 rfl lnX0_71 okX0_step ⟨0, TX0, 7, rfl, rfl⟩ ⟨Nat.le_of_ble_eq_true rfl, Nat.le_of_ble_eq_true rfl⟩ (Nat.le_of_ble_eq_true rfl) (c_X0_step (k := 3 * i + ch κ p i) (i := i) hCν (by omega) (by omega) hS ((hF.at 22 rfl _).trans hWi.1) (fun q q0 q1 => (hF.at 22 rfl _).trans (hWi.2 q q0 q1))) ?_
          rintro ν62 ⟨hS62, hF62⟩
          refine s_iinc_2 (pc := 65) dX0_replay_65 (Nat.le_of_ble_eq_true rfl) rfl ?_
          refine s_goto (pc := 68) 6 dX0_replay_68 rfl ?_
          refine s_le ?_ (ih (i + 1) _ (by omega) (by omega) (hF.tr (hF62.mono (by decide))) hS62 (by omega))
          exact ⟨Or.inr rfl, Or.inr rfl, Or.inr rfl, Or.inl rfl, trivial⟩
      · refine s_iconst_1 (pc := 33) dX0_replay_33 ?_
        refine s_goto (pc := 34) 38 dX0_replay_34 rfl ?_
        refine s_istore_3 (pc := 38) dX0_replay_38 (Nat.le_of_ble_eq_true rfl) rfl ?_
        refine s_aload_0 (pc := 39) dX0_replay_39 ?_
        refine s_iload_2 (pc := 40) dX0_replay_40 ?_
        refine s_iconst_3 (pc := 41) dX0_replay_41 ?_
        refine s_iload_2 (pc := 42) dX0_replay_42 ?_
        refine s_imul (pc := 43) dX0_replay_43 ?_
        refine s_aload_0 (pc := 44) dX0_replay_44 ?_
        refine gfX0_27 (pc := 45) dX0_replay_45 rfl ?_
        refine s_iload_1 (pc := 48) dX0_replay_48 ?_
        refine s_iload_2 (pc := 49) dX0_replay_49 ?_
        refine cV2i (pc := 50) (Ky := kX1_isThere) dX0_replay_50 rfl lnX0_88 okX1_isThere ⟨1, TX1, 13, rfl, rfl⟩ ⟨Nat.le_of_ble_eq_true rfl, Nat.le_of_ble_eq_true rfl⟩ (Nat.le_of_ble_eq_true rfl) (c_X1_isThere hCν hp (by omega)) ?_
        rintro _ _ ⟨rfl, rfl⟩
        refine s_if_eq (pc := 53) 60 dX0_replay_53 rfl (by omega) (fun h53 => ?_) (fun h53 => ?_)
        · have hth : ¬ (i < κ 50 p ∧ bt (κ 130 0) p = 0) := fun q => by rw [if_pos q] at h53; exact absurd h53 (by decide)
          rw [if_neg hth] at hch
          refine s_iconst_2 (pc := 60) dX0_replay_60 ?_
          refine s_iadd (pc := 61) dX0_replay_61 ?_
          refine s_valI (y := 3 * i + ch κ p i) (by omega) ?_
          have hWi := hW i h0 (by omega)
          refine cV2v (pc := 62) (Ky := kX0_step) dX0_replay_62 rfl lnX0_71 okX0_step ⟨0, TX0, 7, rfl, rfl⟩ ⟨Nat.le_of_ble_eq_true rfl, Nat.le_of_ble_eq_true rfl⟩ (Nat.le_of_ble_eq_true rfl) (c_X0_step (k := 3 * i + ch κ p i) (i := i) hCν (by omega) (by omega) hS ((hF.at 22 rfl _).trans hWi.1) (fun q q0 q1 => (hF.at 22 rfl _).trans (hWi.2 q q0 q1))) ?_
          rintro ν62 ⟨hS62, hF62⟩
          refine s_iinc_2 (pc := 65) dX0_replay_65 (Nat.le_of_ble_eq_true rfl) rfl ?_
          refine s_goto (pc := 68) 6 dX0_replay_68 rfl ?_
          refine s_le ?_ (ih (i + 1) _ (by omega) (by omega) (hF.tr (hF62.mono (by decide))) hS62 (by omega))
          exact ⟨Or.inr rfl, Or.inr rfl, Or.inr rfl, Or.inl rfl, trivial⟩
        · have hth : i < κ 50 p ∧ bt (κ 130 0) p = 0 := Decidable.byContradiction fun q => by rw [if_neg q] at h53; exact h53 rfl
          rw [if_pos hth] at hch
          first | rw [if_pos (by omega)] at hch | rw [if_neg (by omega)] at hch
          refine s_iload_3 (pc := 56) dX0_replay_56 ?_
          refine s_goto (pc := 57) 61 dX0_replay_57 rfl ?_
          refine s_iadd (pc := 61) dX0_replay_61 ?_
          refine s_valI (y := 3 * i + ch κ p i) (by omega) ?_
          have hWi := hW i h0 (by omega)
          refine cV2v (pc := 62) (Ky := kX0_step) dX0_replay_62 rfl lnX0_71 okX0_step ⟨0, TX0, 7, rfl, rfl⟩ ⟨Nat.le_of_ble_eq_true rfl, Nat.le_of_ble_eq_true rfl⟩ (Nat.le_of_ble_eq_true rfl) (c_X0_step (k := 3 * i + ch κ p i) (i := i) hCν (by omega) (by omega) hS ((hF.at 22 rfl _).trans hWi.1) (fun q q0 q1 => (hF.at 22 rfl _).trans (hWi.2 q q0 q1))) ?_
          rintro ν62 ⟨hS62, hF62⟩
          refine s_iinc_2 (pc := 65) dX0_replay_65 (Nat.le_of_ble_eq_true rfl) rfl ?_
          refine s_goto (pc := 68) 6 dX0_replay_68 rfl ?_
          refine s_le ?_ (ih (i + 1) _ (by omega) (by omega) (hF.tr (hF62.mono (by decide))) hS62 (by omega))
          exact ⟨Or.inr rfl, Or.inr rfl, Or.inr rfl, Or.inl rfl, trivial⟩
theorem c_X0_replay {κ : Mem} {p : Int} {μ : Mem} (hC : CR κ μ) (hko : KO κ) (hp : 0 ≤ p ∧ p < κ 129 0) (hW : WP κ p μ) : Mc kX0_replay [.inr (.inr 3), .inl p] μ (pV (fun ν => PL κ ν ∧ Fr [23, 24, 25, 111] μ ν)) := by
  refine Mc_of (by decide +kernel) (fun _ => Nat.le_of_ble_eq_true rfl) ?_
  show AW kX0_replay 0 [some (.inr (.inr 3)), some (.inl p), none, none] [] μ _
  refine s_aload_0 (pc := 0) dX0_replay_0 ?_
  refine cV0v (pc := 1) (Ky := kX0_begin) dX0_replay_1 rfl lnX0_61 okX0_begin ⟨0, TX0, 7, rfl, rfl⟩ ⟨Nat.le_of_ble_eq_true rfl, Nat.le_of_ble_eq_true rfl⟩ (Nat.le_of_ble_eq_true rfl) (c_X0_begin hC) ?_
  rintro ν1 ⟨hS1, hF1⟩
  refine s_iconst_0 (pc := 4) dX0_replay_4 ?_
  refine s_istore_2 (pc := 5) dX0_replay_5 (Nat.le_of_ble_eq_true rfl) rfl ?_
  have r125 := hC.1.2.1
  exact lp_X0_replay hC hko hp hW 5 0 ν1 (by omega) (by omega) (hF1.mono (by decide)) hS1 (by omega)
