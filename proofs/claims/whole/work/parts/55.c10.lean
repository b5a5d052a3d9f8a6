/-! ===== all that one may do at each tale, weighed once ===== -/
theorem sp_congr {κ κ' : Mem} {i : Int} (h1 : κ' 129 0 = κ 129 0) (h2 : κ' 127 0 = κ 127 0) (h : ∀ q : Int, 0 ≤ q → q < κ 129 0 → kq κ' q i = kq κ q i) : sty κ' i = sty κ i ∧ ∀ p, pas κ' i p = pas κ i p := by
  have hq : ∀ n : Nat, qk κ' i n = qk κ i n := fun n => by
    unfold qk
    rw [h1]
    split
    · exact h _ (by omega) (by assumption)
    · rfl
  have hw : ∀ b, ∀ n : Nat, wyN κ' i b n = wyN κ i b n := fun b n => by
    induction n with
    | zero => rfl
    | succ n ih => unfold wyN; rw [ih, hq]
  have hy : ∀ b, wy κ' i b = wy κ i b := fun b => hw b 4
  have hp : pP κ' = pP κ := by unfold pP; rw [h1]
  refine ⟨?_, fun p => ?_⟩
  · unfold sty styN
    rw [hp, h2]
    exact sm_congr fun b _ _ => by rw [hy]
  · unfold pas pasN
    rw [hp, h2]
    exact sm_congr fun b _ _ => by rw [hy]
def chw (κ : Mem) (p c : Int) : Mem := way κ p (if c = 2 then 0 else 4) (if c = 1 then 15 else 0)
theorem way_50e {κ : Mem} {p L b q : Int} : way κ p L b 50 q = if q = p then L else κ 50 q := by unfold way; rw [wr_n (by decide), wr_s]
theorem way_49e {κ : Mem} {p L b q : Int} : way κ p L b 49 q = if q = p then b else κ 49 q := by unfold way; rw [wr_s, wr_n (by decide)]
theorem way_kq {κ : Mem} {p L b q i : Int} : kq (way κ p L b) q i = if i < (if q = p then L else κ 50 q) ∧ bt (κ 130 0) q = 0 then qt (κ 51 q) (κ 52 i) (if i = 0 then 0 else κ 52 (i - 1) / 2) (bt (if q = p then b else κ 49 q) i) else 0 := by
  unfold kq
  rw [way_50e, way_49e, way_o (c := 130) (by decide) (by decide), way_o (c := 51) (by decide) (by decide), way_o (c := 52) (by decide) (by decide)]
theorem bt_15 {i : Int} (hi : 0 ≤ i ∧ i < 4) : bt 15 i = 1 := by
  rcases (show i = 0 ∨ i = 1 ∨ i = 2 ∨ i = 3 by omega) with rfl | rfl | rfl | rfl <;> decide
theorem ch_kq {κ : Mem} {p L b i q : Int} (hi : 0 ≤ i ∧ i < 4) : kq (chw κ p (ch (way κ p L b) p i)) q i = kq (way κ p L b) q i := by
  unfold chw
  rw [way_kq, way_kq]
  by_cases hq : q = p
  · rw [hq]
    simp only [eq_self, if_true]
    have hc : ch (way κ p L b) p i = if i < L ∧ bt (κ 130 0) p = 0 then (if bt b i = 1 then 1 else 0) else 2 := by
      unfold ch
      rw [way_50e, way_49e, way_o (c := 130) (by decide) (by decide), if_pos rfl, if_pos rfl]
    have hbt := bt_in (b := b) (k := i)
    by_cases hth : i < L ∧ bt (κ 130 0) p = 0
    · rw [if_pos hth] at hc
      rw [if_pos hth]
      by_cases hb : bt b i = 1
      · rw [if_pos hb] at hc
        rw [hc, if_neg (show ¬ (1 : Int) = 2 by decide), if_pos rfl, if_pos ⟨hi.2, hth.2⟩, bt_15 hi, hb]
      · rw [if_neg hb] at hc
        rw [hc, if_neg (show ¬ (0 : Int) = 2 by decide), if_neg (show ¬ (0 : Int) = 1 by decide), if_pos ⟨hi.2, hth.2⟩, bt_0, show bt b i = 0 by omega]
    · rw [if_neg hth] at hc
      rw [hc, if_pos rfl, if_neg (fun q => by have := q.1; omega), if_neg hth]
  · simp only [if_neg hq]
def WA (κ : Mem) (p : Int) (μ : Mem) : Prop := ∀ c : Int, 0 ≤ c → c ≤ 2 → ∀ j : Int, 0 ≤ j → j < κ 125 0 → μ 22 (5 * (3 * j + c) + 4) = sty (chw κ p c) j ∧ ∀ q : Int, 0 ≤ q → q < κ 129 0 → μ 22 (5 * (3 * j + c) + q) = pas (chw κ p c) j q
theorem WA.fr {κ μ ν : Mem} {p : Int} {F : List Nat} (hW : WA κ p μ) (hF : Fr F μ ν) (h : F.contains 22 = false) : WA κ p ν := by
  intro c c0 c1 j j0 j1
  have := hW c c0 c1 j j0 j1
  rw [hF.fn 22 h]
  exact this
theorem WA.wp {κ μ : Mem} {p L b : Int} (hk : KR κ) (hW : WA κ p μ) : WP (way κ p L b) p μ := by
  intro i i0 i1
  rw [way_o (by decide) (by decide)] at i1
  have r125 := hk.2.1
  have hci : 0 ≤ ch (way κ p L b) p i ∧ ch (way κ p L b) p i ≤ 2 := by unfold ch; split <;> (try split) <;> omega
  obtain ⟨h1, h2⟩ := hW (ch (way κ p L b) p i) hci.1 hci.2 i i0 i1
  have hs := sp_congr (κ := chw κ p (ch (way κ p L b) p i)) (κ' := way κ p L b) (i := i) (by unfold chw; rw [way_o (by decide) (by decide), way_o (by decide) (by decide)]) (by unfold chw; rw [way_o (by decide) (by decide), way_o (by decide) (by decide)]) (fun q _ _ => (ch_kq ⟨i0, by omega⟩).symm)
  refine ⟨h1.trans hs.1.symm, fun q q0 q1 => ?_⟩
  rw [way_o (by decide) (by decide)] at q1
  exact (h2 q q0 q1).trans (hs.2 q).symm
theorem CR_chw {κ ν : Mem} {p L b c v w : Int} (h : CR (way κ p L b) ν) (hv : v = if c = 1 then 15 else 0) (hw : w = if c = 2 then 0 else 4) : CR (chw κ p c) (wr (wr ν 19 p v) 20 p w) := by
  unfold chw
  rw [← hv, ← hw]
  exact way_C5 (way_C h (by omega)) (by omega)
theorem lp_X0_weigh2 {κ : Mem} {p c : Int} {μ : Mem} {post : Option AV → Mem → Prop} (hC : CR κ μ) (hc : 0 ≤ c ∧ c ≤ 2) (hk : ∀ ν, Fr [21, 22] μ ν → (∀ j d q : Int, d ≠ c → 0 ≤ d → d ≤ 2 → 0 ≤ q → q ≤ 4 → 0 ≤ j → ν 22 (5 * (3 * j + d) + q) = μ 22 (5 * (3 * j + d) + q)) → (∀ j : Int, 0 ≤ j → j < κ 125 0 → ν 22 (5 * (3 * j + c) + 4) = sty κ j ∧ ∀ q : Int, 0 ≤ q → q < κ 129 0 → ν 22 (5 * (3 * j + c) + q) = pas κ j q) → AW kX0_weighChoices 79 [some (.inr (.inr 3)), some (.inl p), some (.inl c), none] [] ν post) : ∀ (f : Nat) (i : Int) (ν : Mem), (0 ≤ i) → (i ≤ κ 125 0) → (Fr [21, 22] μ ν) → (∀ j d q : Int, d ≠ c → 0 ≤ d → d ≤ 2 → 0 ≤ q → q ≤ 4 → 0 ≤ j → ν 22 (5 * (3 * j + d) + q) = μ 22 (5 * (3 * j + d) + q)) → (∀ j : Int, 0 ≤ j → j < i → ν 22 (5 * (3 * j + c) + 4) = sty κ j ∧ ∀ q : Int, 0 ≤ q → q < κ 129 0 → ν 22 (5 * (3 * j + c) + q) = pas κ j q) → κ 125 0 - i < (f : Int) → AW kX0_weighChoices 48 [some (.inr (.inr 3)), some (.inl p), some (.inl c), some (.inl i)] [] ν (post) := by
  intro f
  induction f with
  | zero =>
    intro i ν h0 h1 hF hb hd hm
    exfalso; omega
  | succ f ih =>
    intro i ν h0 h1 hF hb hd hm
    have hCν := hC.fr hF (by decide)
    have r129 := hC.1.1
    have r125 := hC.1.2.1
    have c106 := hCν.2.2.1
    refine s_iload_3 (pc := 48) dX0_weighChoices_48 ?_
    refine s_aload_0 (pc := 49) dX0_weighChoices_49 ?_
    refine gfX0_27 (pc := 50) dX0_weighChoices_50 rfl ?_
    refine gfX0_34 (pc := 53) dX0_weighChoices_53 rfl ?_
    try rw [c106]
    refine s_icmp_ge (pc := 56) 79 dX0_weighChoices_56 rfl (by omega) (by omega) (fun h56 => ?_) (fun h56 => ?_)
    · cases (show i = κ 125 0 by omega)
      refine s_le ?_ (hk ν hF hb hd)
      exact ⟨Or.inr rfl, Or.inr rfl, Or.inr rfl, Or.inl rfl, trivial⟩
    · refine s_aload_0 (pc := 59) dX0_weighChoices_59 ?_
      refine s_iload_3 (pc := 60) dX0_weighChoices_60 ?_
      refine cV1v (pc := 61) (Ky := kX0_split) dX0_weighChoices_61 rfl lnX0_64 okX0_split ⟨0, TX0, 7, rfl, rfl⟩ ⟨Nat.le_of_ble_eq_true rfl, Nat.le_of_ble_eq_true rfl⟩ (Nat.le_of_ble_eq_true rfl) (c_X0_split hCν (by omega)) ?_
      rintro ν61 ⟨hF61, hS61⟩
      refine s_aload_0 (pc := 64) dX0_weighChoices_64 ?_
      refine s_iconst_3 (pc := 65) dX0_weighChoices_65 ?_
      refine s_iload_3 (pc := 66) dX0_weighChoices_66 ?_
      refine s_imul (pc := 67) dX0_weighChoices_67 ?_
      refine s_iload_2 (pc := 68) dX0_weighChoices_68 ?_
      refine s_iadd (pc := 69) dX0_weighChoices_69 ?_
      refine cV1v (pc := 70) (Ky := kX0_spread) dX0_weighChoices_70 rfl lnX0_68 okX0_spread ⟨0, TX0, 7, rfl, rfl⟩ ⟨Nat.le_of_ble_eq_true rfl, Nat.le_of_ble_eq_true rfl⟩ (Nat.le_of_ble_eq_true rfl) (c_X0_spread (k := 3 * i + c) (i := i) (hCν.fr hF61 (by decide)) (by omega) (by omega) hS61) ?_
      rintro ν70 ⟨hF70, ho70, hv70, hp70⟩
      refine s_iinc_3 (pc := 73) dX0_weighChoices_73 (Nat.le_of_ble_eq_true rfl) rfl ?_
      refine s_goto (pc := 76) 48 dX0_weighChoices_76 rfl ?_
      refine s_le ?_ (ih (i + 1) _ (by omega) (by omega) ((hF.tr (hF61.mono (by decide))).tr (hF70.mono (by decide))) (fun j d q d0 d1 d2 q0 q1 j0 => ?_) (fun j j0 j1 => ?_) (by omega))
      · exact ⟨Or.inr rfl, Or.inr rfl, Or.inr rfl, Or.inr rfl, trivial⟩
      · rw [ho70 _ (by omega), hF61.at 22 rfl]; exact hb j d q d0 d1 d2 q0 q1 j0
      · by_cases hj : j = i
        · rw [hj]; exact ⟨hv70, hp70⟩
        · have := hd j j0 (by omega)
          refine ⟨?_, fun q q0 q1 => ?_⟩
          · rw [ho70 _ (by omega), hF61.at 22 rfl]; exact this.1
          · rw [ho70 _ (by omega), hF61.at 22 rfl]; exact this.2 q q0 q1
theorem lp_X0_weigh1 {κ : Mem} {p : Int} {μ : Mem} (hkr : KR κ) (hp : 0 ≤ p ∧ p < κ 129 0) : ∀ (f : Nat) (c L b : Int) (ν : Mem), (0 ≤ c) → (c ≤ 3) → (Fr [19, 20, 21, 22] μ ν) → (CR (way κ p L b) ν) → (∀ d : Int, 0 ≤ d → d < c → ∀ j : Int, 0 ≤ j → j < κ 125 0 → ν 22 (5 * (3 * j + d) + 4) = sty (chw κ p d) j ∧ ∀ q : Int, 0 ≤ q → q < κ 129 0 → ν 22 (5 * (3 * j + d) + q) = pas (chw κ p d) j q) → 3 - c < (f : Int) → AW kX0_weighChoices 2 [some (.inr (.inr 3)), some (.inl p), some (.inl c), none] [] ν (pV (fun ν => (∃ L b, CR (way κ p L b) ν) ∧ WA κ p ν ∧ Fr [19, 20, 21, 22] μ ν)) := by
  intro f
  induction f with
  | zero =>
    intro c L b ν h0 h1 hF hC hd hm
    exfalso; omega
  | succ f ih =>
    intro c L b ν h0 h1 hF hC hd hm
    have r129 := hkr.1
    have r125 := hkr.2.1
    have e125 : chw κ p c 125 0 = κ 125 0 := by unfold chw; rw [way_o (by decide) (by decide)]
    have e129 : chw κ p c 129 0 = κ 129 0 := by unfold chw; rw [way_o (by decide) (by decide)]
    refine s_iload_2 (pc := 2) dX0_weighChoices_2 ?_
    refine s_iconst_2 (pc := 3) dX0_weighChoices_3 ?_
    refine s_icmp_gt (pc := 4) 85 dX0_weighChoices_4 rfl (by omega) (by omega) (fun h4 => ?_) (fun h4 => ?_)
    · refine s_return (pc := 85) dX0_weighChoices_85 rfl ?_
      exact ⟨⟨L, b, hC⟩, fun d d0 d1 j j0 j1 => hd d d0 (by omega) j j0 j1, hF⟩
    · refine s_aload_0 (pc := 7) dX0_weighChoices_7 ?_
      refine gfX0_27 (pc := 8) dX0_weighChoices_8 rfl ?_
      refine gfX0_78 (pc := 11) dX0_weighChoices_11 rfl ?_
      refine s_iload_1 (pc := 14) dX0_weighChoices_14 ?_
      refine s_iload_2 (pc := 15) dX0_weighChoices_15 ?_
      refine s_iconst_1 (pc := 16) dX0_weighChoices_16 ?_
      refine s_icmp_ne (pc := 17) 25 dX0_weighChoices_17 rfl (by omega) (by omega) (fun h17 => ?_) (fun h17 => ?_)
      · refine s_iconst_0 (pc := 25) dX0_weighChoices_25 ?_
        refine z_iastore (pc := 26) dX0_weighChoices_26 ly_19 ip_19 (by omega) (by omega) ?_
        refine s_aload_0 (pc := 27) dX0_weighChoices_27 ?_
        refine gfX0_27 (pc := 28) dX0_weighChoices_28 rfl ?_
        refine gfX0_81 (pc := 31) dX0_weighChoices_31 rfl ?_
        refine s_iload_1 (pc := 34) dX0_weighChoices_34 ?_
        refine s_iload_2 (pc := 35) dX0_weighChoices_35 ?_
        refine s_iconst_2 (pc := 36) dX0_weighChoices_36 ?_
        refine s_icmp_ne (pc := 37) 44 dX0_weighChoices_37 rfl (by omega) (by omega) (fun h37 => ?_) (fun h37 => ?_)
        · refine s_iconst_4 (pc := 44) dX0_weighChoices_44 ?_
          refine z_iastore (pc := 45) dX0_weighChoices_45 ly_20 ip_20 (by omega) (by omega) ?_
          refine s_iconst_0 (pc := 46) dX0_weighChoices_46 ?_
          refine s_istore_3 (pc := 47) dX0_weighChoices_47 (Nat.le_of_ble_eq_true rfl) rfl ?_
          by_cases hcc : c ≠ 1 ∧ c ≠ 2
          · have hv : (0 : Int) = if c = 1 then 15 else 0 := by omega
            have hw : (4 : Int) = if c = 2 then 0 else 4 := by omega
            refine s_le ?_ (lp_X0_weigh2 (κ := chw κ p c) (p := p) (c := c) (μ := wr (wr ν 19 p 0) 20 p 4) (CR_chw (c := c) hC hv hw) (by omega) ?_ 5 0 (wr (wr ν 19 p 0) 20 p 4) (by omega) (by rw [e125]; omega) Fr.rf (fun j d q _ _ _ _ _ _ => rfl) (fun j j0 j1 => by omega) (by rw [e125]; omega))
            · exact ⟨Or.inr rfl, Or.inr rfl, Or.inr rfl, Or.inr rfl, trivial⟩
            intro ν2 hF2 hb2 hd2
            have hCc := (CR_chw (c := c) hC hv hw).fr hF2 (by decide)
            have hFn : Fr [19, 20, 21, 22] μ ν2 := ((hF.wr (by decide)).wr (by decide)).tr (hF2.mono (by decide))
            have hdn : ∀ d : Int, 0 ≤ d → d < c → ∀ j : Int, 0 ≤ j → j < κ 125 0 → ν2 22 (5 * (3 * j + d) + 4) = sty (chw κ p d) j ∧ ∀ q : Int, 0 ≤ q → q < κ 129 0 → ν2 22 (5 * (3 * j + d) + q) = pas (chw κ p d) j q := fun d d0 d1 j j0 j1 => by
              have := hd d d0 d1 j j0 j1
              refine ⟨?_, fun q q0 q1 => ?_⟩
              · rw [hb2 j d 4 (by omega) d0 (by omega) (by omega) (by omega) j0, wr_n (by decide), wr_n (by decide)]; exact this.1
              · rw [hb2 j d q (by omega) d0 (by omega) q0 (by omega) j0, wr_n (by decide), wr_n (by decide)]; exact this.2 q q0 q1
            rw [e125, e129] at hd2
            refine s_iinc_2 (pc := 79) dX0_weighChoices_79 (Nat.le_of_ble_eq_true rfl) rfl ?_
            refine s_goto (pc := 82) 2 dX0_weighChoices_82 rfl ?_
            refine s_le ?_ (ih (c + 1) _ _ _ (by omega) (by omega) hFn hCc (fun d d0 d1 j j0 j1 => ?_) (by omega))
            · exact ⟨Or.inr rfl, Or.inr rfl, Or.inr rfl, Or.inl rfl, trivial⟩
            by_cases hdc : d = c
            · rw [hdc]; exact hd2 j j0 j1
            · exact hdn d d0 (by omega) j j0 j1
          · exfalso; omega
        · refine s_iconst_0 (pc := 40) dX0_weighChoices_40 ?_
          refine s_goto (pc := 41) 45 dX0_weighChoices_41 rfl ?_
          refine z_iastore (pc := 45) dX0_weighChoices_45 ly_20 ip_20 (by omega) (by omega) ?_
          refine s_iconst_0 (pc := 46) dX0_weighChoices_46 ?_
          refine s_istore_3 (pc := 47) dX0_weighChoices_47 (Nat.le_of_ble_eq_true rfl) rfl ?_
          by_cases hcc : c = 2
          · have hv : (0 : Int) = if c = 1 then 15 else 0 := by omega
            have hw : (0 : Int) = if c = 2 then 0 else 4 := by omega
            refine s_le ?_ (lp_X0_weigh2 (κ := chw κ p c) (p := p) (c := c) (μ := wr (wr ν 19 p 0) 20 p 0) (CR_chw (c := c) hC hv hw) (by omega) ?_ 5 0 (wr (wr ν 19 p 0) 20 p 0) (by omega) (by rw [e125]; omega) Fr.rf (fun j d q _ _ _ _ _ _ => rfl) (fun j j0 j1 => by omega) (by rw [e125]; omega))
            · exact ⟨Or.inr rfl, Or.inr rfl, Or.inr rfl, Or.inr rfl, trivial⟩
            intro ν2 hF2 hb2 hd2
            have hCc := (CR_chw (c := c) hC hv hw).fr hF2 (by decide)
            have hFn : Fr [19, 20, 21, 22] μ ν2 := ((hF.wr (by decide)).wr (by decide)).tr (hF2.mono (by decide))
            have hdn : ∀ d : Int, 0 ≤ d → d < c → ∀ j : Int, 0 ≤ j → j < κ 125 0 → ν2 22 (5 * (3 * j + d) + 4) = sty (chw κ p d) j ∧ ∀ q : Int, 0 ≤ q → q < κ 129 0 → ν2 22 (5 * (3 * j + d) + q) = pas (chw κ p d) j q := fun d d0 d1 j j0 j1 => by
              have := hd d d0 d1 j j0 j1
              refine ⟨?_, fun q q0 q1 => ?_⟩
              · rw [hb2 j d 4 (by omega) d0 (by omega) (by omega) (by omega) j0, wr_n (by decide), wr_n (by decide)]; exact this.1
              · rw [hb2 j d q (by omega) d0 (by omega) q0 (by omega) j0, wr_n (by decide), wr_n (by decide)]; exact this.2 q q0 q1
            rw [e125, e129] at hd2
            refine s_iinc_2 (pc := 79) dX0_weighChoices_79 (Nat.le_of_ble_eq_true rfl) rfl ?_
            refine s_goto (pc := 82) 2 dX0_weighChoices_82 rfl ?_
            refine s_le ?_ (ih (c + 1) _ _ _ (by omega) (by omega) hFn hCc (fun d d0 d1 j j0 j1 => ?_) (by omega))
            · exact ⟨Or.inr rfl, Or.inr rfl, Or.inr rfl, Or.inl rfl, trivial⟩
            by_cases hdc : d = c
            · rw [hdc]; exact hd2 j j0 j1
            · exact hdn d d0 (by omega) j j0 j1
          · exfalso; omega
      · refine s_bipush (pc := 20) (z := 15) dX0_weighChoices_20 rfl ?_
        refine s_goto (pc := 22) 26 dX0_weighChoices_22 rfl ?_
        refine z_iastore (pc := 26) dX0_weighChoices_26 ly_19 ip_19 (by omega) (by omega) ?_
        refine s_aload_0 (pc := 27) dX0_weighChoices_27 ?_
        refine gfX0_27 (pc := 28) dX0_weighChoices_28 rfl ?_
        refine gfX0_81 (pc := 31) dX0_weighChoices_31 rfl ?_
        refine s_iload_1 (pc := 34) dX0_weighChoices_34 ?_
        refine s_iload_2 (pc := 35) dX0_weighChoices_35 ?_
        refine s_iconst_2 (pc := 36) dX0_weighChoices_36 ?_
        refine s_icmp_ne (pc := 37) 44 dX0_weighChoices_37 rfl (by omega) (by omega) (fun h37 => ?_) (fun h37 => ?_)
        · refine s_iconst_4 (pc := 44) dX0_weighChoices_44 ?_
          refine z_iastore (pc := 45) dX0_weighChoices_45 ly_20 ip_20 (by omega) (by omega) ?_
          refine s_iconst_0 (pc := 46) dX0_weighChoices_46 ?_
          refine s_istore_3 (pc := 47) dX0_weighChoices_47 (Nat.le_of_ble_eq_true rfl) rfl ?_
          by_cases hcc : c = 1
          · have hv : (15 : Int) = if c = 1 then 15 else 0 := by omega
            have hw : (4 : Int) = if c = 2 then 0 else 4 := by omega
            refine s_le ?_ (lp_X0_weigh2 (κ := chw κ p c) (p := p) (c := c) (μ := wr (wr ν 19 p 15) 20 p 4) (CR_chw (c := c) hC hv hw) (by omega) ?_ 5 0 (wr (wr ν 19 p 15) 20 p 4) (by omega) (by rw [e125]; omega) Fr.rf (fun j d q _ _ _ _ _ _ => rfl) (fun j j0 j1 => by omega) (by rw [e125]; omega))
            · exact ⟨Or.inr rfl, Or.inr rfl, Or.inr rfl, Or.inr rfl, trivial⟩
            intro ν2 hF2 hb2 hd2
            have hCc := (CR_chw (c := c) hC hv hw).fr hF2 (by decide)
            have hFn : Fr [19, 20, 21, 22] μ ν2 := ((hF.wr (by decide)).wr (by decide)).tr (hF2.mono (by decide))
            have hdn : ∀ d : Int, 0 ≤ d → d < c → ∀ j : Int, 0 ≤ j → j < κ 125 0 → ν2 22 (5 * (3 * j + d) + 4) = sty (chw κ p d) j ∧ ∀ q : Int, 0 ≤ q → q < κ 129 0 → ν2 22 (5 * (3 * j + d) + q) = pas (chw κ p d) j q := fun d d0 d1 j j0 j1 => by
              have := hd d d0 d1 j j0 j1
              refine ⟨?_, fun q q0 q1 => ?_⟩
              · rw [hb2 j d 4 (by omega) d0 (by omega) (by omega) (by omega) j0, wr_n (by decide), wr_n (by decide)]; exact this.1
              · rw [hb2 j d q (by omega) d0 (by omega) q0 (by omega) j0, wr_n (by decide), wr_n (by decide)]; exact this.2 q q0 q1
            rw [e125, e129] at hd2
            refine s_iinc_2 (pc := 79) dX0_weighChoices_79 (Nat.le_of_ble_eq_true rfl) rfl ?_
            refine s_goto (pc := 82) 2 dX0_weighChoices_82 rfl ?_
            refine s_le ?_ (ih (c + 1) _ _ _ (by omega) (by omega) hFn hCc (fun d d0 d1 j j0 j1 => ?_) (by omega))
            · exact ⟨Or.inr rfl, Or.inr rfl, Or.inr rfl, Or.inl rfl, trivial⟩
            by_cases hdc : d = c
            · rw [hdc]; exact hd2 j j0 j1
            · exact hdn d d0 (by omega) j j0 j1
          · exfalso; omega
        · refine s_iconst_0 (pc := 40) dX0_weighChoices_40 ?_
          refine s_goto (pc := 41) 45 dX0_weighChoices_41 rfl ?_
          refine z_iastore (pc := 45) dX0_weighChoices_45 ly_20 ip_20 (by omega) (by omega) ?_
          refine s_iconst_0 (pc := 46) dX0_weighChoices_46 ?_
          refine s_istore_3 (pc := 47) dX0_weighChoices_47 (Nat.le_of_ble_eq_true rfl) rfl ?_
          exfalso; omega
theorem c_X0_weighChoices {κ : Mem} {p : Int} {μ : Mem} (hC : CR κ μ) (hp : 0 ≤ p ∧ p < κ 129 0) : Mc kX0_weighChoices [.inr (.inr 3), .inl p] μ (pV (fun ν => (∃ L b, CR (way κ p L b) ν) ∧ WA κ p ν ∧ Fr [19, 20, 21, 22] μ ν)) := by
  refine Mc_of (by decide +kernel) (fun _ => Nat.le_of_ble_eq_true rfl) ?_
  show AW kX0_weighChoices 0 [some (.inr (.inr 3)), some (.inl p), none, none] [] μ _
  refine s_iconst_0 (pc := 0) dX0_weighChoices_0 ?_
  refine s_istore_2 (pc := 1) dX0_weighChoices_1 (Nat.le_of_ble_eq_true rfl) rfl ?_
  exact lp_X0_weigh1 hC.1 hp 4 0 _ _ μ (by omega) (by omega) Fr.rf (by rw [way_id]; exact hC) (fun d d0 d1 => by omega) (by omega)
theorem c_X0_costWhole {κ : Mem} {μ : Mem} (hC : CR κ μ) : Mc kX0_costWhole [.inr (.inr 3)] μ (pL (fun z ν => 6144 ^ (κ 125 0).toNat = z ∧ μ = ν)) := by
  refine Mc_of (by decide +kernel) (fun _ => Nat.le_of_ble_eq_true rfl) ?_
  show AW kX0_costWhole 0 [some (.inr (.inr 3))] [] μ _
  have r125 := hC.1.2.1
  have c106 := hC.2.2.1
  refine z_getCOSTS (pc := 0) dX0_costWhole_0 rfl ln_COSTS ?_
  refine s_aload_0 (pc := 3) dX0_costWhole_3 ?_
  refine gfX0_27 (pc := 4) dX0_costWhole_4 rfl ?_
  refine gfX0_34 (pc := 7) dX0_costWhole_7 rfl ?_
  try rw [c106]
  refine z_laCOSTS (pc := 10) dX0_costWhole_10 (by omega) (by omega) ?_
  try rw [c106]
  rw [coI_eq (by omega)]
  refine s_lreturn (pc := 11) dX0_costWhole_11 rfl ?_
  exact ⟨rfl, rfl⟩
theorem c_X0_owedWhole {κ : Mem} {μ : Mem} (hC : CR κ μ) : Mc kX0_owedWhole [.inr (.inr 3)] μ (pL (fun z ν => 3072 ^ (κ 125 0).toNat = z ∧ μ = ν)) := by
  refine Mc_of (by decide +kernel) (fun _ => Nat.le_of_ble_eq_true rfl) ?_
  show AW kX0_owedWhole 0 [some (.inr (.inr 3))] [] μ _
  have r125 := hC.1.2.1
  have c106 := hC.2.2.1
  refine z_getOWED (pc := 0) dX0_owedWhole_0 rfl ln_OWED ?_
  refine s_aload_0 (pc := 3) dX0_owedWhole_3 ?_
  refine gfX0_27 (pc := 4) dX0_owedWhole_4 rfl ?_
  refine gfX0_34 (pc := 7) dX0_owedWhole_7 rfl ?_
  try rw [c106]
  refine z_laOWED (pc := 10) dX0_owedWhole_10 (by omega) (by omega) ?_
  try rw [c106]
  rw [owI_eq (by omega)]
  refine s_lreturn (pc := 11) dX0_owedWhole_11 rfl ?_
  exact ⟨rfl, rfl⟩
theorem c_X0_owedInParts {κ : Mem} {p i : Int} {μ : Mem} (hC : CR κ μ) (hp : 0 ≤ p ∧ p < κ 129 0) (hi : 0 ≤ i ∧ i ≤ κ 125 0) (hS : SR κ (κ 125 0) μ) : Mc kX0_owedInParts [.inr (.inr 3), .inl p, .inl i] μ (pL (fun z ν => ow κ i.toNat p * 3072 ^ (κ 125 0 - i).toNat = z ∧ μ = ν)) := by
  refine Mc_of (by decide +kernel) (fun _ => Nat.le_of_ble_eq_true rfl) ?_
  show AW kX0_owedInParts 0 [some (.inr (.inr 3)), some (.inl p), some (.inl i)] [] μ _
  have r125 := hC.1.2.1
  have r129 := hC.1.1
  have c106 := hC.2.2.1
  refine s_aload_0 (pc := 0) dX0_owedInParts_0 ?_
  refine gfX0_18 (pc := 1) dX0_owedInParts_1 rfl ?_
  refine s_iconst_4 (pc := 4) dX0_owedInParts_4 ?_
  refine s_iload_2 (pc := 5) dX0_owedInParts_5 ?_
  refine s_imul (pc := 6) dX0_owedInParts_6 ?_
  refine s_iload_1 (pc := 7) dX0_owedInParts_7 ?_
  refine s_iadd (pc := 8) dX0_owedInParts_8 ?_
  refine z_laload (pc := 9) dX0_owedInParts_9 ly_23 (by omega) (by omega) ?_
  try rw [c106]
  rw [hS.1 i p hi.1 hi.2 hp.1 hp.2]
  refine z_getOWED (pc := 10) dX0_owedInParts_10 rfl ln_OWED ?_
  refine s_aload_0 (pc := 13) dX0_owedInParts_13 ?_
  refine gfX0_27 (pc := 14) dX0_owedInParts_14 rfl ?_
  refine gfX0_34 (pc := 17) dX0_owedInParts_17 rfl ?_
  try rw [c106]
  refine s_iload_2 (pc := 20) dX0_owedInParts_20 ?_
  refine s_isub (pc := 21) dX0_owedInParts_21 ?_
  refine z_laOWED (pc := 22) dX0_owedInParts_22 (by omega) (by omega) ?_
  try rw [c106]
  rw [owI_eq (by omega)]
  refine s_lmul (pc := 23) dX0_owedInParts_23 ?_
  refine s_lreturn (pc := 24) dX0_owedInParts_24 rfl ?_
  exact ⟨rfl, rfl⟩
theorem c_X0_costOf {κ : Mem} {p : Int} {μ : Mem} (hC : CR κ μ) (hp : 0 ≤ p ∧ p < κ 129 0) (hp2 : p < κ 124 0) (haw : κ 130 0 = 0) (hP : PL κ μ) : Mc kX0_costOf [.inr (.inr 3), .inl p] μ (pL (fun z ν => cst κ p = z ∧ μ = ν)) := by
  refine Mc_of (by decide +kernel) (fun _ => Nat.le_of_ble_eq_true rfl) ?_
  show AW kX0_costOf 0 [some (.inr (.inr 3)), some (.inl p)] [] μ _
  obtain ⟨hkr, c105, c106, c107, c108, c109, c110, cP, cT, cF⟩ := id hC
  obtain ⟨r129, r125, r126, r127, r128, r130, rP, r124, r44⟩ := id hkr
  obtain ⟨c19, c20, c17⟩ := cP p hp.1 hp.2
  obtain ⟨r49, r50, r51, r52⟩ := rP p hp.1 (by omega)
  obtain ⟨n1, n2, n3⟩ := cF p hp.1 hp2 hp.2
  have s1 := r44 (4 * p + 1) (by omega) (by omega)
  have s2 := r44 (4 * p + 2) (by omega) (by omega)
  have s3 := r44 (4 * p + 3) (by omega) (by omega)
  have hfe := feeN_in hkr hp.1 hp2 (κ 125 0).toNat
  rw [feeN_fees] at hfe
  refine s_aload_0 (pc := 0) dX0_costOf_0 ?_
  refine gfX0_27 (pc := 1) dX0_costOf_1 rfl ?_
  refine gfX0_43 (pc := 4) dX0_costOf_4 rfl ?_
  refine s_iconst_4 (pc := 7) dX0_costOf_7 ?_
  refine s_iload_1 (pc := 8) dX0_costOf_8 ?_
  refine s_imul (pc := 9) dX0_costOf_9 ?_
  refine s_iconst_3 (pc := 10) dX0_costOf_10 ?_
  refine s_iadd (pc := 11) dX0_costOf_11 ?_
  refine z_iaload (pc := 12) dX0_costOf_12 ly_17 (by omega) (by omega) ?_
  rw [n3]
  refine s_i2l (pc := 13) dX0_costOf_13 (by omega) ?_
  refine s_aload_0 (pc := 14) dX0_costOf_14 ?_
  refine gfX0_24 (pc := 15) dX0_costOf_15 rfl ?_
  refine s_iload_1 (pc := 18) dX0_costOf_18 ?_
  refine z_laload (pc := 19) dX0_costOf_19 ly_25 (by omega) (by omega) ?_
  rw [hP.2 p hp.1 hp.2]
  refine s_lmul (pc := 20) dX0_costOf_20 ?_
  refine s_aload_0 (pc := 21) dX0_costOf_21 ?_
  refine gfX0_27 (pc := 22) dX0_costOf_22 rfl ?_
  refine s_iload_1 (pc := 25) dX0_costOf_25 ?_
  refine cV1i (pc := 26) (Ky := kX1_feesOf) dX0_costOf_26 rfl lnX0_47 okX1_feesOf ⟨1, TX1, 13, rfl, rfl⟩ ⟨Nat.le_of_ble_eq_true rfl, Nat.le_of_ble_eq_true rfl⟩ (Nat.le_of_ble_eq_true rfl) (c_X1_feesOf hC hp hp2 haw) ?_
  rintro _ _ ⟨rfl, rfl⟩
  refine s_i2l (pc := 29) dX0_costOf_29 (by omega) ?_
  refine s_aload_0 (pc := 30) dX0_costOf_30 ?_
  refine cV0l (pc := 31) (Ky := kX0_costWhole) dX0_costOf_31 rfl lnX0_51 okX0_costWhole ⟨0, TX0, 7, rfl, rfl⟩ ⟨Nat.le_of_ble_eq_true rfl, Nat.le_of_ble_eq_true rfl⟩ (Nat.le_of_ble_eq_true rfl) (c_X0_costWhole hC) ?_
  rintro _ _ ⟨rfl, rfl⟩
  refine s_lmul (pc := 34) dX0_costOf_34 ?_
  refine s_ladd (pc := 35) dX0_costOf_35 ?_
  refine s_lreturn (pc := 36) dX0_costOf_36 rfl ?_
  exact ⟨rfl, rfl⟩
theorem c_X0_owedFrom {κ : Mem} {o q : Int} {μ : Mem} (hC : CR κ μ) (hko : KO (wr κ 128 0 o)) (ho : 0 ≤ o ∧ o ≤ 3) (hq : 0 ≤ q ∧ q < κ 129 0) : Mc kX0_owedFrom [.inr (.inr 3), .inl o, .inl q] μ (pL (fun z ν => ow (wr κ 128 0 o) (κ 125 0).toNat q = z ∧ CR (wr κ 128 0 o) ν ∧ Fr [21, 22, 23, 24, 25, 109, 111] μ ν)) := by
  refine Mc_of (by decide +kernel) (fun _ => Nat.le_of_ble_eq_true rfl) ?_
  show AW kX0_owedFrom 0 [some (.inr (.inr 3)), some (.inl o), some (.inl q)] [] μ _
  have r125 := hC.1.2.1
  have r129 := hC.1.1
  have hC1 := hC.w109 (x := o) ho
  have e125 : wr κ 128 0 o 125 0 = κ 125 0 := wr_n (by decide)
  have e129 : wr κ 128 0 o 129 0 = κ 129 0 := wr_n (by decide)
  refine s_aload_0 (pc := 0) dX0_owedFrom_0 ?_
  refine gfX0_27 (pc := 1) dX0_owedFrom_1 rfl ?_
  refine s_iload_1 (pc := 4) dX0_owedFrom_4 ?_
  refine pfX0_55 (pc := 5) dX0_owedFrom_5 rfl ?_
  refine s_aload_0 (pc := 8) dX0_owedFrom_8 ?_
  refine cV0v (pc := 9) (Ky := kX0_play) dX0_owedFrom_9 rfl lnX0_58 okX0_play ⟨0, TX0, 7, rfl, rfl⟩ ⟨Nat.le_of_ble_eq_true rfl, Nat.le_of_ble_eq_true rfl⟩ (Nat.le_of_ble_eq_true rfl) (c_X0_play hC1 hko) ?_
  rintro ν9 ⟨hP9, hF9⟩
  have hC9 := hC1.fr hF9 (by decide)
  have c106 : ν9 106 0 = κ 125 0 := hC9.2.2.1.trans e125
  refine s_aload_0 (pc := 12) dX0_owedFrom_12 ?_
  refine gfX0_18 (pc := 13) dX0_owedFrom_13 rfl ?_
  refine s_iconst_4 (pc := 16) dX0_owedFrom_16 ?_
  refine s_aload_0 (pc := 17) dX0_owedFrom_17 ?_
  refine gfX0_27 (pc := 18) dX0_owedFrom_18 rfl ?_
  refine gfX0_34 (pc := 21) dX0_owedFrom_21 rfl ?_
  try rw [c106]
  refine s_imul (pc := 24) dX0_owedFrom_24 ?_
  refine s_iload_2 (pc := 25) dX0_owedFrom_25 ?_
  refine s_iadd (pc := 26) dX0_owedFrom_26 ?_
  refine z_laload (pc := 27) dX0_owedFrom_27 ly_23 (by omega) (by omega) ?_
  try rw [c106]
  have hS9 := hP9.1.1 (κ 125 0) q r125.1 (by omega) hq.1 (by omega)
  rw [hS9]
  refine s_lreturn (pc := 28) dX0_owedFrom_28 rfl ?_
  exact ⟨rfl, hC9, (Fr.rf.wr (by decide)).tr (hF9.mono (by decide))⟩
