/-! ===== the class's other searches ===== -/
theorem lst_ne {a : Int → Int} {ok : Int → Prop} [DecidablePred ok] {m : Nat} (h : ok m) : ∀ n : Nat, m < n → (lst a ok n).2 ≠ -1
  | 0, q => by omega
  | n + 1, q => by
    unfold lst
    by_cases hc : ok n ∧ ((lst a ok n).2 = -1 ∨ a n < (lst a ok n).1)
    · rw [if_pos hc]; dsimp only; omega
    · rw [if_neg hc]
      by_cases hm : m < n
      · exact lst_ne h n hm
      · cases (show m = n by omega)
        exact fun r => hc ⟨h, Or.inl r⟩
theorem lst_stop {a : Int → Int} {ok : Int → Prop} [DecidablePred ok] {m : Nat} : ∀ d : Nat, (∀ k : Nat, m ≤ k → k < m + d → ¬ ok k) → lst a ok (m + d) = lst a ok m
  | 0, _ => rfl
  | d + 1, h => by
    show (if ok ((m + d : Nat) : Int) ∧ _ then _ else lst a ok (m + d)) = _
    rw [if_neg (fun q => h (m + d) (by omega) (by omega) q.1)]
    exact lst_stop d (fun k k0 k1 => h k k0 (by omega))
def oth (P p : Int) : Int := 2 ^ P.toNat - 1 - 2 ^ p.toNat
def alw (p o : Int) : Int := if o = p then 0 else 2 ^ o.toNat
def cmQ (P p o i : Nat) : Bool := decide (p < P ∧ o < P → (andI ((2 : Int) ^ P - 1) (xorI (shlI 1 p) (-1)) = oth P p ∧ andI (shlI 1 o) (oth P p) = alw p o ∧ 0 ≤ oth P p ∧ oth P p ≤ 15 ∧ 0 ≤ alw p o ∧ alw p o ≤ 15) ∧
  (1 ≤ (i : Int) ∧ (i : Int) ≤ oth P p → andI i (xorI (oth P p) (-1)) = (if bt i p = 0 then 0 else 2 ^ p) ∧ andI i (alw p o) = (if (o : Int) = (p : Int) ∨ bt i o = 0 then 0 else 2 ^ o) ∧ (bt i p = 0 → andI (oth P p) (xorI i (-1)) = 2 ^ P - 1 - i - 2 ^ p ∧ 0 ≤ (2 : Int) ^ P - 1 - i - 2 ^ p ∧ (2 : Int) ^ P - 1 - i - 2 ^ p ≤ 15)) ∧
  ((i : Int) ≤ 2 ^ P - 1 ∧ bt i p = 0 → (i : Int) ≤ oth P p) ∧ (2 ≤ (P : Int) → 1 ≤ oth P p ∧ bt (oth P p) p = 0 ∧ ((o : Int) = (p : Int) ∨ bt (oth P p) o = 1)))
theorem cm_all : ∀ P < 5, ∀ p < 4, ∀ o < 4, ∀ i < 16, cmQ P p o i = true := by decide +kernel
theorem cm_of {P p o i : Int} (hP : 0 ≤ P ∧ P ≤ 4) (hp : 0 ≤ p ∧ p < P) (ho : 0 ≤ o ∧ o < P) (hi : 0 ≤ i ∧ i < 16) : (andI ((2 : Int) ^ P.toNat - 1) (xorI (shlI 1 p) (-1)) = oth P p ∧ andI (shlI 1 o) (oth P p) = alw p o ∧ 0 ≤ oth P p ∧ oth P p ≤ 15 ∧ 0 ≤ alw p o ∧ alw p o ≤ 15) ∧
  (1 ≤ i ∧ i ≤ oth P p → andI i (xorI (oth P p) (-1)) = (if bt i p = 0 then 0 else 2 ^ p.toNat) ∧ andI i (alw p o) = (if o = p ∨ bt i o = 0 then 0 else 2 ^ o.toNat) ∧ (bt i p = 0 → andI (oth P p) (xorI i (-1)) = 2 ^ P.toNat - 1 - i - 2 ^ p.toNat ∧ 0 ≤ (2 : Int) ^ P.toNat - 1 - i - 2 ^ p.toNat ∧ (2 : Int) ^ P.toNat - 1 - i - 2 ^ p.toNat ≤ 15)) ∧
  (i ≤ 2 ^ P.toNat - 1 ∧ bt i p = 0 → i ≤ oth P p) ∧ (2 ≤ P → 1 ≤ oth P p ∧ bt (oth P p) p = 0 ∧ (o = p ∨ bt (oth P p) o = 1)) := by
  have h := cm_all P.toNat (by omega) p.toNat (by omega) o.toNat (by omega) i.toNat (by omega)
  unfold cmQ at h
  have h2 := of_decide_eq_true h ⟨by omega, by omega⟩
  rw [show ((P.toNat : Nat) : Int) = P by omega, show ((p.toNat : Nat) : Int) = p by omega, show ((o.toNat : Nat) : Int) = o by omega, show ((i.toNat : Nat) : Int) = i by omega] at h2
  obtain ⟨q1, q2, q3, q4⟩ := h2
  exact ⟨q1, q2, q3, q4⟩
/-- the least so far and which, with the class's first numbers -/
def lsW (r : Int × Int) (T6 w b : Int) : Prop := (r.2 = -1 ∧ w = 9223372036854775807) ∨ (0 ≤ r.2 ∧ b = r.2 ∧ w = r.1 ∧ 0 ≤ w ∧ w ≤ T6)
theorem lp_X4_bc {κ : Mem} {p : Int} {μ : Mem} (hko : KO κ) (hp : 0 ≤ p ∧ p < κ 129 0) (h2 : 2 ≤ κ 129 0) : ∀ (f : Nat) (i c b w : Int) (ν : Mem), (1 ≤ i) → (i ≤ (oth (κ 129 0) p) + 1) → (Fr [21, 22, 23, 24, 25, 110, 111] μ ν) → (CR (wr κ 130 0 c) ν) → (0 ≤ b ∧ b ≤ 15) → (lsW (amg κ p i.toNat) (6144 ^ (κ 125 0).toNat) w b) → (oth (κ 129 0) p) + 1 - i < (f : Int) → AW kX4_bestCompany 62 [some (.inr (.inr 4)), some (.inl p), some (.inl (oth (κ 129 0) p)), some (.inl (alw p (κ 128 0))), some (.inl b), some (.inr (.inl w)), none, some (.inl i)] [] ν (pI (fun z ν => (amg κ p (2 ^ (κ 129 0).toNat)).2 = z ∧ Fr [21, 22, 23, 24, 25, 110, 111] μ ν)) := by
  intro f
  induction f with
  | zero =>
    intro i c b w ν h0 h1 hF hC hb hw hm
    exfalso; omega
  | succ f ih =>
    intro i c b w ν h0 h1 hF hC hb hw hm
    have hk1 := hko.1
    have r129 := hk1.1
    have r128 := hk1.2.2.2.2.1
    have h6 := p6144 hk1
    have hps := pw_small r129
    have hcm0 := cm_of (P := κ 129 0) (p := p) (o := κ 128 0) (i := 1) r129 hp ⟨r128.1, hko.2⟩ (by omega)
    have hot : (oth (κ 129 0) p) ≤ 15 := hcm0.1.2.2.2.1
    have hsu : amg κ p (i + 1).toNat = if okA κ p i ∧ ((amg κ p i.toNat).2 = -1 ∨ am (kA κ p i) p < (amg κ p i.toNat).1) then (am (kA κ p i) p, i) else (amg κ p i.toNat) := lst_succ (by omega)
    have hbp := bt_in (b := i) (k := p)
    have hbo := bt_in (b := i) (k := κ 128 0)
    unfold lsW at hw
    have hwi : 0 ≤ w ∧ w ≤ 9223372036854775807 := by rcases hw with ⟨q1, q2⟩ | ⟨q1, q2, q3, q4, q5⟩ <;> omega
    have hpp := pw_pos (p := p)
    have hpq := pw_small (k := p) (by omega)
    have hpo := pw_pos (p := κ 128 0)
    have hpr := pw_small (k := κ 128 0) (by omega)
    have hala : (alw p (κ 128 0)) = if κ 128 0 = p then 0 else 2 ^ (κ 128 0).toNat := rfl
    refine s_iload_7 (pc := 62) dX4_bestCompany_62 ?_
    refine s_iload_2 (pc := 64) dX4_bestCompany_64 ?_
    refine s_icmp_gt (pc := 65) 141 dX4_bestCompany_65 rfl (by omega) (by omega) (fun h65 => ?_) (fun h65 => ?_)
    · refine s_iload_4 (pc := 141) dX4_bestCompany_141 ?_
      refine s_ireturn (pc := 143) dX4_bestCompany_143 rfl ?_
      have hie : i = (oth (κ 129 0) p) + 1 := by omega
      obtain ⟨ho1, ho2, ho3⟩ := hcm0.2.2.2 h2
      have hpn := pw_nat (k := κ 129 0)
      have hod : (oth (κ 129 0) p) = 2 ^ (κ 129 0).toNat - 1 - 2 ^ p.toNat := rfl
      have hok : okA κ p (((oth (κ 129 0) p).toNat : Nat) : Int) := by
        rw [show (((oth (κ 129 0) p).toNat : Nat) : Int) = (oth (κ 129 0) p) by omega]
        exact ⟨ho1, ho2, ho3⟩
      have hne : (amg κ p i.toNat).2 ≠ -1 := lst_ne (a := fun i => am (kA κ p i) p) hok i.toNat (by omega)
      have hst : amg κ p (2 ^ (κ 129 0).toNat) = amg κ p i.toNat := by
        have := lst_stop (a := fun i => am (kA κ p i) p) (ok := okA κ p) (m := i.toNat) (2 ^ (κ 129 0).toNat - i.toNat) (fun k k0 k1 q => by
          have hc := (cm_of (P := κ 129 0) (p := p) (o := κ 128 0) (i := k) r129 hp ⟨r128.1, hko.2⟩ (by omega)).2.2.1 ⟨by omega, q.2.1⟩
          omega)
        rw [show i.toNat + (2 ^ (κ 129 0).toNat - i.toNat) = 2 ^ (κ 129 0).toNat by omega] at this
        exact this
      refine ⟨?_, hF⟩
      rw [hst]
      rcases hw with ⟨q1, q2⟩ | ⟨q1, q2, q3, q4, q5⟩
      · exact absurd q1 hne
      · exact q2.symm
    · obtain ⟨hc1, hc2, -⟩ := cm_of (P := κ 129 0) (p := p) (o := κ 128 0) (i := i) r129 hp ⟨r128.1, hko.2⟩ (by omega)
      obtain ⟨hx1, hx2, hx3⟩ := hc2 ⟨h0, by omega⟩
      refine s_iload_7 (pc := 68) dX4_bestCompany_68 ?_
      refine s_iload_2 (pc := 70) dX4_bestCompany_70 ?_
      refine s_iconst_m1 (pc := 71) dX4_bestCompany_71 ?_
      refine s_ixor (pc := 72) dX4_bestCompany_72 ?_
      refine s_iand (pc := 73) dX4_bestCompany_73 ?_
      rw [hx1]
      refine s_if_ne (pc := 74) 135 dX4_bestCompany_74 rfl (by omega) (fun h74 => ?_) (fun h74 => ?_)
      · have hno : ¬ okA κ p i := fun q => by have := q.2.1; omega
        refine s_iinc_7 (pc := 135) dX4_bestCompany_135 (Nat.le_of_ble_eq_true rfl) rfl ?_
        refine s_goto (pc := 138) 62 dX4_bestCompany_138 rfl ?_
        first
          | (have _ := hno
             rw [if_neg (fun q => hno q.1)] at hsu
             refine s_le ?_ (ih (i + 1) _ b w _ (by omega) (by omega) hF hC hb (by rw [hsu]; exact hw) (by omega))
             exact ⟨Or.inr rfl, Or.inr rfl, Or.inr rfl, Or.inr rfl, Or.inr rfl, Or.inr rfl, Or.inl rfl, Or.inr rfl, trivial⟩)
          | (have _ := hnu
             refine s_le ?_ (ih (i + 1) _ b w _ (by omega) (by omega) hFF hC102 hb (by rw [hsu]; exact hw) (by omega))
             exact ⟨Or.inr rfl, Or.inr rfl, Or.inr rfl, Or.inr rfl, Or.inr rfl, Or.inr rfl, Or.inl rfl, Or.inr rfl, trivial⟩)
          | (have _ := hyu
             refine s_le ?_ (ih (i + 1) _ i (am (kA κ p i) p) _ (by omega) (by omega) hFF hC102 (by omega) (by rw [hsu]; exact Or.inr ⟨by dsimp only; omega, rfl, rfl, ham.1, ham.2⟩) (by omega))
             exact ⟨Or.inr rfl, Or.inr rfl, Or.inr rfl, Or.inr rfl, Or.inr rfl, Or.inr rfl, Or.inl rfl, Or.inr rfl, trivial⟩)
      · refine s_iload_7 (pc := 77) dX4_bestCompany_77 ?_
        refine s_iload_3 (pc := 79) dX4_bestCompany_79 ?_
        refine s_iand (pc := 80) dX4_bestCompany_80 ?_
        rw [hx2]
        refine s_iload_3 (pc := 81) dX4_bestCompany_81 ?_
        refine s_icmp_ne (pc := 82) 135 dX4_bestCompany_82 rfl (by omega) (by omega) (fun h82 => ?_) (fun h82 => ?_)
        · have hno : ¬ okA κ p i := fun q => by have := q.2.2; omega
          refine s_iinc_7 (pc := 135) dX4_bestCompany_135 (Nat.le_of_ble_eq_true rfl) rfl ?_
          refine s_goto (pc := 138) 62 dX4_bestCompany_138 rfl ?_
          first
            | (have _ := hno
               rw [if_neg (fun q => hno q.1)] at hsu
               refine s_le ?_ (ih (i + 1) _ b w _ (by omega) (by omega) hF hC hb (by rw [hsu]; exact hw) (by omega))
               exact ⟨Or.inr rfl, Or.inr rfl, Or.inr rfl, Or.inr rfl, Or.inr rfl, Or.inr rfl, Or.inl rfl, Or.inr rfl, trivial⟩)
            | (have _ := hnu
               refine s_le ?_ (ih (i + 1) _ b w _ (by omega) (by omega) hFF hC102 hb (by rw [hsu]; exact hw) (by omega))
               exact ⟨Or.inr rfl, Or.inr rfl, Or.inr rfl, Or.inr rfl, Or.inr rfl, Or.inr rfl, Or.inl rfl, Or.inr rfl, trivial⟩)
            | (have _ := hyu
               refine s_le ?_ (ih (i + 1) _ i (am (kA κ p i) p) _ (by omega) (by omega) hFF hC102 (by omega) (by rw [hsu]; exact Or.inr ⟨by dsimp only; omega, rfl, rfl, ham.1, ham.2⟩) (by omega))
               exact ⟨Or.inr rfl, Or.inr rfl, Or.inr rfl, Or.inr rfl, Or.inr rfl, Or.inr rfl, Or.inl rfl, Or.inr rfl, trivial⟩)
        · refine s_aload_0 (pc := 85) dX4_bestCompany_85 ?_
          refine gfX4_27 (pc := 86) dX4_bestCompany_86 rfl ?_
          refine s_iload_2 (pc := 89) dX4_bestCompany_89 ?_
          refine s_iload_7 (pc := 90) dX4_bestCompany_90 ?_
          refine s_iconst_m1 (pc := 92) dX4_bestCompany_92 ?_
          refine s_ixor (pc := 93) dX4_bestCompany_93 ?_
          refine s_iand (pc := 94) dX4_bestCompany_94 ?_
          obtain ⟨haw, haw1⟩ := hx3 (by omega)
          rw [haw]
          refine pfX4_125 (pc := 95) dX4_bestCompany_95 rfl ?_
          refine s_aload_0 (pc := 98) dX4_bestCompany_98 ?_
          refine gfX4_31 (pc := 99) dX4_bestCompany_99 rfl ?_
          have hC1 : CR (kA κ p i) (wr ν 110 0 (2 ^ (κ 129 0).toNat - 1 - i - 2 ^ p.toNat)) := by
            have := hC.w110 haw1
            rw [wr_wr] at this
            exact this
          have hka := kA_KO hko haw1
          have ham := am_at (κ := κ) hka (by rw [kA_o (by decide)]) (by rw [kA_o (by decide)]) hp.1 hp.2
          have hoki : okA κ p i := ⟨h0, by omega, by omega⟩
          refine cV0v (pc := 102) (Ky := kX0_play) dX4_bestCompany_102 rfl lnX4_104 okX0_play ⟨0, TX0, 7, rfl, rfl⟩ ⟨Nat.le_of_ble_eq_true rfl, Nat.le_of_ble_eq_true rfl⟩ (Nat.le_of_ble_eq_true rfl) (c_X0_play hC1 hka) ?_
          rintro ν102 ⟨hP102, hF102⟩
          have hC102 : CR (wr κ 130 0 (2 ^ (κ 129 0).toNat - 1 - i - 2 ^ p.toNat)) ν102 := hC1.fr hF102 (by decide)
          have a25 : ν102 25 p = am (kA κ p i) p := hP102.2 p hp.1 (by rw [kA_o (by decide)]; exact hp.2)
          have hFF : Fr [21, 22, 23, 24, 25, 110, 111] μ ν102 := (hF.wr (by decide)).tr (hF102.mono (by decide))
          refine s_aload_0 (pc := 105) dX4_bestCompany_105 ?_
          refine gfX4_31 (pc := 106) dX4_bestCompany_106 rfl ?_
          refine gfX4_114 (pc := 109) dX4_bestCompany_109 rfl ?_
          refine s_iload_1 (pc := 112) dX4_bestCompany_112 ?_
          refine z_laload (pc := 113) dX4_bestCompany_113 ly_25 (by omega) (by omega) ?_
          rw [a25]
          refine s_lload_5 (pc := 114) dX4_bestCompany_114 ?_
          refine s_lif_ge (pc := 116) 135 dX4_bestCompany_116 dX4_bestCompany_117 rfl (by omega) (by omega) (fun h117 => ?_) (fun h117 => ?_)
          · have hnu : ¬ (okA κ p i ∧ ((amg κ p i.toNat).2 = -1 ∨ am (kA κ p i) p < (amg κ p i.toNat).1)) := by
              rintro ⟨_, q⟩
              rcases hw with ⟨q1, q2⟩ | ⟨q1, q2, q3, q4, q5⟩ <;> omega
            rw [if_neg hnu] at hsu
            refine s_iinc_7 (pc := 135) dX4_bestCompany_135 (Nat.le_of_ble_eq_true rfl) rfl ?_
            refine s_goto (pc := 138) 62 dX4_bestCompany_138 rfl ?_
            first
              | (have _ := hno
                 rw [if_neg (fun q => hno q.1)] at hsu
                 refine s_le ?_ (ih (i + 1) _ b w _ (by omega) (by omega) hF hC hb (by rw [hsu]; exact hw) (by omega))
                 exact ⟨Or.inr rfl, Or.inr rfl, Or.inr rfl, Or.inr rfl, Or.inr rfl, Or.inr rfl, Or.inl rfl, Or.inr rfl, trivial⟩)
              | (have _ := hnu
                 refine s_le ?_ (ih (i + 1) _ b w _ (by omega) (by omega) hFF hC102 hb (by rw [hsu]; exact hw) (by omega))
                 exact ⟨Or.inr rfl, Or.inr rfl, Or.inr rfl, Or.inr rfl, Or.inr rfl, Or.inr rfl, Or.inl rfl, Or.inr rfl, trivial⟩)
              | (have _ := hyu
                 refine s_le ?_ (ih (i + 1) _ i (am (kA κ p i) p) _ (by omega) (by omega) hFF hC102 (by omega) (by rw [hsu]; exact Or.inr ⟨by dsimp only; omega, rfl, rfl, ham.1, ham.2⟩) (by omega))
                 exact ⟨Or.inr rfl, Or.inr rfl, Or.inr rfl, Or.inr rfl, Or.inr rfl, Or.inr rfl, Or.inl rfl, Or.inr rfl, trivial⟩)
          · have hyu : okA κ p i ∧ ((amg κ p i.toNat).2 = -1 ∨ am (kA κ p i) p < (amg κ p i.toNat).1) := by
              refine ⟨hoki, ?_⟩
              rcases hw with ⟨q1, q2⟩ | ⟨q1, q2, q3, q4, q5⟩
              · exact Or.inl q1
              · exact Or.inr (by omega)
            rw [if_pos hyu] at hsu
            refine s_aload_0 (pc := 120) dX4_bestCompany_120 ?_
            refine gfX4_31 (pc := 121) dX4_bestCompany_121 rfl ?_
            refine gfX4_114 (pc := 124) dX4_bestCompany_124 rfl ?_
            refine s_iload_1 (pc := 127) dX4_bestCompany_127 ?_
            refine z_laload (pc := 128) dX4_bestCompany_128 ly_25 (by omega) (by omega) ?_
            rw [a25]
            refine s_lstore_5 (pc := 129) dX4_bestCompany_129 (Nat.le_of_ble_eq_true rfl) rfl ?_
            refine s_iload_7 (pc := 131) dX4_bestCompany_131 ?_
            refine s_istore_4 (pc := 133) dX4_bestCompany_133 (Nat.le_of_ble_eq_true rfl) rfl ?_
            refine s_iinc_7 (pc := 135) dX4_bestCompany_135 (Nat.le_of_ble_eq_true rfl) rfl ?_
            refine s_goto (pc := 138) 62 dX4_bestCompany_138 rfl ?_
            first
              | (have _ := hno
                 rw [if_neg (fun q => hno q.1)] at hsu
                 refine s_le ?_ (ih (i + 1) _ b w _ (by omega) (by omega) hF hC hb (by rw [hsu]; exact hw) (by omega))
                 exact ⟨Or.inr rfl, Or.inr rfl, Or.inr rfl, Or.inr rfl, Or.inr rfl, Or.inr rfl, Or.inl rfl, Or.inr rfl, trivial⟩)
              | (have _ := hnu
                 refine s_le ?_ (ih (i + 1) _ b w _ (by omega) (by omega) hFF hC102 hb (by rw [hsu]; exact hw) (by omega))
                 exact ⟨Or.inr rfl, Or.inr rfl, Or.inr rfl, Or.inr rfl, Or.inr rfl, Or.inr rfl, Or.inl rfl, Or.inr rfl, trivial⟩)
              | (have _ := hyu
                 refine s_le ?_ (ih (i + 1) _ i (am (kA κ p i) p) _ (by omega) (by omega) hFF hC102 (by omega) (by rw [hsu]; exact Or.inr ⟨by dsimp only; omega, rfl, rfl, ham.1, ham.2⟩) (by omega))
                 exact ⟨Or.inr rfl, Or.inr rfl, Or.inr rfl, Or.inr rfl, Or.inr rfl, Or.inr rfl, Or.inl rfl, Or.inr rfl, trivial⟩)
theorem c_X4_bestCompany {tx : Int → Int} {n p : Int} {hd lv : Int → Int} {μ : Mem} (hQ : RQ tx n μ) (hn : 0 ≤ n ∧ n ≤ 60) (e10 : μ 10 = hd) (e11 : μ 11 = lv) (hhd : ∀ p : Int, 0 ≤ p → p < 4 → 0 ≤ hd p ∧ hd p ≤ 15) (hlv : ∀ p : Int, 0 ≤ p → p < 4 → 0 ≤ lv p ∧ lv p ≤ 4) (hp : 0 ≤ p ∧ p < pPe tx n) : Mc kX4_bestCompany [.inr (.inr 4), .inl p] μ (pI (fun z ν => (if pPe tx n = 1 then -3 else (amg (cfg tx n hd lv) p (2 ^ (pPe tx n).toNat)).2) = z ∧ Fr [17, 18, 19, 20, 21, 22, 23, 24, 25, 28, 29, 30, 105, 106, 107, 108, 109, 110, 111, 112, 113, 114] μ ν)) := by
  refine Mc_of (by decide +kernel) (fun _ => Nat.le_of_ble_eq_true rfl) ?_
  show AW kX4_bestCompany 0 [some (.inr (.inr 4)), some (.inl p), none, none, none, none, none, none] [] μ _
  have hpe := pPe_in (tx := tx) hn.1
  refine s_aload_0 (pc := 0) dX4_bestCompany_0 ?_
  refine gfX4_27 (pc := 1) dX4_bestCompany_1 rfl ?_
  refine cV0v (pc := 4) (Ky := kX1_gather) dX4_bestCompany_4 rfl lnX4_35 okX1_gather ⟨1, TX1, 13, rfl, rfl⟩ ⟨Nat.le_of_ble_eq_true rfl, Nat.le_of_ble_eq_true rfl⟩ (Nat.le_of_ble_eq_true rfl) (c_X1_gather hQ hn e10 e11 hhd hlv) ?_
  rintro ν4 ⟨hC4, hF4⟩
  have hko := cfg_KO hC4.1 (by omega)
  have c105 : ν4 105 0 = pPe tx n := hC4.2.1
  have c109 : ν4 109 0 = (cfg tx n hd lv) 128 0 := hC4.2.2.2.2.2.1
  have r128 := hko.1.2.2.2.2.1
  have hlo : (cfg tx n hd lv) 128 0 < pPe tx n := hko.2
  have hcm0 := (cm_of (P := pPe tx n) (p := p) (o := (cfg tx n hd lv) 128 0) (i := 1) hpe hp ⟨r128.1, hlo⟩ (by omega)).1
  obtain ⟨hx1, hx2, hx3, hx4, hx5, hx6⟩ := hcm0
  have hps := pw_small (k := pPe tx n) hpe
  refine s_aload_0 (pc := 7) dX4_bestCompany_7 ?_
  refine gfX4_27 (pc := 8) dX4_bestCompany_8 rfl ?_
  refine gfX4_101 (pc := 11) dX4_bestCompany_11 rfl ?_
  try rw [c105]
  try rw [c109]
  refine s_iconst_2 (pc := 14) dX4_bestCompany_14 ?_
  refine s_icmp_ge (pc := 15) 21 dX4_bestCompany_15 rfl (by omega) (by omega) (fun h15 => ?_) (fun h15 => ?_)
  · refine s_iconst_1 (pc := 21) dX4_bestCompany_21 ?_
    refine s_aload_0 (pc := 22) dX4_bestCompany_22 ?_
    refine gfX4_27 (pc := 23) dX4_bestCompany_23 rfl ?_
    refine gfX4_101 (pc := 26) dX4_bestCompany_26 rfl ?_
    try rw [c105]
    try rw [c109]
    refine s_ishl (pc := 29) dX4_bestCompany_29 ?_
    rw [shl1 (by omega)]
    refine s_iconst_1 (pc := 30) dX4_bestCompany_30 ?_
    refine s_isub (pc := 31) dX4_bestCompany_31 ?_
    refine s_iconst_1 (pc := 32) dX4_bestCompany_32 ?_
    refine s_iload_1 (pc := 33) dX4_bestCompany_33 ?_
    refine s_ishl (pc := 34) dX4_bestCompany_34 ?_
    refine s_iconst_m1 (pc := 35) dX4_bestCompany_35 ?_
    refine s_ixor (pc := 36) dX4_bestCompany_36 ?_
    refine s_iand (pc := 37) dX4_bestCompany_37 ?_
    rw [hx1]
    refine s_istore_2 (pc := 38) dX4_bestCompany_38 (Nat.le_of_ble_eq_true rfl) rfl ?_
    refine s_iconst_1 (pc := 39) dX4_bestCompany_39 ?_
    refine s_aload_0 (pc := 40) dX4_bestCompany_40 ?_
    refine gfX4_27 (pc := 41) dX4_bestCompany_41 rfl ?_
    refine gfX4_122 (pc := 44) dX4_bestCompany_44 rfl ?_
    try rw [c105]
    try rw [c109]
    refine s_ishl (pc := 47) dX4_bestCompany_47 ?_
    refine s_iload_2 (pc := 48) dX4_bestCompany_48 ?_
    refine s_iand (pc := 49) dX4_bestCompany_49 ?_
    rw [hx2]
    refine s_istore_3 (pc := 50) dX4_bestCompany_50 (Nat.le_of_ble_eq_true rfl) rfl ?_
    refine s_iload_2 (pc := 51) dX4_bestCompany_51 ?_
    refine s_istore_4 (pc := 52) dX4_bestCompany_52 (Nat.le_of_ble_eq_true rfl) rfl ?_
    refine s_ldc2_w (pc := 54) dX4_bestCompany_54 rfl cnX4_55 ?_
    refine s_lstore_5 (pc := 57) dX4_bestCompany_57 (Nat.le_of_ble_eq_true rfl) rfl ?_
    refine s_iconst_1 (pc := 59) dX4_bestCompany_59 ?_
    refine s_istore_7 (pc := 60) dX4_bestCompany_60 (Nat.le_of_ble_eq_true rfl) rfl ?_
    have hz : amg (cfg tx n hd lv) p (1 : Int).toNat = (0, -1) := by
      have := lst_succ (a := fun i => am (kA (cfg tx n hd lv) p i) p) (ok := okA (cfg tx n hd lv) p) (m := 0) (by omega)
      rw [if_neg (fun q => by have := q.1.1; omega)] at this
      exact this
    have hid : wr (cfg tx n hd lv) 130 0 ((cfg tx n hd lv) 130 0) = cfg tx n hd lv := wr_id rfl
    refine AW.mono (lp_X4_bc (κ := cfg tx n hd lv) (p := p) hko hp (show 2 ≤ pPe tx n by omega) 17 1 _ (oth (pPe tx n) p) 9223372036854775807 ν4 (by omega) (show 1 ≤ oth (pPe tx n) p + 1 by omega) Fr.rf (by rw [hid]; exact hC4) ⟨hx3, hx4⟩ (by rw [hz]; exact Or.inl ⟨rfl, rfl⟩) (show oth (pPe tx n) p + 1 - 1 < 17 by omega)) ?_
    rintro r ν ⟨z, rfl, rfl, hF2⟩
    exact ⟨_, rfl, by rw [if_neg (by omega)]; rfl, (hF4.mono (by decide)).tr (hF2.mono (by decide))⟩
  · refine s_bipush (pc := 18) (z := -3) dX4_bestCompany_18 rfl ?_
    refine s_ireturn (pc := 20) dX4_bestCompany_20 rfl ?_
    exact ⟨by rw [if_pos (by omega)], hF4.mono (by decide)⟩
theorem lp_X4_bl {κ : Mem} {p : Int} {μ : Mem} (hko : KO κ) (hp : 0 ≤ p ∧ p < κ 129 0) : ∀ (f : Nat) (i x y b w : Int) (ν : Mem), (0 ≤ i) → (i ≤ 9) → (Fr [21, 22, 23, 24, 25, 107, 108, 111] μ ν) → (CR (kO κ x y) ν) → (0 ≤ b ∧ b ≤ 9) → (lsW (lwf κ p i.toNat) (6144 ^ (κ 125 0).toNat) w b) → 9 - i < (f : Int) → AW kX4_bestLaw 16 [some (.inr (.inr 4)), some (.inl p), some (.inl b), some (.inr (.inl w)), none, some (.inl i)] [] ν (pI (fun z ν => (lwf κ p 9).2 = z ∧ Fr [21, 22, 23, 24, 25, 107, 108, 111] μ ν)) := by
  intro f
  induction f with
  | zero =>
    intro i x y b w ν h0 h1 hF hC hb hw hm
    exfalso; omega
  | succ f ih =>
    intro i x y b w ν h0 h1 hF hC hb hw hm
    have hk1 := hko.1
    have r129 := hk1.1
    have h6 := p6144 hk1
    have hsu : lwf κ p (i + 1).toNat = if True ∧ ((lwf κ p i.toNat).2 = -1 ∨ am (kO κ (i / 3) (i % 3)) p < (lwf κ p i.toNat).1) then (am (kO κ (i / 3) (i % 3)) p, i) else (lwf κ p i.toNat) := lst_succ (by omega)
    unfold lsW at hw
    have hwi : 0 ≤ w ∧ w ≤ 9223372036854775807 := by rcases hw with ⟨q1, q2⟩ | ⟨q1, q2, q3, q4, q5⟩ <;> omega
    refine s_iload_5 (pc := 16) dX4_bestLaw_16 ?_
    refine s_bipush (pc := 18) (z := 9) dX4_bestLaw_18 rfl ?_
    refine s_icmp_ge (pc := 20) 85 dX4_bestLaw_20 rfl (by omega) (by omega) (fun h20 => ?_) (fun h20 => ?_)
    · refine s_iload_2 (pc := 85) dX4_bestLaw_85 ?_
      refine s_ireturn (pc := 86) dX4_bestLaw_86 rfl ?_
      cases (show i = 9 by omega)
      have hne : (lwf κ p (9 : Int).toNat).2 ≠ -1 := lst_ne (a := fun i => am (kO κ (i / 3) (i % 3)) p) (ok := fun _ => True) (m := 0) trivial 9 (by omega)
      refine ⟨?_, hF⟩
      show (lwf κ p (9 : Int).toNat).2 = _
      rcases hw with ⟨q1, q2⟩ | ⟨q1, q2, q3, q4, q5⟩
      · exact absurd q1 hne
      · exact q2.symm
    · refine s_aload_0 (pc := 23) dX4_bestLaw_23 ?_
      refine gfX4_27 (pc := 24) dX4_bestLaw_24 rfl ?_
      refine s_iload_5 (pc := 27) dX4_bestLaw_27 ?_
      refine s_iconst_3 (pc := 29) dX4_bestLaw_29 ?_
      refine s_idiv (pc := 30) dX4_bestLaw_30 (by omega) (by omega) ?_
      rw [Int.tdiv_eq_ediv_of_nonneg (by omega)]
      refine pfX4_128 (pc := 31) dX4_bestLaw_31 rfl ?_
      refine s_aload_0 (pc := 34) dX4_bestLaw_34 ?_
      refine gfX4_27 (pc := 35) dX4_bestLaw_35 rfl ?_
      refine s_iload_5 (pc := 38) dX4_bestLaw_38 ?_
      refine s_iconst_3 (pc := 40) dX4_bestLaw_40 ?_
      refine s_irem (pc := 41) dX4_bestLaw_41 (by omega) (by omega) ?_
      rw [Int.tmod_eq_emod_of_nonneg (by omega)]
      refine pfX4_131 (pc := 42) dX4_bestLaw_42 rfl ?_
      refine s_aload_0 (pc := 45) dX4_bestLaw_45 ?_
      refine gfX4_31 (pc := 46) dX4_bestLaw_46 rfl ?_
      have hC1 : CR (kO κ (i / 3) (i % 3)) (wr (wr ν 107 0 (i / 3)) 108 0 (i % 3)) := by
        have := (hC.w107 (x := i / 3) (by omega)).w108 (x := i % 3) (by omega)
        rw [kO_kO] at this
        exact this
      have hka := kO_KO (a := i / 3) (b := i % 3) hko (by omega) (by omega)
      have ham := am_at (κ := κ) hka (by rw [kO_o (by decide) (by decide)]) (by rw [kO_o (by decide) (by decide)]) hp.1 hp.2
      refine cV0v (pc := 49) (Ky := kX0_play) dX4_bestLaw_49 rfl lnX4_104 okX0_play ⟨0, TX0, 7, rfl, rfl⟩ ⟨Nat.le_of_ble_eq_true rfl, Nat.le_of_ble_eq_true rfl⟩ (Nat.le_of_ble_eq_true rfl) (c_X0_play hC1 hka) ?_
      rintro ν49 ⟨hP49, hF49⟩
      have hC49 := hC1.fr hF49 (by decide)
      have a25 : ν49 25 p = am (kO κ (i / 3) (i % 3)) p := hP49.2 p hp.1 (by rw [kO_o (by decide) (by decide)]; exact hp.2)
      have hFF : Fr [21, 22, 23, 24, 25, 107, 108, 111] μ ν49 := ((hF.wr (by decide)).wr (by decide)).tr (hF49.mono (by decide))
      refine s_aload_0 (pc := 52) dX4_bestLaw_52 ?_
      refine gfX4_31 (pc := 53) dX4_bestLaw_53 rfl ?_
      refine gfX4_114 (pc := 56) dX4_bestLaw_56 rfl ?_
      refine s_iload_1 (pc := 59) dX4_bestLaw_59 ?_
      refine z_laload (pc := 60) dX4_bestLaw_60 ly_25 (by omega) (by omega) ?_
      rw [a25]
      refine s_lload_3 (pc := 61) dX4_bestLaw_61 ?_
      refine s_lif_ge (pc := 62) 79 dX4_bestLaw_62 dX4_bestLaw_63 rfl (by omega) (by omega) (fun h63 => ?_) (fun h63 => ?_)
      · have hnu : ¬ (True ∧ ((lwf κ p i.toNat).2 = -1 ∨ am (kO κ (i / 3) (i % 3)) p < (lwf κ p i.toNat).1)) := by
          rintro ⟨_, q⟩
          rcases hw with ⟨q1, q2⟩ | ⟨q1, q2, q3, q4, q5⟩ <;> omega
        rw [if_neg hnu] at hsu
        refine s_iinc_5 (pc := 79) dX4_bestLaw_79 (Nat.le_of_ble_eq_true rfl) rfl ?_
        refine s_goto (pc := 82) 16 dX4_bestLaw_82 rfl ?_
        first
          | (have _ := hnu
             refine s_le ?_ (ih (i + 1) _ _ b w _ (by omega) (by omega) hFF hC49 hb (by rw [hsu]; exact hw) (by omega))
             exact ⟨Or.inr rfl, Or.inr rfl, Or.inr rfl, Or.inr rfl, Or.inl rfl, Or.inr rfl, trivial⟩)
          | (have _ := hyu
             refine s_le ?_ (ih (i + 1) _ _ i (am (kO κ (i / 3) (i % 3)) p) _ (by omega) (by omega) hFF hC49 (by omega) (by rw [hsu]; exact Or.inr ⟨h0, rfl, rfl, ham.1, ham.2⟩) (by omega))
             exact ⟨Or.inr rfl, Or.inr rfl, Or.inr rfl, Or.inr rfl, Or.inl rfl, Or.inr rfl, trivial⟩)
      · have hyu : True ∧ ((lwf κ p i.toNat).2 = -1 ∨ am (kO κ (i / 3) (i % 3)) p < (lwf κ p i.toNat).1) := by
          refine ⟨trivial, ?_⟩
          rcases hw with ⟨q1, q2⟩ | ⟨q1, q2, q3, q4, q5⟩
          · exact Or.inl q1
          · exact Or.inr (by omega)
        rw [if_pos hyu] at hsu
        refine s_aload_0 (pc := 66) dX4_bestLaw_66 ?_
        refine gfX4_31 (pc := 67) dX4_bestLaw_67 rfl ?_
        refine gfX4_114 (pc := 70) dX4_bestLaw_70 rfl ?_
        refine s_iload_1 (pc := 73) dX4_bestLaw_73 ?_
        refine z_laload (pc := 74) dX4_bestLaw_74 ly_25 (by omega) (by omega) ?_
        rw [a25]
        refine s_lstore_3 (pc := 75) dX4_bestLaw_75 (Nat.le_of_ble_eq_true rfl) rfl ?_
        refine s_iload_5 (pc := 76) dX4_bestLaw_76 ?_
        refine s_istore_2 (pc := 78) dX4_bestLaw_78 (Nat.le_of_ble_eq_true rfl) rfl ?_
        refine s_iinc_5 (pc := 79) dX4_bestLaw_79 (Nat.le_of_ble_eq_true rfl) rfl ?_
        refine s_goto (pc := 82) 16 dX4_bestLaw_82 rfl ?_
        first
          | (have _ := hnu
             refine s_le ?_ (ih (i + 1) _ _ b w _ (by omega) (by omega) hFF hC49 hb (by rw [hsu]; exact hw) (by omega))
             exact ⟨Or.inr rfl, Or.inr rfl, Or.inr rfl, Or.inr rfl, Or.inl rfl, Or.inr rfl, trivial⟩)
          | (have _ := hyu
             refine s_le ?_ (ih (i + 1) _ _ i (am (kO κ (i / 3) (i % 3)) p) _ (by omega) (by omega) hFF hC49 (by omega) (by rw [hsu]; exact Or.inr ⟨h0, rfl, rfl, ham.1, ham.2⟩) (by omega))
             exact ⟨Or.inr rfl, Or.inr rfl, Or.inr rfl, Or.inr rfl, Or.inl rfl, Or.inr rfl, trivial⟩)
theorem c_X4_bestLaw {tx : Int → Int} {n p : Int} {hd lv : Int → Int} {μ : Mem} (hQ : RQ tx n μ) (hn : 0 ≤ n ∧ n ≤ 60) (e10 : μ 10 = hd) (e11 : μ 11 = lv) (hhd : ∀ p : Int, 0 ≤ p → p < 4 → 0 ≤ hd p ∧ hd p ≤ 15) (hlv : ∀ p : Int, 0 ≤ p → p < 4 → 0 ≤ lv p ∧ lv p ≤ 4) (hp : 0 ≤ p ∧ p < pPe tx n) : Mc kX4_bestLaw [.inr (.inr 4), .inl p] μ (pI (fun z ν => (lwf (cfg tx n hd lv) p 9).2 = z ∧ Fr [17, 18, 19, 20, 21, 22, 23, 24, 25, 28, 29, 30, 105, 106, 107, 108, 109, 110, 111, 112, 113, 114] μ ν)) := by
  refine Mc_of (by decide +kernel) (fun _ => Nat.le_of_ble_eq_true rfl) ?_
  show AW kX4_bestLaw 0 [some (.inr (.inr 4)), some (.inl p), none, none, none, none] [] μ _
  refine s_aload_0 (pc := 0) dX4_bestLaw_0 ?_
  refine gfX4_27 (pc := 1) dX4_bestLaw_1 rfl ?_
  refine cV0v (pc := 4) (Ky := kX1_gather) dX4_bestLaw_4 rfl lnX4_35 okX1_gather ⟨1, TX1, 13, rfl, rfl⟩ ⟨Nat.le_of_ble_eq_true rfl, Nat.le_of_ble_eq_true rfl⟩ (Nat.le_of_ble_eq_true rfl) (c_X1_gather hQ hn e10 e11 hhd hlv) ?_
  rintro ν4 ⟨hC4, hF4⟩
  have hko := cfg_KO hC4.1 (by omega)
  refine s_iconst_0 (pc := 7) dX4_bestLaw_7 ?_
  refine s_istore_2 (pc := 8) dX4_bestLaw_8 (Nat.le_of_ble_eq_true rfl) rfl ?_
  refine s_ldc2_w (pc := 9) dX4_bestLaw_9 rfl cnX4_55 ?_
  refine s_lstore_3 (pc := 12) dX4_bestLaw_12 (Nat.le_of_ble_eq_true rfl) rfl ?_
  refine s_iconst_0 (pc := 13) dX4_bestLaw_13 ?_
  refine s_istore_5 (pc := 14) dX4_bestLaw_14 (Nat.le_of_ble_eq_true rfl) rfl ?_
  refine AW.mono (lp_X4_bl (κ := cfg tx n hd lv) (p := p) hko hp 10 0 _ _ 0 9223372036854775807 ν4 (by omega) (by omega) Fr.rf (by rw [kO_id]; exact hC4) (by omega) (Or.inl ⟨rfl, rfl⟩) (by omega)) ?_
  rintro r ν ⟨z, rfl, rfl, hF2⟩
  exact ⟨_, rfl, rfl, (hF4.mono (by decide)).tr (hF2.mono (by decide))⟩
theorem lp_X4_edge {κ : Mem} {p : Int} {μ : Mem} (hko : KO κ) (hp : 0 ≤ p ∧ p < κ 129 0) (hp2 : p < κ 124 0) (haw : κ 130 0 = 0) (hT : 1 ≤ κ 125 0) : ∀ (f : Nat) (x a b : Int) (ν : Mem), (0 ≤ x) → (x ≤ 10) → (Fr [18, 20, 21, 22, 23, 24, 25, 111] μ ν) → (CR (kE κ p a b) ν) → (edg κ p 10 = edg κ p (10 - x).toNat) → 10 - x < (f : Int) → AW kX4_leastFunnyToLeave 26 [some (.inr (.inr 4)), some (.inl p), some (.inl (κ 125 0 - 1)), some (.inl x), none, none] [] ν (pI (fun z ν => edg κ p 10 = z ∧ Fr [18, 20, 21, 22, 23, 24, 25, 111] μ ν)) := by
  intro f
  induction f with
  | zero =>
    intro x a b ν h0 h1 hF hC he hm
    exfalso; omega
  | succ f ih =>
    intro x a b ν h0 h1 hF hC he hm
    have hk1 := hko.1
    have r129 := hk1.1
    have r125 := hk1.2.1
    have h6 := p6144 hk1
    refine s_iload_3 (pc := 26) dX4_leastFunnyToLeave_26 ?_
    refine s_bipush (pc := 27) (z := 9) dX4_leastFunnyToLeave_27 rfl ?_
    refine s_icmp_gt (pc := 29) 108 dX4_leastFunnyToLeave_29 rfl (by omega) (by omega) (fun h29 => ?_) (fun h29 => ?_)
    · refine s_iconst_m1 (pc := 108) dX4_leastFunnyToLeave_108 ?_
      refine s_ireturn (pc := 109) dX4_leastFunnyToLeave_109 rfl ?_
      first
        | (refine ⟨?_, hFG⟩
           rw [he, hup, if_pos (by omega)]; done)
        | (cases (show x = 10 by omega)
           exact ⟨he, hF⟩)
    · have hup := edg_up (κ := κ) (p := p) h0 (by omega)
      refine s_aload_0 (pc := 32) dX4_leastFunnyToLeave_32 ?_
      refine gfX4_27 (pc := 33) dX4_leastFunnyToLeave_33 rfl ?_
      refine gfX4_107 (pc := 36) dX4_leastFunnyToLeave_36 rfl ?_
      refine s_iload_2 (pc := 39) dX4_leastFunnyToLeave_39 ?_
      refine s_iload_3 (pc := 40) dX4_leastFunnyToLeave_40 ?_
      refine z_iastore (pc := 41) dX4_leastFunnyToLeave_41 ly_18 ip_18 (by omega) (by omega) ?_
      refine s_aload_0 (pc := 42) dX4_leastFunnyToLeave_42 ?_
      refine gfX4_27 (pc := 43) dX4_leastFunnyToLeave_43 rfl ?_
      refine gfX4_47 (pc := 46) dX4_leastFunnyToLeave_46 rfl ?_
      refine s_iload_1 (pc := 49) dX4_leastFunnyToLeave_49 ?_
      refine s_iload_2 (pc := 50) dX4_leastFunnyToLeave_50 ?_
      refine z_iastore (pc := 51) dX4_leastFunnyToLeave_51 ly_20 ip_20 (by omega) (by omega) ?_
      refine s_aload_0 (pc := 52) dX4_leastFunnyToLeave_52 ?_
      refine gfX4_31 (pc := 53) dX4_leastFunnyToLeave_53 rfl ?_
      have hC1 : CR (kE κ p x (κ 125 0 - 1)) (wr (wr ν 18 (κ 125 0 - 1) x) 20 p (κ 125 0 - 1)) := by
        have := (hC.w18 (p := κ 125 0 - 1) (x := x) (by omega)).w20 (p := p) (x := κ 125 0 - 1) (by omega)
        rw [kE_kE] at this
        exact this
      have hka := kE_KO (p := p) (x := x) (L := κ 125 0 - 1) hko (by omega) (by omega)
      have hkb := kE_KO (p := p) (x := x) (L := 4) hko (by omega) (by omega)
      have hc1 := cst_in hka (p := p) hp.1 (by rw [kE_o (by decide) (by decide)]; exact hp.2) (by rw [kE_o (by decide) (by decide)]; exact hp2)
      have hc2 := cst_in hkb (p := p) hp.1 (by rw [kE_o (by decide) (by decide)]; exact hp.2) (by rw [kE_o (by decide) (by decide)]; exact hp2)
      rw [kE_o (c := 125) (by decide) (by decide)] at hc1 hc2
      refine cV0v (pc := 56) (Ky := kX0_play) dX4_leastFunnyToLeave_56 rfl lnX4_104 okX0_play ⟨0, TX0, 7, rfl, rfl⟩ ⟨Nat.le_of_ble_eq_true rfl, Nat.le_of_ble_eq_true rfl⟩ (Nat.le_of_ble_eq_true rfl) (c_X0_play hC1 hka) ?_
      rintro ν56 ⟨hP56, hF56⟩
      have hC56 := hC1.fr hF56 (by decide)
      have hFF : Fr [18, 20, 21, 22, 23, 24, 25, 111] μ ν56 := ((hF.wr (by decide)).wr (by decide)).tr (hF56.mono (by decide))
      refine s_aload_0 (pc := 59) dX4_leastFunnyToLeave_59 ?_
      refine gfX4_31 (pc := 60) dX4_leastFunnyToLeave_60 rfl ?_
      refine s_iload_1 (pc := 63) dX4_leastFunnyToLeave_63 ?_
      refine cV1l (pc := 64) (Ky := kX0_costOf) dX4_leastFunnyToLeave_64 rfl lnX4_78 okX0_costOf ⟨0, TX0, 7, rfl, rfl⟩ ⟨Nat.le_of_ble_eq_true rfl, Nat.le_of_ble_eq_true rfl⟩ (Nat.le_of_ble_eq_true rfl) (c_X0_costOf hC56 (by rw [kE_o (by decide) (by decide)]; exact hp) (by rw [kE_o (by decide) (by decide)]; exact hp2) (by rw [kE_o (by decide) (by decide)]; exact haw) hP56) ?_
      rintro _ _ ⟨rfl, rfl⟩
      refine s_lstore_4 (pc := 67) dX4_leastFunnyToLeave_67 (Nat.le_of_ble_eq_true rfl) rfl ?_
      refine s_aload_0 (pc := 69) dX4_leastFunnyToLeave_69 ?_
      refine gfX4_27 (pc := 70) dX4_leastFunnyToLeave_70 rfl ?_
      refine gfX4_47 (pc := 73) dX4_leastFunnyToLeave_73 rfl ?_
      refine s_iload_1 (pc := 76) dX4_leastFunnyToLeave_76 ?_
      refine s_iconst_4 (pc := 77) dX4_leastFunnyToLeave_77 ?_
      refine z_iastore (pc := 78) dX4_leastFunnyToLeave_78 ly_20 ip_20 (by omega) (by omega) ?_
      refine s_aload_0 (pc := 79) dX4_leastFunnyToLeave_79 ?_
      refine gfX4_31 (pc := 80) dX4_leastFunnyToLeave_80 rfl ?_
      have hC2 : CR (kE κ p x 4) (wr ν56 20 p 4) := by
        have := hC56.w20 (p := p) (x := 4) (by omega)
        rw [kE_4] at this
        exact this
      refine cV0v (pc := 83) (Ky := kX0_play) dX4_leastFunnyToLeave_83 rfl lnX4_104 okX0_play ⟨0, TX0, 7, rfl, rfl⟩ ⟨Nat.le_of_ble_eq_true rfl, Nat.le_of_ble_eq_true rfl⟩ (Nat.le_of_ble_eq_true rfl) (c_X0_play hC2 hkb) ?_
      rintro ν83 ⟨hP83, hF83⟩
      have hC83 := hC2.fr hF83 (by decide)
      have hFG : Fr [18, 20, 21, 22, 23, 24, 25, 111] μ ν83 := (hFF.wr (by decide)).tr (hF83.mono (by decide))
      refine s_lload_4 (pc := 86) dX4_leastFunnyToLeave_86 ?_
      refine s_aload_0 (pc := 88) dX4_leastFunnyToLeave_88 ?_
      refine gfX4_31 (pc := 89) dX4_leastFunnyToLeave_89 rfl ?_
      refine s_iload_1 (pc := 92) dX4_leastFunnyToLeave_92 ?_
      refine cV1l (pc := 93) (Ky := kX0_costOf) dX4_leastFunnyToLeave_93 rfl lnX4_78 okX0_costOf ⟨0, TX0, 7, rfl, rfl⟩ ⟨Nat.le_of_ble_eq_true rfl, Nat.le_of_ble_eq_true rfl⟩ (Nat.le_of_ble_eq_true rfl) (c_X0_costOf hC83 (by rw [kE_o (by decide) (by decide)]; exact hp) (by rw [kE_o (by decide) (by decide)]; exact hp2) (by rw [kE_o (by decide) (by decide)]; exact haw) hP83) ?_
      rintro _ _ ⟨rfl, rfl⟩
      refine s_lif_ge (pc := 96) 102 dX4_leastFunnyToLeave_96 dX4_leastFunnyToLeave_97 rfl (by omega) (by omega) (fun h97 => ?_) (fun h97 => ?_)
      · refine s_iinc_3 (pc := 102) dX4_leastFunnyToLeave_102 (Nat.le_of_ble_eq_true rfl) rfl ?_
        refine s_goto (pc := 105) 26 dX4_leastFunnyToLeave_105 rfl ?_
        refine s_le ?_ (ih (x + 1) _ _ _ (by omega) (by omega) hFG hC83 (by rw [he, hup, if_neg (by omega)]) (by omega))
        exact ⟨Or.inr rfl, Or.inr rfl, Or.inr rfl, Or.inr rfl, Or.inl rfl, Or.inl rfl, trivial⟩
      · refine s_iload_3 (pc := 100) dX4_leastFunnyToLeave_100 ?_
        refine s_ireturn (pc := 101) dX4_leastFunnyToLeave_101 rfl ?_
        first
          | (refine ⟨?_, hFG⟩
             rw [he, hup, if_pos (by omega)]; done)
          | (cases (show x = 10 by omega)
             exact ⟨he, hF⟩)
theorem c_X4_leastFunnyToLeave {tx : Int → Int} {n p : Int} {hd lv : Int → Int} {μ : Mem} (hQ : RQ tx n μ) (hn : 0 ≤ n ∧ n ≤ 60) (e10 : μ 10 = hd) (e11 : μ 11 = lv) (hhd : ∀ p : Int, 0 ≤ p → p < 4 → 0 ≤ hd p ∧ hd p ≤ 15) (hlv : ∀ p : Int, 0 ≤ p → p < 4 → 0 ≤ lv p ∧ lv p ≤ 4) (hp : 0 ≤ p ∧ p < pPe tx n) : Mc kX4_leastFunnyToLeave [.inr (.inr 4), .inl p] μ (pI (fun z ν => (if pTa tx n = 0 then -3 else edg (cfg tx n hd lv) p 10) = z ∧ Fr [17, 18, 19, 20, 21, 22, 23, 24, 25, 28, 29, 30, 105, 106, 107, 108, 109, 110, 111, 112, 113, 114] μ ν)) := by
  refine Mc_of (by decide +kernel) (fun _ => Nat.le_of_ble_eq_true rfl) ?_
  show AW kX4_leastFunnyToLeave 0 [some (.inr (.inr 4)), some (.inl p), none, none, none, none] [] μ _
  have hta := pTa_in (tx := tx) hn.1
  refine s_aload_0 (pc := 0) dX4_leastFunnyToLeave_0 ?_
  refine gfX4_27 (pc := 1) dX4_leastFunnyToLeave_1 rfl ?_
  refine cV0v (pc := 4) (Ky := kX1_gather) dX4_leastFunnyToLeave_4 rfl lnX4_35 okX1_gather ⟨1, TX1, 13, rfl, rfl⟩ ⟨Nat.le_of_ble_eq_true rfl, Nat.le_of_ble_eq_true rfl⟩ (Nat.le_of_ble_eq_true rfl) (c_X1_gather hQ hn e10 e11 hhd hlv) ?_
  rintro ν4 ⟨hC4, hF4⟩
  have hko := cfg_KO hC4.1 (by omega)
  have c106 : ν4 106 0 = pTa tx n := hC4.2.2.1
  refine s_aload_0 (pc := 7) dX4_leastFunnyToLeave_7 ?_
  refine gfX4_27 (pc := 8) dX4_leastFunnyToLeave_8 rfl ?_
  refine gfX4_65 (pc := 11) dX4_leastFunnyToLeave_11 rfl ?_
  try rw [c106]
  refine s_iconst_1 (pc := 14) dX4_leastFunnyToLeave_14 ?_
  refine s_isub (pc := 15) dX4_leastFunnyToLeave_15 ?_
  refine s_istore_2 (pc := 16) dX4_leastFunnyToLeave_16 (Nat.le_of_ble_eq_true rfl) rfl ?_
  refine s_iload_2 (pc := 17) dX4_leastFunnyToLeave_17 ?_
  refine s_if_ge (pc := 18) 24 dX4_leastFunnyToLeave_18 rfl (by omega) (fun h18 => ?_) (fun h18 => ?_)
  · refine s_iconst_0 (pc := 24) dX4_leastFunnyToLeave_24 ?_
    refine s_istore_3 (pc := 25) dX4_leastFunnyToLeave_25 (Nat.le_of_ble_eq_true rfl) rfl ?_
    refine AW.mono (lp_X4_edge (κ := cfg tx n hd lv) (p := p) hko hp hp.2 rfl (show 1 ≤ pTa tx n by omega) 11 0 _ _ ν4 (by omega) (by omega) Fr.rf (by rw [kE_id]; exact hC4) rfl (by omega)) ?_
    rintro r ν ⟨z, rfl, rfl, hF2⟩
    exact ⟨_, rfl, by rw [if_neg (by omega)], (hF4.mono (by decide)).tr (hF2.mono (by decide))⟩
  · refine s_bipush (pc := 21) (z := -3) dX4_leastFunnyToLeave_21 rfl ?_
    refine s_ireturn (pc := 23) dX4_leastFunnyToLeave_23 rfl ?_
    exact ⟨by rw [if_pos (by omega)], hF4.mono (by decide)⟩
