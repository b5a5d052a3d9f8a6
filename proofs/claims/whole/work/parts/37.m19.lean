/-! ===== among whom, one more, another law ===== -/
def awQ (P i p : Nat) : Bool := decide (1 ≤ (i : Int) ∧ (i : Int) ≤ (2 : Int) ^ P - 1 ∧ p < P ∧ bt i p = 0 → andI (andI ((2 : Int) ^ P - 1) (xorI i (-1))) (xorI (shlI 1 p) (-1)) = (2 : Int) ^ P - 1 - i - 2 ^ p ∧ 0 ≤ (2 : Int) ^ P - 1 - i - 2 ^ p ∧ (2 : Int) ^ P - 1 - i - 2 ^ p ≤ 15)
theorem away_eq {P i p : Int} (hP : 0 ≤ P ∧ P ≤ 4) (hi : 1 ≤ i ∧ i ≤ 2 ^ P.toNat - 1) (hp : 0 ≤ p ∧ p < P) (hb : bt i p = 0) : andI (andI (2 ^ P.toNat - 1) (xorI i (-1))) (xorI (shlI 1 p) (-1)) = 2 ^ P.toNat - 1 - i - 2 ^ p.toNat ∧ 0 ≤ 2 ^ P.toNat - 1 - i - 2 ^ p.toNat ∧ 2 ^ P.toNat - 1 - i - 2 ^ p.toNat ≤ 15 := by
  have key : ∀ P < 5, ∀ i < 16, ∀ p < 4, awQ P i p = true := by decide +kernel
  have hp2 := pw_small hP
  have hpn := pw_nat (k := P)
  have := key P.toNat (by omega) i.toNat (by omega) p.toNat (by omega)
  unfold awQ at this
  rw [show ((i.toNat : Nat) : Int) = i by omega, show ((p.toNat : Nat) : Int) = p by omega] at this
  exact of_decide_eq_true this ⟨hi.1, hi.2, by omega, hb⟩
def kA (κ : Mem) (p i : Int) : Mem := wr κ 130 0 (2 ^ (κ 129 0).toNat - 1 - i - 2 ^ p.toNat)
def kO (κ : Mem) (law sev : Int) : Mem := wr (wr κ 126 0 law) 127 0 sev
def kH (κ : Mem) (P t : Int) : Mem := wr (wr (wr (wr κ 51 P t) 49 P 0) 50 P 4) 129 0 (P + 1)
def kE (κ : Mem) (p x L : Int) : Mem := wr (wr κ 52 (κ 125 0 - 1) x) 50 p L
theorem kA_o {κ : Mem} {p i : Int} {c : Nat} (h : c ≠ 130) : kA κ p i c = κ c := by unfold kA; rw [wr_nc h]
theorem kO_o {κ : Mem} {a b : Int} {c : Nat} (h : c ≠ 126) (h2 : c ≠ 127) : kO κ a b c = κ c := by unfold kO; rw [wr_nc h2, wr_nc h]
theorem kH_o {κ : Mem} {a b : Int} {c : Nat} (h : c ≠ 49) (h2 : c ≠ 50) (h3 : c ≠ 51) (h4 : c ≠ 129) : kH κ a b c = κ c := by unfold kH; rw [wr_nc h4, wr_nc h2, wr_nc h, wr_nc h3]
theorem kE_o {κ : Mem} {p x L : Int} {c : Nat} (h : c ≠ 50) (h2 : c ≠ 52) : kE κ p x L c = κ c := by unfold kE; rw [wr_nc h, wr_nc h2]
theorem kA_sc {κ : Mem} {p i : Int} : sc (kA κ p i) = sc κ := by unfold sc; rw [kA_o (by decide)]
theorem kO_sc {κ : Mem} {a b : Int} : sc (kO κ a b) = sc κ := by unfold sc; rw [kO_o (by decide) (by decide)]
theorem kH_sc {κ : Mem} {a b : Int} : sc (kH κ a b) = sc κ := by unfold sc; rw [kH_o (by decide) (by decide) (by decide) (by decide)]
theorem kE_sc {κ : Mem} {p x L : Int} : sc (kE κ p x L) = sc κ := by unfold sc; rw [kE_o (by decide) (by decide)]
theorem kA_KO {κ : Mem} (h : KO κ) {p i : Int} (hx : 0 ≤ 2 ^ (κ 129 0).toNat - 1 - i - 2 ^ p.toNat ∧ 2 ^ (κ 129 0).toNat - 1 - i - 2 ^ p.toNat ≤ 15) : KO (kA κ p i) := ⟨h.1.w130 hx, by rw [kA_o (by decide), kA_o (by decide)]; exact h.2⟩
theorem kO_KO {κ : Mem} (h : KO κ) {a b : Int} (ha : 0 ≤ a ∧ a ≤ 2) (hb : 0 ≤ b ∧ b ≤ 2) : KO (kO κ a b) := ⟨(h.1.w126 ha).w127 hb, by rw [kO_o (by decide) (by decide), kO_o (by decide) (by decide)]; exact h.2⟩
theorem kH_KO {κ : Mem} (h : KO κ) {P t : Int} (hP : P = κ 129 0 ∧ P < 4) (ht : 0 ≤ t ∧ t ≤ 9) : KO (kH κ P t) := by
  have h1 := h.1.1
  have h2 := h.2
  refine ⟨(((h.1.w51 ht).w49 (by omega)).w50 (by omega)).w129 (by omega), ?_⟩
  rw [kH_o (by decide) (by decide) (by decide) (by decide)]
  unfold kH
  rw [wr_s, if_pos rfl]
  omega
theorem kE_KO {κ : Mem} (h : KO κ) {p x L : Int} (hx : 0 ≤ x ∧ x ≤ 9) (hL : 0 ≤ L ∧ L ≤ 4) : KO (kE κ p x L) := ⟨(h.1.w52 hx).w50 hL, by rw [kE_o (by decide) (by decide), kE_o (by decide) (by decide)]; exact h.2⟩
theorem am_at {κ κ' : Mem} (h : KO κ') (e129 : κ' 129 0 = κ 129 0) (e125 : κ' 125 0 = κ 125 0) {p : Int} (p0 : 0 ≤ p) (p1 : p < κ 129 0) : 0 ≤ am κ' p ∧ am κ' p ≤ 6144 ^ (κ 125 0).toNat := by
  have := am_in h p0 (by omega)
  rw [e125] at this
  exact this
/-- the least of many, the first of them -/
def lst (a : Int → Int) (ok : Int → Prop) [DecidablePred ok] : Nat → Int × Int
  | 0 => (0, -1)
  | m + 1 => if ok m ∧ ((lst a ok m).2 = -1 ∨ a m < (lst a ok m).1) then (a m, m) else lst a ok m
theorem lst_succ {a : Int → Int} {ok : Int → Prop} [DecidablePred ok] {m : Int} (h : 0 ≤ m) : lst a ok (m + 1).toNat = if ok m ∧ ((lst a ok m.toNat).2 = -1 ∨ a m < (lst a ok m.toNat).1) then (a m, m) else lst a ok m.toNat := by
  rw [show (m + 1).toNat = m.toNat + 1 by omega]
  show (if ok ((m.toNat : Nat) : Int) ∧ ((lst a ok m.toNat).2 = -1 ∨ a ((m.toNat : Nat) : Int) < (lst a ok m.toNat).1) then (a ((m.toNat : Nat) : Int), ((m.toNat : Nat) : Int)) else lst a ok m.toNat) = _
  rw [show ((m.toNat : Nat) : Int) = m by omega]
abbrev okA (κ : Mem) (p i : Int) : Prop := 1 ≤ i ∧ bt i p = 0 ∧ (κ 128 0 = p ∨ bt i (κ 128 0) = 1)
def amg (κ : Mem) (p : Int) : Nat → Int × Int := lst (fun i => am (kA κ p i) p) (okA κ p)
def lwf (κ : Mem) (p : Int) : Nat → Int × Int := lst (fun i => am (kO κ (i / 3) (i % 3)) p) (fun _ => True)
def edg (κ : Mem) (p : Int) : Nat → Int
  | 0 => -1
  | k + 1 => if cst (kE κ p (10 - (k + 1 : Nat)) (κ 125 0 - 1)) p < cst (kE κ p (10 - (k + 1 : Nat)) 4) p then 10 - (k + 1 : Nat) else edg κ p k
theorem lp_X9_amongOf {κ : Mem} {p : Int} {μ : Mem} (hko : KO κ) (hp : 0 ≤ p ∧ p < κ 129 0) : ∀ (f : Nat) (i c : Int) (ν : Mem), (1 ≤ i) → (i ≤ 2 ^ (κ 129 0).toNat) → (Fr [53, 54, 130] μ ν) → (MR (wr κ 130 0 c) ν) → (0 ≤ (amg κ p i.toNat).1 ∧ (amg κ p i.toNat).1 ≤ 6144 ^ (κ 125 0).toNat) → (-1 ≤ (amg κ p i.toNat).2 ∧ (amg κ p i.toNat).2 ≤ 15) → 2 ^ (κ 129 0).toNat - i < (f : Int) → AW kX9_amongOf 32 [some (.inr (.inr 9)), some (.inl p), some (.inl (2 ^ (κ 129 0).toNat - 1)), some (.inl (amg κ p i.toNat).2), some (.inr (.inl ((amg κ p i.toNat).1 * sc κ))), none, some (.inl i), none, none, none] [] ν (pI (fun z ν => (amg κ p (2 ^ (κ 129 0).toNat)).2 = z ∧ Fr [53, 54, 130] μ ν)) := by
  intro f
  induction f with
  | zero =>
    intro i c ν h0 h1 hF hM hb hc hm
    exfalso; omega
  | succ f ih =>
    intro i c ν h0 h1 hF hM hb hc hm
    have hk1 := hko.1
    have r129 := hk1.1
    have r128 := hk1.2.2.2.2.1
    have hps := pw_small r129
    have hsn := cost_in hk1 (a := (amg κ p i.toNat).1) hb.1 (by have := p6144 hk1; omega)
    have m128 : ν 128 0 = κ 128 0 := by have := hM.2.2.2.2.2.1; rwa [wr_n (by decide)] at this
    have hsu : amg κ p (i + 1).toNat = if okA κ p i ∧ ((amg κ p i.toNat).2 = -1 ∨ am (kA κ p i) p < (amg κ p i.toNat).1) then (am (kA κ p i) p, i) else amg κ p i.toNat := lst_succ (by omega)
    have hbp := bt_in (b := i) (k := p)
    have hbo := bt_in (b := i) (k := κ 128 0)
    refine s_iload_6 (pc := 32) dX9_amongOf_32 ?_
    refine s_iload_2 (pc := 34) dX9_amongOf_34 ?_
    refine s_icmp_gt (pc := 35) 129 dX9_amongOf_35 rfl (by omega) (by omega) (fun h35 => ?_) (fun h35 => ?_)
    · refine s_iload_3 (pc := 129) dX9_amongOf_129 ?_
      refine s_ireturn (pc := 130) dX9_amongOf_130 rfl ?_
      have hie : i = 2 ^ (κ 129 0).toNat := by omega
      have hpn := pw_nat (k := κ 129 0)
      rw [show i.toNat = 2 ^ (κ 129 0).toNat by omega]
      exact ⟨rfl, hF⟩
    · refine s_iload_6 (pc := 38) dX9_amongOf_38 ?_
      refine s_iload_1 (pc := 40) dX9_amongOf_40 ?_
      refine s_ishr (pc := 41) dX9_amongOf_41 ?_
      refine s_iconst_1 (pc := 42) dX9_amongOf_42 ?_
      refine s_iand (pc := 43) dX9_amongOf_43 ?_
      rw [shr_bt (by omega) (by omega)]
      refine s_if_ne (pc := 44) 72 dX9_amongOf_44 rfl (by omega) (fun h44 => ?_) (fun h44 => ?_)
      · refine s_iconst_0 (pc := 72) dX9_amongOf_72 ?_
        refine s_istore_7 (pc := 73) dX9_amongOf_73 (Nat.le_of_ble_eq_true rfl) rfl ?_
        refine s_iload_7 (pc := 75) dX9_amongOf_75 ?_
        refine s_if_eq (pc := 77) 123 dX9_amongOf_77 rfl (by omega) (fun h77 => ?_) (fun h77 => ?_)
        · refine s_iinc_6 (pc := 123) dX9_amongOf_123 (Nat.le_of_ble_eq_true rfl) rfl ?_
          refine s_goto (pc := 126) 32 dX9_amongOf_126 rfl ?_
          first
            | (have hu : amg κ p (i + 1).toNat = (am (kA κ p i) p, i) := by rw [hsu, if_pos hup]
               refine s_le ?_ (ih (i + 1) _ _ (by omega) (by omega) hFF hM98 (by rw [hu]; exact ham) (by rw [hu]; dsimp only; omega) (by omega))
               rw [hu]
               exact ⟨Or.inr rfl, Or.inr rfl, Or.inr rfl, Or.inr rfl, Or.inr rfl, Or.inl rfl, Or.inr rfl, Or.inl rfl, Or.inl rfl, Or.inl rfl, trivial⟩)
            | (have hu : amg κ p (i + 1).toNat = amg κ p i.toNat := by
                 rw [hsu]
                 first | (rw [if_neg hnu]; done) | (rw [if_neg (fun q => by have := q.1; omega)]; done)
               first
                 | (refine s_le ?_ (ih (i + 1) _ _ (by omega) (by omega) hFF hM98 (by rw [hu]; exact hb) (by rw [hu]; exact hc) (by omega))
                    rw [hu]
                    exact ⟨Or.inr rfl, Or.inr rfl, Or.inr rfl, Or.inr rfl, Or.inr rfl, Or.inl rfl, Or.inr rfl, Or.inl rfl, Or.inl rfl, Or.inl rfl, trivial⟩)
                 | (refine s_le ?_ (ih (i + 1) _ _ (by omega) (by omega) hF hM (by rw [hu]; exact hb) (by rw [hu]; exact hc) (by omega))
                    rw [hu]
                    exact ⟨Or.inr rfl, Or.inr rfl, Or.inr rfl, Or.inr rfl, Or.inr rfl, Or.inl rfl, Or.inr rfl, Or.inl rfl, Or.inl rfl, Or.inl rfl, trivial⟩))
        · exact absurd h77 (by decide)
      · refine s_aload_0 (pc := 47) dX9_amongOf_47 ?_
        refine gfX9_180 (pc := 48) dX9_amongOf_48 rfl ?_
        try rw [m128]
        refine s_iload_1 (pc := 51) dX9_amongOf_51 ?_
        refine s_icmp_eq (pc := 52) 68 dX9_amongOf_52 rfl (by omega) (by omega) (fun h52 => ?_) (fun h52 => ?_)
        · refine s_iconst_1 (pc := 68) dX9_amongOf_68 ?_
          refine s_goto (pc := 69) 73 dX9_amongOf_69 rfl ?_
          refine s_istore_7 (pc := 73) dX9_amongOf_73 (Nat.le_of_ble_eq_true rfl) rfl ?_
          refine s_iload_7 (pc := 75) dX9_amongOf_75 ?_
          refine s_if_eq (pc := 77) 123 dX9_amongOf_77 rfl (by omega) (fun h77 => ?_) (fun h77 => ?_)
          · exact absurd h77 (by decide)
          · refine s_aload_0 (pc := 80) dX9_amongOf_80 ?_
            refine s_iload_2 (pc := 81) dX9_amongOf_81 ?_
            refine s_iload_6 (pc := 82) dX9_amongOf_82 ?_
            refine s_iconst_m1 (pc := 84) dX9_amongOf_84 ?_
            refine s_ixor (pc := 85) dX9_amongOf_85 ?_
            refine s_iand (pc := 86) dX9_amongOf_86 ?_
            refine s_iconst_1 (pc := 87) dX9_amongOf_87 ?_
            refine s_iload_1 (pc := 88) dX9_amongOf_88 ?_
            refine s_ishl (pc := 89) dX9_amongOf_89 ?_
            refine s_iconst_m1 (pc := 90) dX9_amongOf_90 ?_
            refine s_ixor (pc := 91) dX9_amongOf_91 ?_
            refine s_iand (pc := 92) dX9_amongOf_92 ?_
            obtain ⟨haw, haw1⟩ := away_eq (p := p) (i := i) r129 ⟨h0, by omega⟩ hp (by omega)
            rw [haw]
            refine pfX9_183 (pc := 93) dX9_amongOf_93 rfl ?_
            refine s_aload_0 (pc := 96) dX9_amongOf_96 ?_
            refine s_iload_1 (pc := 97) dX9_amongOf_97 ?_
            have hM1 : MR (kA κ p i) (wr ν 130 0 (2 ^ (κ 129 0).toNat - 1 - i - 2 ^ p.toNat)) := by
              have := hM.w130 haw1
              rw [wr_wr] at this
              exact this
            have hka := kA_KO hko haw1
            have ham := am_at (κ := κ) hka (by rw [kA_o (by decide)]) (by rw [kA_o (by decide)]) hp.1 hp.2
            have hci := cost_in hk1 (a := am (kA κ p i) p) ham.1 (by have := p6144 hk1; omega)
            refine cV1l (pc := 98) (Ky := kX9_amountNow) dX9_amongOf_98 rfl lnX9_230 okX9_amountNow ⟨9, TX9, 40, rfl, rfl⟩ ⟨Nat.le_of_ble_eq_true rfl, Nat.le_of_ble_eq_true rfl⟩ (Nat.le_of_ble_eq_true rfl) (c_X9_amountNow hM1 hka.2 (by rw [kA_o (by decide)]; exact hp)) ?_
            rintro _ ν98 ⟨rfl, hF98⟩
            rw [kA_sc]
            have hM98 : MR (wr κ 130 0 (2 ^ (κ 129 0).toNat - 1 - i - 2 ^ p.toNat)) ν98 := hM1.fr hF98 (by decide)
            have hFF : Fr [53, 54, 130] μ ν98 := (hF.wr (by decide)).tr (hF98.mono (by decide))
            refine s_lstore_8 (pc := 101) dX9_amongOf_101 (Nat.le_of_ble_eq_true rfl) rfl ?_
            refine s_iload_3 (pc := 103) dX9_amongOf_103 ?_
            refine s_iconst_m1 (pc := 104) dX9_amongOf_104 ?_
            refine s_icmp_eq (pc := 105) 116 dX9_amongOf_105 rfl (by omega) (by omega) (fun h105 => ?_) (fun h105 => ?_)
            · have hup : okA κ p i ∧ ((amg κ p i.toNat).2 = -1 ∨ am (kA κ p i) p < (amg κ p i.toNat).1) := ⟨⟨h0, by omega, by omega⟩, Or.inl (by omega)⟩
              refine s_iload_6 (pc := 116) dX9_amongOf_116 ?_
              refine s_istore_3 (pc := 118) dX9_amongOf_118 (Nat.le_of_ble_eq_true rfl) rfl ?_
              refine s_lload_8 (pc := 119) dX9_amongOf_119 ?_
              refine s_lstore_4 (pc := 121) dX9_amongOf_121 (Nat.le_of_ble_eq_true rfl) rfl ?_
              refine s_iinc_6 (pc := 123) dX9_amongOf_123 (Nat.le_of_ble_eq_true rfl) rfl ?_
              refine s_goto (pc := 126) 32 dX9_amongOf_126 rfl ?_
              first
                | (have hu : amg κ p (i + 1).toNat = (am (kA κ p i) p, i) := by rw [hsu, if_pos hup]
                   refine s_le ?_ (ih (i + 1) _ _ (by omega) (by omega) hFF hM98 (by rw [hu]; exact ham) (by rw [hu]; dsimp only; omega) (by omega))
                   rw [hu]
                   exact ⟨Or.inr rfl, Or.inr rfl, Or.inr rfl, Or.inr rfl, Or.inr rfl, Or.inl rfl, Or.inr rfl, Or.inl rfl, Or.inl rfl, Or.inl rfl, trivial⟩)
                | (have hu : amg κ p (i + 1).toNat = amg κ p i.toNat := by
                     rw [hsu]
                     first | (rw [if_neg hnu]; done) | (rw [if_neg (fun q => by have := q.1; omega)]; done)
                   first
                     | (refine s_le ?_ (ih (i + 1) _ _ (by omega) (by omega) hFF hM98 (by rw [hu]; exact hb) (by rw [hu]; exact hc) (by omega))
                        rw [hu]
                        exact ⟨Or.inr rfl, Or.inr rfl, Or.inr rfl, Or.inr rfl, Or.inr rfl, Or.inl rfl, Or.inr rfl, Or.inl rfl, Or.inl rfl, Or.inl rfl, trivial⟩)
                     | (refine s_le ?_ (ih (i + 1) _ _ (by omega) (by omega) hF hM (by rw [hu]; exact hb) (by rw [hu]; exact hc) (by omega))
                        rw [hu]
                        exact ⟨Or.inr rfl, Or.inr rfl, Or.inr rfl, Or.inr rfl, Or.inr rfl, Or.inl rfl, Or.inr rfl, Or.inl rfl, Or.inl rfl, Or.inl rfl, trivial⟩))
            · refine s_lload_8 (pc := 108) dX9_amongOf_108 ?_
              refine s_lload_4 (pc := 110) dX9_amongOf_110 ?_
              refine s_lif_ge (pc := 112) 123 dX9_amongOf_112 dX9_amongOf_113 rfl (by omega) (by omega) (fun h113 => ?_) (fun h113 => ?_)
              · have hnu : ¬ (okA κ p i ∧ ((amg κ p i.toNat).2 = -1 ∨ am (kA κ p i) p < (amg κ p i.toNat).1)) := fun q => by have := (mul_lt_sc hk1 (a := am (kA κ p i) p) (b := (amg κ p i.toNat).1)); omega
                refine s_iinc_6 (pc := 123) dX9_amongOf_123 (Nat.le_of_ble_eq_true rfl) rfl ?_
                refine s_goto (pc := 126) 32 dX9_amongOf_126 rfl ?_
                first
                  | (have hu : amg κ p (i + 1).toNat = (am (kA κ p i) p, i) := by rw [hsu, if_pos hup]
                     refine s_le ?_ (ih (i + 1) _ _ (by omega) (by omega) hFF hM98 (by rw [hu]; exact ham) (by rw [hu]; dsimp only; omega) (by omega))
                     rw [hu]
                     exact ⟨Or.inr rfl, Or.inr rfl, Or.inr rfl, Or.inr rfl, Or.inr rfl, Or.inl rfl, Or.inr rfl, Or.inl rfl, Or.inl rfl, Or.inl rfl, trivial⟩)
                  | (have hu : amg κ p (i + 1).toNat = amg κ p i.toNat := by
                       rw [hsu]
                       first | (rw [if_neg hnu]; done) | (rw [if_neg (fun q => by have := q.1; omega)]; done)
                     first
                       | (refine s_le ?_ (ih (i + 1) _ _ (by omega) (by omega) hFF hM98 (by rw [hu]; exact hb) (by rw [hu]; exact hc) (by omega))
                          rw [hu]
                          exact ⟨Or.inr rfl, Or.inr rfl, Or.inr rfl, Or.inr rfl, Or.inr rfl, Or.inl rfl, Or.inr rfl, Or.inl rfl, Or.inl rfl, Or.inl rfl, trivial⟩)
                       | (refine s_le ?_ (ih (i + 1) _ _ (by omega) (by omega) hF hM (by rw [hu]; exact hb) (by rw [hu]; exact hc) (by omega))
                          rw [hu]
                          exact ⟨Or.inr rfl, Or.inr rfl, Or.inr rfl, Or.inr rfl, Or.inr rfl, Or.inl rfl, Or.inr rfl, Or.inl rfl, Or.inl rfl, Or.inl rfl, trivial⟩))
              · have hup : okA κ p i ∧ ((amg κ p i.toNat).2 = -1 ∨ am (kA κ p i) p < (amg κ p i.toNat).1) := ⟨⟨h0, by omega, by omega⟩, Or.inr ((mul_lt_sc hk1).mp (by omega))⟩
                refine s_iload_6 (pc := 116) dX9_amongOf_116 ?_
                refine s_istore_3 (pc := 118) dX9_amongOf_118 (Nat.le_of_ble_eq_true rfl) rfl ?_
                refine s_lload_8 (pc := 119) dX9_amongOf_119 ?_
                refine s_lstore_4 (pc := 121) dX9_amongOf_121 (Nat.le_of_ble_eq_true rfl) rfl ?_
                refine s_iinc_6 (pc := 123) dX9_amongOf_123 (Nat.le_of_ble_eq_true rfl) rfl ?_
                refine s_goto (pc := 126) 32 dX9_amongOf_126 rfl ?_
                first
                  | (have hu : amg κ p (i + 1).toNat = (am (kA κ p i) p, i) := by rw [hsu, if_pos hup]
                     refine s_le ?_ (ih (i + 1) _ _ (by omega) (by omega) hFF hM98 (by rw [hu]; exact ham) (by rw [hu]; dsimp only; omega) (by omega))
                     rw [hu]
                     exact ⟨Or.inr rfl, Or.inr rfl, Or.inr rfl, Or.inr rfl, Or.inr rfl, Or.inl rfl, Or.inr rfl, Or.inl rfl, Or.inl rfl, Or.inl rfl, trivial⟩)
                  | (have hu : amg κ p (i + 1).toNat = amg κ p i.toNat := by
                       rw [hsu]
                       first | (rw [if_neg hnu]; done) | (rw [if_neg (fun q => by have := q.1; omega)]; done)
                     first
                       | (refine s_le ?_ (ih (i + 1) _ _ (by omega) (by omega) hFF hM98 (by rw [hu]; exact hb) (by rw [hu]; exact hc) (by omega))
                          rw [hu]
                          exact ⟨Or.inr rfl, Or.inr rfl, Or.inr rfl, Or.inr rfl, Or.inr rfl, Or.inl rfl, Or.inr rfl, Or.inl rfl, Or.inl rfl, Or.inl rfl, trivial⟩)
                       | (refine s_le ?_ (ih (i + 1) _ _ (by omega) (by omega) hF hM (by rw [hu]; exact hb) (by rw [hu]; exact hc) (by omega))
                          rw [hu]
                          exact ⟨Or.inr rfl, Or.inr rfl, Or.inr rfl, Or.inr rfl, Or.inr rfl, Or.inl rfl, Or.inr rfl, Or.inl rfl, Or.inl rfl, Or.inl rfl, trivial⟩))
        · refine s_iload_6 (pc := 55) dX9_amongOf_55 ?_
          refine s_aload_0 (pc := 57) dX9_amongOf_57 ?_
          refine gfX9_180 (pc := 58) dX9_amongOf_58 rfl ?_
          try rw [m128]
          refine s_ishr (pc := 61) dX9_amongOf_61 ?_
          refine s_iconst_1 (pc := 62) dX9_amongOf_62 ?_
          refine s_iand (pc := 63) dX9_amongOf_63 ?_
          rw [shr_bt (by omega) (by omega)]
          refine s_iconst_1 (pc := 64) dX9_amongOf_64 ?_
          refine s_icmp_ne (pc := 65) 72 dX9_amongOf_65 rfl (by omega) (by omega) (fun h65 => ?_) (fun h65 => ?_)
          · refine s_iconst_0 (pc := 72) dX9_amongOf_72 ?_
            refine s_istore_7 (pc := 73) dX9_amongOf_73 (Nat.le_of_ble_eq_true rfl) rfl ?_
            refine s_iload_7 (pc := 75) dX9_amongOf_75 ?_
            refine s_if_eq (pc := 77) 123 dX9_amongOf_77 rfl (by omega) (fun h77 => ?_) (fun h77 => ?_)
            · refine s_iinc_6 (pc := 123) dX9_amongOf_123 (Nat.le_of_ble_eq_true rfl) rfl ?_
              refine s_goto (pc := 126) 32 dX9_amongOf_126 rfl ?_
              first
                | (have hu : amg κ p (i + 1).toNat = (am (kA κ p i) p, i) := by rw [hsu, if_pos hup]
                   refine s_le ?_ (ih (i + 1) _ _ (by omega) (by omega) hFF hM98 (by rw [hu]; exact ham) (by rw [hu]; dsimp only; omega) (by omega))
                   rw [hu]
                   exact ⟨Or.inr rfl, Or.inr rfl, Or.inr rfl, Or.inr rfl, Or.inr rfl, Or.inl rfl, Or.inr rfl, Or.inl rfl, Or.inl rfl, Or.inl rfl, trivial⟩)
                | (have hu : amg κ p (i + 1).toNat = amg κ p i.toNat := by
                     rw [hsu]
                     first | (rw [if_neg hnu]; done) | (rw [if_neg (fun q => by have := q.1; omega)]; done)
                   first
                     | (refine s_le ?_ (ih (i + 1) _ _ (by omega) (by omega) hFF hM98 (by rw [hu]; exact hb) (by rw [hu]; exact hc) (by omega))
                        rw [hu]
                        exact ⟨Or.inr rfl, Or.inr rfl, Or.inr rfl, Or.inr rfl, Or.inr rfl, Or.inl rfl, Or.inr rfl, Or.inl rfl, Or.inl rfl, Or.inl rfl, trivial⟩)
                     | (refine s_le ?_ (ih (i + 1) _ _ (by omega) (by omega) hF hM (by rw [hu]; exact hb) (by rw [hu]; exact hc) (by omega))
                        rw [hu]
                        exact ⟨Or.inr rfl, Or.inr rfl, Or.inr rfl, Or.inr rfl, Or.inr rfl, Or.inl rfl, Or.inr rfl, Or.inl rfl, Or.inl rfl, Or.inl rfl, trivial⟩))
            · exact absurd h77 (by decide)
          · refine s_iconst_1 (pc := 68) dX9_amongOf_68 ?_
            refine s_goto (pc := 69) 73 dX9_amongOf_69 rfl ?_
            refine s_istore_7 (pc := 73) dX9_amongOf_73 (Nat.le_of_ble_eq_true rfl) rfl ?_
            refine s_iload_7 (pc := 75) dX9_amongOf_75 ?_
            refine s_if_eq (pc := 77) 123 dX9_amongOf_77 rfl (by omega) (fun h77 => ?_) (fun h77 => ?_)
            · exact absurd h77 (by decide)
            · refine s_aload_0 (pc := 80) dX9_amongOf_80 ?_
              refine s_iload_2 (pc := 81) dX9_amongOf_81 ?_
              refine s_iload_6 (pc := 82) dX9_amongOf_82 ?_
              refine s_iconst_m1 (pc := 84) dX9_amongOf_84 ?_
              refine s_ixor (pc := 85) dX9_amongOf_85 ?_
              refine s_iand (pc := 86) dX9_amongOf_86 ?_
              refine s_iconst_1 (pc := 87) dX9_amongOf_87 ?_
              refine s_iload_1 (pc := 88) dX9_amongOf_88 ?_
              refine s_ishl (pc := 89) dX9_amongOf_89 ?_
              refine s_iconst_m1 (pc := 90) dX9_amongOf_90 ?_
              refine s_ixor (pc := 91) dX9_amongOf_91 ?_
              refine s_iand (pc := 92) dX9_amongOf_92 ?_
              obtain ⟨haw, haw1⟩ := away_eq (p := p) (i := i) r129 ⟨h0, by omega⟩ hp (by omega)
              rw [haw]
              refine pfX9_183 (pc := 93) dX9_amongOf_93 rfl ?_
              refine s_aload_0 (pc := 96) dX9_amongOf_96 ?_
              refine s_iload_1 (pc := 97) dX9_amongOf_97 ?_
              have hM1 : MR (kA κ p i) (wr ν 130 0 (2 ^ (κ 129 0).toNat - 1 - i - 2 ^ p.toNat)) := by
                have := hM.w130 haw1
                rw [wr_wr] at this
                exact this
              have hka := kA_KO hko haw1
              have ham := am_at (κ := κ) hka (by rw [kA_o (by decide)]) (by rw [kA_o (by decide)]) hp.1 hp.2
              have hci := cost_in hk1 (a := am (kA κ p i) p) ham.1 (by have := p6144 hk1; omega)
              refine cV1l (pc := 98) (Ky := kX9_amountNow) dX9_amongOf_98 rfl lnX9_230 okX9_amountNow ⟨9, TX9, 40, rfl, rfl⟩ ⟨Nat.le_of_ble_eq_true rfl, Nat.le_of_ble_eq_true rfl⟩ (Nat.le_of_ble_eq_true rfl) (c_X9_amountNow hM1 hka.2 (by rw [kA_o (by decide)]; exact hp)) ?_
              rintro _ ν98 ⟨rfl, hF98⟩
              rw [kA_sc]
              have hM98 : MR (wr κ 130 0 (2 ^ (κ 129 0).toNat - 1 - i - 2 ^ p.toNat)) ν98 := hM1.fr hF98 (by decide)
              have hFF : Fr [53, 54, 130] μ ν98 := (hF.wr (by decide)).tr (hF98.mono (by decide))
              refine s_lstore_8 (pc := 101) dX9_amongOf_101 (Nat.le_of_ble_eq_true rfl) rfl ?_
              refine s_iload_3 (pc := 103) dX9_amongOf_103 ?_
              refine s_iconst_m1 (pc := 104) dX9_amongOf_104 ?_
              refine s_icmp_eq (pc := 105) 116 dX9_amongOf_105 rfl (by omega) (by omega) (fun h105 => ?_) (fun h105 => ?_)
              · have hup : okA κ p i ∧ ((amg κ p i.toNat).2 = -1 ∨ am (kA κ p i) p < (amg κ p i.toNat).1) := ⟨⟨h0, by omega, by omega⟩, Or.inl (by omega)⟩
                refine s_iload_6 (pc := 116) dX9_amongOf_116 ?_
                refine s_istore_3 (pc := 118) dX9_amongOf_118 (Nat.le_of_ble_eq_true rfl) rfl ?_
                refine s_lload_8 (pc := 119) dX9_amongOf_119 ?_
                refine s_lstore_4 (pc := 121) dX9_amongOf_121 (Nat.le_of_ble_eq_true rfl) rfl ?_
                refine s_iinc_6 (pc := 123) dX9_amongOf_123 (Nat.le_of_ble_eq_true rfl) rfl ?_
                refine s_goto (pc := 126) 32 dX9_amongOf_126 rfl ?_
                first
                  | (have hu : amg κ p (i + 1).toNat = (am (kA κ p i) p, i) := by rw [hsu, if_pos hup]
                     refine s_le ?_ (ih (i + 1) _ _ (by omega) (by omega) hFF hM98 (by rw [hu]; exact ham) (by rw [hu]; dsimp only; omega) (by omega))
                     rw [hu]
                     exact ⟨Or.inr rfl, Or.inr rfl, Or.inr rfl, Or.inr rfl, Or.inr rfl, Or.inl rfl, Or.inr rfl, Or.inl rfl, Or.inl rfl, Or.inl rfl, trivial⟩)
                  | (have hu : amg κ p (i + 1).toNat = amg κ p i.toNat := by
                       rw [hsu]
                       first | (rw [if_neg hnu]; done) | (rw [if_neg (fun q => by have := q.1; omega)]; done)
                     first
                       | (refine s_le ?_ (ih (i + 1) _ _ (by omega) (by omega) hFF hM98 (by rw [hu]; exact hb) (by rw [hu]; exact hc) (by omega))
                          rw [hu]
                          exact ⟨Or.inr rfl, Or.inr rfl, Or.inr rfl, Or.inr rfl, Or.inr rfl, Or.inl rfl, Or.inr rfl, Or.inl rfl, Or.inl rfl, Or.inl rfl, trivial⟩)
                       | (refine s_le ?_ (ih (i + 1) _ _ (by omega) (by omega) hF hM (by rw [hu]; exact hb) (by rw [hu]; exact hc) (by omega))
                          rw [hu]
                          exact ⟨Or.inr rfl, Or.inr rfl, Or.inr rfl, Or.inr rfl, Or.inr rfl, Or.inl rfl, Or.inr rfl, Or.inl rfl, Or.inl rfl, Or.inl rfl, trivial⟩))
              · refine s_lload_8 (pc := 108) dX9_amongOf_108 ?_
                refine s_lload_4 (pc := 110) dX9_amongOf_110 ?_
                refine s_lif_ge (pc := 112) 123 dX9_amongOf_112 dX9_amongOf_113 rfl (by omega) (by omega) (fun h113 => ?_) (fun h113 => ?_)
                · have hnu : ¬ (okA κ p i ∧ ((amg κ p i.toNat).2 = -1 ∨ am (kA κ p i) p < (amg κ p i.toNat).1)) := fun q => by have := (mul_lt_sc hk1 (a := am (kA κ p i) p) (b := (amg κ p i.toNat).1)); omega
                  refine s_iinc_6 (pc := 123) dX9_amongOf_123 (Nat.le_of_ble_eq_true rfl) rfl ?_
                  refine s_goto (pc := 126) 32 dX9_amongOf_126 rfl ?_
                  first
                    | (have hu : amg κ p (i + 1).toNat = (am (kA κ p i) p, i) := by rw [hsu, if_pos hup]
                       refine s_le ?_ (ih (i + 1) _ _ (by omega) (by omega) hFF hM98 (by rw [hu]; exact ham) (by rw [hu]; dsimp only; omega) (by omega))
                       rw [hu]
                       exact ⟨Or.inr rfl, Or.inr rfl, Or.inr rfl, Or.inr rfl, Or.inr rfl, Or.inl rfl, Or.inr rfl, Or.inl rfl, Or.inl rfl, Or.inl rfl, trivial⟩)
                    | (have hu : amg κ p (i + 1).toNat = amg κ p i.toNat := by
                         rw [hsu]
                         first | (rw [if_neg hnu]; done) | (rw [if_neg (fun q => by have := q.1; omega)]; done)
                       first
                         | (refine s_le ?_ (ih (i + 1) _ _ (by omega) (by omega) hFF hM98 (by rw [hu]; exact hb) (by rw [hu]; exact hc) (by omega))
                            rw [hu]
                            exact ⟨Or.inr rfl, Or.inr rfl, Or.inr rfl, Or.inr rfl, Or.inr rfl, Or.inl rfl, Or.inr rfl, Or.inl rfl, Or.inl rfl, Or.inl rfl, trivial⟩)
                         | (refine s_le ?_ (ih (i + 1) _ _ (by omega) (by omega) hF hM (by rw [hu]; exact hb) (by rw [hu]; exact hc) (by omega))
                            rw [hu]
                            exact ⟨Or.inr rfl, Or.inr rfl, Or.inr rfl, Or.inr rfl, Or.inr rfl, Or.inl rfl, Or.inr rfl, Or.inl rfl, Or.inl rfl, Or.inl rfl, trivial⟩))
                · have hup : okA κ p i ∧ ((amg κ p i.toNat).2 = -1 ∨ am (kA κ p i) p < (amg κ p i.toNat).1) := ⟨⟨h0, by omega, by omega⟩, Or.inr ((mul_lt_sc hk1).mp (by omega))⟩
                  refine s_iload_6 (pc := 116) dX9_amongOf_116 ?_
                  refine s_istore_3 (pc := 118) dX9_amongOf_118 (Nat.le_of_ble_eq_true rfl) rfl ?_
                  refine s_lload_8 (pc := 119) dX9_amongOf_119 ?_
                  refine s_lstore_4 (pc := 121) dX9_amongOf_121 (Nat.le_of_ble_eq_true rfl) rfl ?_
                  refine s_iinc_6 (pc := 123) dX9_amongOf_123 (Nat.le_of_ble_eq_true rfl) rfl ?_
                  refine s_goto (pc := 126) 32 dX9_amongOf_126 rfl ?_
                  first
                    | (have hu : amg κ p (i + 1).toNat = (am (kA κ p i) p, i) := by rw [hsu, if_pos hup]
                       refine s_le ?_ (ih (i + 1) _ _ (by omega) (by omega) hFF hM98 (by rw [hu]; exact ham) (by rw [hu]; dsimp only; omega) (by omega))
                       rw [hu]
                       exact ⟨Or.inr rfl, Or.inr rfl, Or.inr rfl, Or.inr rfl, Or.inr rfl, Or.inl rfl, Or.inr rfl, Or.inl rfl, Or.inl rfl, Or.inl rfl, trivial⟩)
                    | (have hu : amg κ p (i + 1).toNat = amg κ p i.toNat := by
                         rw [hsu]
                         first | (rw [if_neg hnu]; done) | (rw [if_neg (fun q => by have := q.1; omega)]; done)
                       first
                         | (refine s_le ?_ (ih (i + 1) _ _ (by omega) (by omega) hFF hM98 (by rw [hu]; exact hb) (by rw [hu]; exact hc) (by omega))
                            rw [hu]
                            exact ⟨Or.inr rfl, Or.inr rfl, Or.inr rfl, Or.inr rfl, Or.inr rfl, Or.inl rfl, Or.inr rfl, Or.inl rfl, Or.inl rfl, Or.inl rfl, trivial⟩)
                         | (refine s_le ?_ (ih (i + 1) _ _ (by omega) (by omega) hF hM (by rw [hu]; exact hb) (by rw [hu]; exact hc) (by omega))
                            rw [hu]
                            exact ⟨Or.inr rfl, Or.inr rfl, Or.inr rfl, Or.inr rfl, Or.inr rfl, Or.inl rfl, Or.inr rfl, Or.inl rfl, Or.inl rfl, Or.inl rfl, trivial⟩))
theorem c_X9_amongOf {tx : Int → Int} {n p : Int} {hd lv : Int → Int} {μ : Mem} (hp : 0 ≤ p ∧ p < pPe tx n) (e43 : μ 43 = tx) (e122 : μ 122 0 = n) (hn : 0 ≤ n ∧ n ≤ 60) (ht : ∀ k : Int, 0 ≤ k → k < n → 0 ≤ tx k ∧ tx k ≤ 255) (e47 : μ 47 = hd) (e48 : μ 48 = lv) (hhd : ∀ p : Int, 0 ≤ p → p < 4 → 0 ≤ hd p ∧ hd p ≤ 15) (hlv : ∀ p : Int, 0 ≤ p → p < 4 → 0 ≤ lv p ∧ lv p ≤ 4) : Mc kX9_amongOf [.inr (.inr 9), .inl p] μ (pI (fun z ν => (if pPe tx n = 1 then -3 else (amg (cfg tx n hd lv) p (2 ^ (pPe tx n).toNat)).2) = z ∧ FrT tx n [42, 44, 45, 46, 49, 50, 51, 52, 53, 54, 55, 56, 123, 124, 125, 126, 127, 128, 129, 130, 131, 132, 133, 134] μ ν)) := by
  refine Mc_of (by decide +kernel) (fun _ => Nat.le_of_ble_eq_true rfl) ?_
  show AW kX9_amongOf 0 [some (.inr (.inr 9)), some (.inl p), none, none, none, none, none, none, none, none] [] μ _
  have hpe := pPe_in (tx := tx) hn.1
  have hta := pTa_in (tx := tx) hn.1
  refine s_aload_0 (pc := 0) dX9_amongOf_0 ?_
  refine cV0v (pc := 1) (Ky := kX9_tries) dX9_amongOf_1 rfl lnX9_194 okX9_tries ⟨9, TX9, 40, rfl, rfl⟩ ⟨Nat.le_of_ble_eq_true rfl, Nat.le_of_ble_eq_true rfl⟩ (Nat.le_of_ble_eq_true rfl) (c_X9_tries e43 e122 hn ht e47 e48 hhd hlv) ?_
  rintro ν1 ⟨hF1, hR1, hM1⟩
  have hF1 := FrT.of hF1 hR1
  have hko := cfg_KO hM1.1 (by omega)
  have m124 : ν1 124 0 = pPe tx n := hR1.1
  refine s_aload_0 (pc := 4) dX9_amongOf_4 ?_
  refine gfX9_126 (pc := 5) dX9_amongOf_5 rfl ?_
  refine s_iconst_1 (pc := 8) dX9_amongOf_8 ?_
  refine s_icmp_ne (pc := 9) 15 dX9_amongOf_9 rfl (by omega) (by omega) (fun h9 => ?_) (fun h9 => ?_)
  · refine s_iconst_1 (pc := 15) dX9_amongOf_15 ?_
    refine s_aload_0 (pc := 16) dX9_amongOf_16 ?_
    refine gfX9_126 (pc := 17) dX9_amongOf_17 rfl ?_
    refine s_ishl (pc := 20) dX9_amongOf_20 ?_
    rw [m124, shl1 (by omega)]
    refine s_iconst_1 (pc := 21) dX9_amongOf_21 ?_
    refine s_isub (pc := 22) dX9_amongOf_22 ?_
    refine s_istore_2 (pc := 23) dX9_amongOf_23 (Nat.le_of_ble_eq_true rfl) rfl ?_
    refine s_iconst_m1 (pc := 24) dX9_amongOf_24 ?_
    refine s_istore_3 (pc := 25) dX9_amongOf_25 (Nat.le_of_ble_eq_true rfl) rfl ?_
    refine s_lconst_0 (pc := 26) dX9_amongOf_26 ?_
    refine s_lstore_4 (pc := 27) dX9_amongOf_27 (Nat.le_of_ble_eq_true rfl) rfl ?_
    refine s_iconst_1 (pc := 29) dX9_amongOf_29 ?_
    refine s_istore_6 (pc := 30) dX9_amongOf_30 (Nat.le_of_ble_eq_true rfl) rfl ?_
    have hps := pw_small (k := pPe tx n) hpe
    have hz : amg (cfg tx n hd lv) p (1 : Int).toNat = (0, -1) := by
      have := lst_succ (a := fun i => am (kA (cfg tx n hd lv) p i) p) (ok := okA (cfg tx n hd lv) p) (m := 0) (by omega)
      rw [if_neg (fun q => by have := q.1.1; omega)] at this
      exact this
    have hid : wr (cfg tx n hd lv) 130 0 ((cfg tx n hd lv) 130 0) = cfg tx n hd lv := wr_id rfl
    have := lp_X9_amongOf (μ := ν1) hko (p := p) hp 17 1 ((cfg tx n hd lv) 130 0) ν1 (by omega) (show 1 ≤ (2 : Int) ^ (pPe tx n).toNat by omega) Fr.rf (by rw [hid]; exact hM1) (by rw [hz]; exact ⟨by decide, by have := p6144 hko.1; dsimp only; omega⟩) (by rw [hz]; decide) (show (2 : Int) ^ (pPe tx n).toNat - 1 < 17 by omega)
    rw [hz, Int.zero_mul] at this
    refine AW.mono this ?_
    rintro r ν ⟨z, rfl, rfl, hF2⟩
    exact ⟨_, rfl, by rw [if_neg (by omega)]; rfl, (hF1.mono (by decide)).tr (hF2.mono (by decide))⟩
  · refine s_bipush (pc := 12) (z := -3) dX9_amongOf_12 rfl ?_
    refine s_ireturn (pc := 14) dX9_amongOf_14 rfl ?_
    exact ⟨by rw [if_pos (by omega)], hF1.mono (by decide)⟩
theorem c_X9_among {tx : Int → Int} {n p : Int} {hd lv : Int → Int} {μ : Mem} (h_p : -2147483648 ≤ p ∧ p < 2147483648) (e43 : μ 43 = tx) (e122 : μ 122 0 = n) (hn : 0 ≤ n ∧ n ≤ 60) (ht : ∀ k : Int, 0 ≤ k → k < n → 0 ≤ tx k ∧ tx k ≤ 255) (e47 : μ 47 = hd) (e48 : μ 48 = lv) (hhd : ∀ p : Int, 0 ≤ p → p < 4 → 0 ≤ hd p ∧ hd p ≤ 15) (hlv : ∀ p : Int, 0 ≤ p → p < 4 → 0 ≤ lv p ∧ lv p ≤ 4) : Mc kX9_among [.inr (.inr 9), .inl p] μ (pI (fun z ν => (if 0 ≤ p ∧ p < pPe tx n then (if pPe tx n = 1 then -3 else (amg (cfg tx n hd lv) p (2 ^ (pPe tx n).toNat)).2) else -2) = z ∧ Fr [42, 44, 45, 46, 49, 50, 51, 52, 53, 54, 55, 56, 123, 124, 125, 126, 127, 128, 129, 130, 131, 132, 133, 134] μ ν)) := by
  refine Mc_of (by decide +kernel) (fun _ => Nat.le_of_ble_eq_true rfl) ?_
  show AW kX9_among 0 [some (.inr (.inr 9)), some (.inl p)] [] μ _
  have hpe := pPe_in (tx := tx) hn.1
  have hta := pTa_in (tx := tx) hn.1
  refine s_aload_0 (pc := 0) dX9_among_0 ?_
  refine s_iload_1 (pc := 1) dX9_among_1 ?_
  refine cV1i (pc := 2) (Ky := kX9_isPerson) dX9_among_2 rfl lnX9_158 okX9_isPerson ⟨9, TX9, 40, rfl, rfl⟩ ⟨Nat.le_of_ble_eq_true rfl, Nat.le_of_ble_eq_true rfl⟩ (Nat.le_of_ble_eq_true rfl) (c_X9_isPerson (by omega) e43 e122 hn ht) ?_
  rintro _ ν2 ⟨rfl, hF2, hM2⟩
  refine s_if_eq (pc := 5) 16 dX9_among_5 rfl (by omega) (fun h5 => ?_) (fun h5 => ?_)
  · refine s_bipush (pc := 16) (z := -2) dX9_among_16 rfl ?_
    refine s_ireturn (pc := 18) dX9_among_18 rfl ?_
    first | exact ⟨by rw [if_neg (by omega)], hF2.mono (by decide)⟩ | exact ⟨by rw [if_pos (by omega)], (hF2.mono (by decide)).tr hF10.1⟩
  · refine s_aload_0 (pc := 8) dX9_among_8 ?_
    refine s_iload_1 (pc := 9) dX9_among_9 ?_
    refine cV1i (pc := 10) (Ky := kX9_amongOf) dX9_among_10 rfl lnX9_297 okX9_amongOf ⟨9, TX9, 40, rfl, rfl⟩ ⟨Nat.le_of_ble_eq_true rfl, Nat.le_of_ble_eq_true rfl⟩ (Nat.le_of_ble_eq_true rfl) (c_X9_amongOf (tx := tx) (n := n) (hd := hd) (lv := lv) (by omega) (by rw [hF2.fn 43 rfl]; exact e43) (by rw [hF2.at 122 rfl 0]; exact e122) hn ht (by rw [hF2.fn 47 rfl]; exact e47) (by rw [hF2.fn 48 rfl]; exact e48) hhd hlv) ?_
    rintro _ ν10 ⟨rfl, hF10⟩
    refine s_goto (pc := 13) 18 dX9_among_13 rfl ?_
    refine s_ireturn (pc := 18) dX9_among_18 rfl ?_
    first | exact ⟨by rw [if_neg (by omega)], hF2.mono (by decide)⟩ | exact ⟨by rw [if_pos (by omega)], (hF2.mono (by decide)).tr hF10.1⟩
