theorem p4_succ {j : Int} (h : 0 ≤ j) : (4 : Int) ^ (j + 1).toNat = 4 ^ j.toNat * 4 := by
  rw [show (j + 1).toNat = j.toNat + 1 by omega, Int.pow_succ]
theorem p4_in {j : Int} (h : 0 ≤ j ∧ j ≤ 4) : 1 ≤ (4 : Int) ^ j.toNat ∧ (4 : Int) ^ j.toNat ≤ 256 := by
  rcases (show j = 0 ∨ j = 1 ∨ j = 2 ∨ j = 3 ∨ j = 4 by omega) with rfl | rfl | rfl | rfl | rfl <;> decide
theorem lp_X9_power {m : Int} {μ : Mem} (hm0 : 0 ≤ m ∧ m ≤ 4) : ∀ (f : Nat) (j : Int), (0 ≤ j) → (j ≤ m) → m - j < (f : Int) → AW kX9_power 4 [some (.inl 4), some (.inl m), some (.inl ((4 : Int) ^ j.toNat)), some (.inl j)] [] μ (pI (fun z ν => (4 : Int) ^ m.toNat = z ∧ μ = ν)) := by
  intro f
  induction f with
  | zero =>
    intro j h0 h1 hm
    exfalso; omega
  | succ f ih =>
    intro j h0 h1 hm
    refine s_iload_3 (pc := 4) dX9_power_4 ?_
    refine s_iload_1 (pc := 5) dX9_power_5 ?_
    refine s_icmp_ge (pc := 6) 19 dX9_power_6 rfl (by omega) (by omega) (fun h6 => ?_) (fun h6 => ?_)
    · refine s_iload_2 (pc := 19) dX9_power_19 ?_
      refine s_ireturn (pc := 20) dX9_power_20 rfl ?_
      cases (show j = m by omega)
      exact ⟨rfl, rfl⟩
    · refine s_iload_2 (pc := 9) dX9_power_9 ?_
      refine s_iload_0 (pc := 10) dX9_power_10 ?_
      refine s_imul (pc := 11) dX9_power_11 ?_
      refine s_istore_2 (pc := 12) dX9_power_12 (Nat.le_of_ble_eq_true rfl) rfl ?_
      refine s_iinc_3 (pc := 13) dX9_power_13 (Nat.le_of_ble_eq_true rfl) rfl ?_
      refine s_goto (pc := 16) 4 dX9_power_16 rfl ?_
      rw [← p4_succ h0]
      exact ih (j + 1) (by omega) (by omega) (by omega)
theorem c_X9_power {m : Int} {μ : Mem} (hm0 : 0 ≤ m ∧ m ≤ 4) : Mc kX9_power [.inl (4), .inl m] μ (pI (fun z ν => (4 : Int) ^ m.toNat = z ∧ μ = ν)) := by
  refine Mc_of (by decide +kernel) (fun _ => Nat.le_of_ble_eq_true rfl) ?_
  show AW kX9_power 0 [some (.inl (4)), some (.inl m), none, none] [] μ _
  refine s_iconst_1 (pc := 0) dX9_power_0 ?_
  refine s_istore_2 (pc := 1) dX9_power_1 (Nat.le_of_ble_eq_true rfl) rfl ?_
  refine s_iconst_0 (pc := 2) dX9_power_2 ?_
  refine s_istore_3 (pc := 3) dX9_power_3 (Nat.le_of_ble_eq_true rfl) rfl ?_
  exact lp_X9_power hm0 5 0 (by omega) (by omega) (by omega)
/-! ===== orders ===== -/
def dg (T i j : Int) : Int := i / (4 : Int) ^ (T - 1 - j).toNat % 4
theorem dg_in {T i j : Int} : 0 ≤ dg T i j ∧ dg T i j < 4 := ⟨Int.emod_nonneg _ (by decide), Int.emod_lt_of_pos _ (by decide)⟩
def ud (T i : Int) : Nat → Int
  | 0 => 0
  | j + 1 => if bt (ud T i j) (dg T i j) = 1 then ud T i j else ud T i j + 2 ^ (dg T i j).toNat
abbrev vd (T i : Int) : Prop := ud T i T.toNat = 2 ^ T.toNat - 1
theorem or_bt {b p : Int} (hb : 0 ≤ b ∧ b < 16) (hp : 0 ≤ p ∧ p < 4) : orI b (shlI 1 p) = (if bt b p = 1 then b else b + 2 ^ p.toNat) ∧ 0 ≤ (if bt b p = 1 then b else b + 2 ^ p.toNat) ∧ (if bt b p = 1 then b else b + 2 ^ p.toNat) < 16 := by
  refine four (P := fun p => orI b (shlI 1 p) = (if bt b p = 1 then b else b + 2 ^ p.toNat) ∧ 0 ≤ (if bt b p = 1 then b else b + 2 ^ p.toNat) ∧ (if bt b p = 1 then b else b + 2 ^ p.toNat) < 16) hp ?_ ?_ ?_ ?_ <;> refine bits16 (P := fun b => orI b (shlI 1 _) = (if bt b _ = 1 then b else b + 2 ^ _) ∧ 0 ≤ (if bt b _ = 1 then b else b + 2 ^ _) ∧ (if bt b _ = 1 then b else b + 2 ^ _) < 16) hb ?_ ?_ ?_ ?_ ?_ ?_ ?_ ?_ ?_ ?_ ?_ ?_ ?_ ?_ ?_ ?_ <;> decide +kernel
theorem ud_in {T i : Int} : ∀ j : Nat, 0 ≤ ud T i j ∧ ud T i j < 16
  | 0 => by show (0 : Int) ≤ 0 ∧ (0 : Int) < 16; decide
  | j + 1 => (or_bt (ud_in j) dg_in).2
theorem ud_succ {T i j : Int} (h : 0 ≤ j) : ud T i (j + 1).toNat = orI (ud T i j.toNat) (shlI 1 (dg T i j)) := by
  rw [show (j + 1).toNat = j.toNat + 1 by omega]
  show (if bt (ud T i j.toNat) (dg T i ((j.toNat : Nat) : Int)) = 1 then ud T i j.toNat else ud T i j.toNat + 2 ^ (dg T i ((j.toNat : Nat) : Int)).toNat) = _
  rw [show ((j.toNat : Nat) : Int) = j by omega]
  exact (or_bt (ud_in _) dg_in).1.symm
theorem vd_all : ∀ T < 5, ∀ i < 256, ud ((T : Nat) : Int) ((i : Nat) : Int) T = 2 ^ T - 1 → ∀ j < T, dg T i ((j : Nat) : Int) < T := by decide +kernel
theorem vd_lt {T i j : Int} (hT : 0 ≤ T ∧ T ≤ 4) (hi : 0 ≤ i ∧ i < 256) (hv : vd T i) (hj : 0 ≤ j ∧ j < T) : dg T i j < T := by
  have := vd_all T.toNat (by omega) i.toNat (by omega)
  rw [show ((T.toNat : Nat) : Int) = T by omega, show ((i.toNat : Nat) : Int) = i by omega] at this
  have := this hv j.toNat (by omega)
  rw [show ((j.toNat : Nat) : Int) = j by omega] at this
  exact this
def wF (κ : Mem) (i : Int) : Mem := wa κ 52 (fun j => if j < κ 125 0 then κ 52 (dg (κ 125 0) i j) else κ 52 j)
def ordN (κ : Mem) (p : Int) : Nat → Int × Int
  | 0 => (-1, 0)
  | m + 1 => if vd (κ 125 0) m ∧ ((ordN κ p m).1 < 0 ∨ am (wF κ m) p < (ordN κ p m).1) then (am (wF κ m) p, m) else ordN κ p m
def ord (κ : Mem) (p : Int) : Int × Int := ordN κ p (4 ^ (κ 125 0).toNat)
theorem ordN_succ {κ : Mem} {p m : Int} (h : 0 ≤ m) : ordN κ p (m + 1).toNat = if vd (κ 125 0) m ∧ ((ordN κ p m.toNat).1 < 0 ∨ am (wF κ m) p < (ordN κ p m.toNat).1) then (am (wF κ m) p, m) else ordN κ p m.toNat := by
  rw [show (m + 1).toNat = m.toNat + 1 by omega]
  show (if vd (κ 125 0) ((m.toNat : Nat) : Int) ∧ ((ordN κ p m.toNat).1 < 0 ∨ am (wF κ ((m.toNat : Nat) : Int)) p < (ordN κ p m.toNat).1) then (am (wF κ ((m.toNat : Nat) : Int)) p, ((m.toNat : Nat) : Int)) else ordN κ p m.toNat) = _
  rw [show ((m.toNat : Nat) : Int) = m by omega]
theorem KR.wa52 {κ : Mem} {g : Int → Int} (h : KR κ) (hg : ∀ p : Int, 0 ≤ p → p < 4 → 0 ≤ g p ∧ g p ≤ 9) : KR (wa κ 52 g) := by
  obtain ⟨r129, r125, r126, r127, r128, r130, rP, r124, r44⟩ := h
  refine ⟨?_, ?_, ?_, ?_, ?_, ?_, fun p p0 p1 => ?_, ?_, ?_⟩ <;> simp (decide := true) only [wa_n, wa_s, if_true, if_false, eq_self, reduceIte]
  all_goals first | assumption | skip
  have := rP p p0 p1
  exact ⟨this.1, this.2.1, this.2.2.1, hg p p0 p1⟩
theorem MR.at52 {κ μ ν : Mem} {F : List Nat} {g : Int → Int} (hM : MR κ μ) (hF : Fr F μ ν) (h : F.all (fun c => decide (c ∉ [44, 49, 50, 51, 124, 125, 126, 127, 128, 129, 130])) = true) (hg : ∀ p : Int, 0 ≤ p → p < 4 → ν 52 p = g p ∧ 0 ≤ g p ∧ g p ≤ 9) : MR (wa κ 52 g) ν := by
  have hc : ∀ c : Nat, c ∈ [44, 49, 50, 51, 124, 125, 126, 127, 128, 129, 130] → ∀ k, ν c k = μ c k := fun c h1 k => by
    rw [hF c (fun q => ?_)]
    have := List.all_eq_true.mp h c q
    simp only [decide_eq_true_eq] at this
    exact this h1
  obtain ⟨h1, m129, m125, m126, m127, m128, m130, mP, m124, m44⟩ := hM
  refine ⟨h1.wa52 fun p p0 p1 => (hg p p0 p1).2, by rw [hc 129 (by decide)]; exact m129, by rw [hc 125 (by decide)]; exact m125, by rw [hc 126 (by decide)]; exact m126, by rw [hc 127 (by decide)]; exact m127, by rw [hc 128 (by decide)]; exact m128, by rw [hc 130 (by decide)]; exact m130, fun p p0 p1 => ?_, by rw [hc 124 (by decide)]; exact m124, fun k k0 k1 => by rw [hc 44 (by decide)]; exact m44 k k0 k1⟩
  rw [hc 49 (by decide), hc 50 (by decide), hc 51 (by decide)]
  obtain ⟨q1, q2, q3, q4⟩ := mP p p0 p1
  exact ⟨q1, q2, q3, (hg p p0 p1).1⟩
theorem wF_in {κ : Mem} (h : KR κ) {i p : Int} (p0 : 0 ≤ p) (p1 : p < 4) : 0 ≤ wF κ i 52 p ∧ wF κ i 52 p ≤ 9 := by
  obtain ⟨r129, r125, r126, r127, r128, r130, rP, r124, r44⟩ := h
  have hd := dg_in (T := κ 125 0) (i := i) (j := p)
  unfold wF
  rw [wa_s]
  split
  · exact (rP _ hd.1 hd.2).2.2.2
  · exact (rP p p0 p1).2.2.2
theorem wF_KO {κ : Mem} (h : KO κ) {i : Int} : KO (wF κ i) := ⟨h.1.wa52 fun p p0 p1 => by have := wF_in h.1 (i := i) p0 p1; unfold wF at this; rwa [wa_s] at this, by unfold wF; rw [wa_n (by decide), wa_n (by decide)]; exact h.2⟩
theorem wF_o {κ : Mem} {i : Int} {c : Nat} (h : c ≠ 52) : wF κ i c = κ c := wa_nc h
theorem wF_sc {κ : Mem} {i : Int} : sc (wF κ i) = sc κ := by unfold sc; rw [wF_o (by decide)]
theorem wF_am {κ : Mem} (h : KO κ) {i p : Int} (p0 : 0 ≤ p) (p1 : p < κ 129 0) : 0 ≤ am (wF κ i) p ∧ am (wF κ i) p ≤ 6144 ^ (κ 125 0).toNat := by
  have := am_in (wF_KO h (i := i)) p0 (by rw [wF_o (by decide)]; exact p1)
  rw [wF_o (c := 125) (by decide)] at this
  exact this
theorem ordN_pos {κ : Mem} (h : KO κ) {p : Int} (p0 : 0 ≤ p) (p1 : p < κ 129 0) {i : Nat} (hv : vd (κ 125 0) i) : ∀ m : Nat, i < m → 0 ≤ (ordN κ p m).1
  | 0, q => by omega
  | m + 1, q => by
    have ha := wF_am h (i := m) p0 p1
    show 0 ≤ (if vd (κ 125 0) m ∧ ((ordN κ p m).1 < 0 ∨ am (wF κ m) p < (ordN κ p m).1) then (am (wF κ m) p, (m : Int)) else ordN κ p m).1
    split
    · exact ha.1
    · rename_i hn
      by_cases hm : i < m
      · exact ordN_pos h p0 p1 hv m hm
      · cases (show i = m by omega)
        have : ¬ (ordN κ p i).1 < 0 := fun q => hn ⟨hv, Or.inl q⟩
        omega
theorem ord_pos {κ : Mem} (h : KO κ) {p : Int} (p0 : 0 ≤ p) (p1 : p < κ 129 0) : 0 ≤ (ord κ p).1 := by
  have h2 := h.1.2.1
  unfold ord
  rcases (show κ 125 0 = 0 ∨ κ 125 0 = 1 ∨ κ 125 0 = 2 ∨ κ 125 0 = 3 ∨ κ 125 0 = 4 by omega) with e | e | e | e | e
  · exact ordN_pos h p0 p1 (i := 0) (by rw [e]; decide) _ (by rw [e]; decide)
  · exact ordN_pos h p0 p1 (i := 0) (by rw [e]; decide) _ (by rw [e]; decide)
  · exact ordN_pos h p0 p1 (i := 1) (by rw [e]; decide) _ (by rw [e]; decide)
  · exact ordN_pos h p0 p1 (i := 6) (by rw [e]; decide) _ (by rw [e]; decide)
  · exact ordN_pos h p0 p1 (i := 27) (by rw [e]; decide) _ (by rw [e]; decide)
def RO (κ : Mem) (s : Int × Int) (w : Int) (ν : Mem) : Prop := (s.1 < 0 ∧ w = -1) ∨ (0 ≤ s.1 ∧ s.1 ≤ 6144 ^ (κ 125 0).toNat ∧ w = s.1 * sc κ ∧ ∀ j : Int, 0 ≤ j → j < κ 125 0 → ν 56 j = dg (κ 125 0) s.2 j)
theorem lp_X9_ordA {T p w i : Int} {ν0 : Mem} {post : Option AV → Mem → Prop} (hT : 0 ≤ T ∧ T ≤ 4) (hi : 0 ≤ i ∧ i < 256) (e125 : ν0 125 0 = T) (hk : ∀ ν, Fr [55] ν0 ν → (∀ m : Int, 0 ≤ m → m < T → ν 55 m = dg T i m) → AW kX9_findOrder 84 [some (.inr (.inr 9)), some (.inl p), some (.inr (.inl w)), none, some (.inl i), some (.inl (ud T i T.toNat)), none, none, none] [] ν post) : ∀ (f : Nat) (j : Int) (ν : Mem), (0 ≤ j) → (j ≤ T) → (Fr [55] ν0 ν) → (∀ m : Int, 0 ≤ m → m < j → ν 55 m = dg T i m) → T - j < (f : Int) → AW kX9_findOrder 30 [some (.inr (.inr 9)), some (.inl p), some (.inr (.inl w)), none, some (.inl i), some (.inl (ud T i j.toNat)), some (.inl j), none, none] [] ν (post) := by
  intro f
  induction f with
  | zero =>
    intro j ν h0 h1 hF hv hm
    exfalso; omega
  | succ f ih =>
    intro j ν h0 h1 hF hv hm
    have c125 : ν 125 0 = T := (hF.at 125 rfl 0).trans e125
    refine s_iload_6 (pc := 30) dX9_findOrder_30 ?_
    refine s_aload_0 (pc := 32) dX9_findOrder_32 ?_
    refine gfX9_129 (pc := 33) dX9_findOrder_33 rfl ?_
    try simp (decide := true) only [wr_s, wr_n, wa_s, wa_n, mg_i, mg_o, if_true, eq_self, reduceIte]
    refine s_icmp_ge (pc := 36) 84 dX9_findOrder_36 rfl (by omega) (by omega) (fun h36 => ?_) (fun h36 => ?_)
    · cases (show j = T by omega)
      refine s_le ?_ (hk ν hF hv)
      exact ⟨Or.inr rfl, Or.inr rfl, Or.inr rfl, Or.inl rfl, Or.inr rfl, Or.inr rfl, Or.inl rfl, Or.inl rfl, Or.inl rfl, trivial⟩
    · refine s_aload_0 (pc := 39) dX9_findOrder_39 ?_
      refine gfX9_59 (pc := 40) dX9_findOrder_40 rfl ?_
      refine s_iload_6 (pc := 43) dX9_findOrder_43 ?_
      refine s_iload_4 (pc := 45) dX9_findOrder_45 ?_
      refine s_iconst_4 (pc := 47) dX9_findOrder_47 ?_
      refine s_aload_0 (pc := 48) dX9_findOrder_48 ?_
      refine gfX9_129 (pc := 49) dX9_findOrder_49 rfl ?_
      try simp (decide := true) only [wr_s, wr_n, wa_s, wa_n, mg_i, mg_o, if_true, eq_self, reduceIte]
      refine s_iconst_1 (pc := 52) dX9_findOrder_52 ?_
      refine s_isub (pc := 53) dX9_findOrder_53 ?_
      refine s_iload_6 (pc := 54) dX9_findOrder_54 ?_
      refine s_isub (pc := 56) dX9_findOrder_56 ?_
      rw [c125]
      refine cS2i (pc := 57) (Ky := kX9_power) dX9_findOrder_57 rfl lnX9_291 okX9_power ⟨Nat.le_of_ble_eq_true rfl, Nat.le_of_ble_eq_true rfl⟩ (Nat.le_of_ble_eq_true rfl) (c_X9_power (by omega)) ?_
      rintro _ _ ⟨rfl, rfl⟩
      have hp4 := p4_in (j := T - 1 - j) (by omega)
      refine s_idiv (pc := 60) dX9_findOrder_60 (by omega) (by omega) ?_
      rw [Int.tdiv_eq_ediv_of_nonneg (by omega)]
      have hdv : 0 ≤ i / (4 : Int) ^ (T - 1 - j).toNat ∧ i / (4 : Int) ^ (T - 1 - j).toNat ≤ i := ⟨Int.ediv_nonneg hi.1 (by omega), Int.ediv_le_self _ hi.1⟩
      refine s_iconst_4 (pc := 61) dX9_findOrder_61 ?_
      refine s_irem (pc := 62) dX9_findOrder_62 (by omega) (by omega) ?_
      rw [Int.tmod_eq_emod_of_nonneg (by omega)]
      have hdg := dg_in (T := T) (i := i) (j := j)
      refine s_valI (y := dg T i j) (by rfl) ?_
      refine z_iastore (pc := 63) dX9_findOrder_63 ly_55 ip_55 (by omega) (by omega) ?_
      refine s_iload_5 (pc := 64) dX9_findOrder_64 ?_
      refine s_iconst_1 (pc := 66) dX9_findOrder_66 ?_
      refine s_aload_0 (pc := 67) dX9_findOrder_67 ?_
      refine gfX9_59 (pc := 68) dX9_findOrder_68 rfl ?_
      refine s_iload_6 (pc := 71) dX9_findOrder_71 ?_
      refine z_iaload (pc := 73) dX9_findOrder_73 ly_55 (by omega) (by omega) ?_
      try simp (decide := true) only [wr_s, wr_n, wa_s, wa_n, mg_i, mg_o, if_true, eq_self, reduceIte]
      refine s_ishl (pc := 74) dX9_findOrder_74 ?_
      refine s_ior (pc := 75) dX9_findOrder_75 ?_
      refine s_istore_5 (pc := 76) dX9_findOrder_76 (Nat.le_of_ble_eq_true rfl) rfl ?_
      refine s_iinc_6 (pc := 78) dX9_findOrder_78 (Nat.le_of_ble_eq_true rfl) rfl ?_
      refine s_goto (pc := 81) 30 dX9_findOrder_81 rfl ?_
      rw [← ud_succ h0]
      refine s_le ?_ (ih (j + 1) _ (by omega) (by omega) (hF.wr (by decide)) (fun m m0 m1 => ?_) (by omega))
      · exact ⟨Or.inr rfl, Or.inr rfl, Or.inr rfl, Or.inl rfl, Or.inr rfl, Or.inr rfl, Or.inr rfl, Or.inl rfl, Or.inl rfl, trivial⟩
      · by_cases hm : m = j
        · rw [hm, wr_s, if_pos rfl]
        · rw [wr_s, if_neg hm]; exact hv m m0 (by omega)
theorem lp_X9_ordB {T p w i : Int} {ν0 : Mem} {g : Int → Int} {post : Option AV → Mem → Prop} (hT : 0 ≤ T ∧ T ≤ 4) (e125 : ν0 125 0 = T) (hr : ∀ m : Int, 0 ≤ m → m < T → 0 ≤ ν0 55 m ∧ ν0 55 m < 4 ∧ ν0 45 (ν0 55 m) = g m) (hk : ∀ ν, Fr [52] ν0 ν → (∀ m : Int, 0 ≤ m → m < T → ν 52 m = g m) → (∀ m : Int, T ≤ m → ν 52 m = ν0 52 m) → AW kX9_findOrder 134 [some (.inr (.inr 9)), some (.inl p), some (.inr (.inl w)), none, some (.inl i), none, none, none, none] [] ν post) : ∀ (f : Nat) (j : Int) (ν : Mem), (0 ≤ j) → (j ≤ T) → (Fr [52] ν0 ν) → (∀ m : Int, 0 ≤ m → m < j → ν 52 m = g m) → (∀ m : Int, T ≤ m → ν 52 m = ν0 52 m) → T - j < (f : Int) → AW kX9_findOrder 100 [some (.inr (.inr 9)), some (.inl p), some (.inr (.inl w)), none, some (.inl i), none, some (.inl j), none, none] [] ν (post) := by
  intro f
  induction f with
  | zero =>
    intro j ν h0 h1 hF hv hu hm
    exfalso; omega
  | succ f ih =>
    intro j ν h0 h1 hF hv hu hm
    have c125 : ν 125 0 = T := (hF.at 125 rfl 0).trans e125
    have c55 : ν 55 j = ν0 55 j := hF.at 55 rfl j
    have c45 : ν 45 (ν 55 j) = ν0 45 (ν0 55 j) := by rw [c55]; exact hF.at 45 rfl _
    refine s_iload_6 (pc := 100) dX9_findOrder_100 ?_
    refine s_aload_0 (pc := 102) dX9_findOrder_102 ?_
    refine gfX9_129 (pc := 103) dX9_findOrder_103 rfl ?_
    try simp (decide := true) only [wr_s, wr_n, wa_s, wa_n, mg_i, mg_o, if_true, eq_self, reduceIte]
    refine s_icmp_ge (pc := 106) 134 dX9_findOrder_106 rfl (by omega) (by omega) (fun h106 => ?_) (fun h106 => ?_)
    · cases (show j = T by omega)
      refine s_le ?_ (hk ν hF hv hu)
      exact ⟨Or.inr rfl, Or.inr rfl, Or.inr rfl, Or.inl rfl, Or.inr rfl, Or.inl rfl, Or.inl rfl, Or.inl rfl, Or.inl rfl, trivial⟩
    · refine s_aload_0 (pc := 109) dX9_findOrder_109 ?_
      refine gfX9_49 (pc := 110) dX9_findOrder_110 rfl ?_
      obtain ⟨q1, q2, q3⟩ := hr j h0 (by omega)
      refine s_iload_6 (pc := 113) dX9_findOrder_113 ?_
      refine s_aload_0 (pc := 115) dX9_findOrder_115 ?_
      refine gfX9_28 (pc := 116) dX9_findOrder_116 rfl ?_
      refine s_aload_0 (pc := 119) dX9_findOrder_119 ?_
      refine gfX9_59 (pc := 120) dX9_findOrder_120 rfl ?_
      refine s_iload_6 (pc := 123) dX9_findOrder_123 ?_
      refine z_iaload (pc := 125) dX9_findOrder_125 ly_55 (by omega) (by omega) ?_
      try simp (decide := true) only [wr_s, wr_n, wa_s, wa_n, mg_i, mg_o, if_true, eq_self, reduceIte]
      refine z_iaload (pc := 126) dX9_findOrder_126 ly_45 (by omega) (by omega) ?_
      try simp (decide := true) only [wr_s, wr_n, wa_s, wa_n, mg_i, mg_o, if_true, eq_self, reduceIte]
      refine z_iastore (pc := 127) dX9_findOrder_127 ly_52 ip_52 (by omega) (by omega) ?_
      refine s_iinc_6 (pc := 128) dX9_findOrder_128 (Nat.le_of_ble_eq_true rfl) rfl ?_
      refine s_goto (pc := 131) 100 dX9_findOrder_131 rfl ?_
      refine s_le ?_ (ih (j + 1) _ (by omega) (by omega) (hF.wr (by decide)) (fun m m0 m1 => ?_) (fun m m0 => ?_) (by omega))
      · exact ⟨Or.inr rfl, Or.inr rfl, Or.inr rfl, Or.inl rfl, Or.inr rfl, Or.inl rfl, Or.inr rfl, Or.inl rfl, Or.inl rfl, trivial⟩
      · by_cases hm : m = j
        · rw [hm, wr_s, if_pos rfl, c45]; exact q3
        · rw [wr_s, if_neg hm]; exact hv m m0 (by omega)
      · rw [wr_s, if_neg (by omega)]; exact hu m m0
theorem lp_X9_ordC {T p w i : Int} {ν0 : Mem} {post : Option AV → Mem → Prop} (hT : 0 ≤ T ∧ T ≤ 4) (e125 : ν0 125 0 = T) (hk : ∀ ν, Fr [56] ν0 ν → (∀ m : Int, 0 ≤ m → m < T → ν 56 m = ν0 55 m) → AW kX9_findOrder 189 [some (.inr (.inr 9)), some (.inl p), some (.inr (.inl w)), none, some (.inl i), none, none, none, none] [] ν post) : ∀ (f : Nat) (j : Int) (ν : Mem), (0 ≤ j) → (j ≤ T) → (Fr [56] ν0 ν) → (∀ m : Int, 0 ≤ m → m < j → ν 56 m = ν0 55 m) → T - j < (f : Int) → AW kX9_findOrder 160 [some (.inr (.inr 9)), some (.inl p), some (.inr (.inl w)), none, some (.inl i), none, none, none, some (.inl j)] [] ν (post) := by
  intro f
  induction f with
  | zero =>
    intro j ν h0 h1 hF hv hm
    exfalso; omega
  | succ f ih =>
    intro j ν h0 h1 hF hv hm
    have c125 : ν 125 0 = T := (hF.at 125 rfl 0).trans e125
    have c55 : ν 55 j = ν0 55 j := hF.at 55 rfl j
    refine s_iload_8 (pc := 160) dX9_findOrder_160 ?_
    refine s_aload_0 (pc := 162) dX9_findOrder_162 ?_
    refine gfX9_129 (pc := 163) dX9_findOrder_163 rfl ?_
    try simp (decide := true) only [wr_s, wr_n, wa_s, wa_n, mg_i, mg_o, if_true, eq_self, reduceIte]
    refine s_icmp_ge (pc := 166) 189 dX9_findOrder_166 rfl (by omega) (by omega) (fun h166 => ?_) (fun h166 => ?_)
    · cases (show j = T by omega)
      refine s_le ?_ (hk ν hF hv)
      exact ⟨Or.inr rfl, Or.inr rfl, Or.inr rfl, Or.inl rfl, Or.inr rfl, Or.inl rfl, Or.inl rfl, Or.inl rfl, Or.inl rfl, trivial⟩
    · refine s_aload_0 (pc := 169) dX9_findOrder_169 ?_
      refine gfX9_62 (pc := 170) dX9_findOrder_170 rfl ?_
      refine s_iload_8 (pc := 173) dX9_findOrder_173 ?_
      refine s_aload_0 (pc := 175) dX9_findOrder_175 ?_
      refine gfX9_59 (pc := 176) dX9_findOrder_176 rfl ?_
      refine s_iload_8 (pc := 179) dX9_findOrder_179 ?_
      refine z_iaload (pc := 181) dX9_findOrder_181 ly_55 (by omega) (by omega) ?_
      try simp (decide := true) only [wr_s, wr_n, wa_s, wa_n, mg_i, mg_o, if_true, eq_self, reduceIte]
      refine z_iastore (pc := 182) dX9_findOrder_182 ly_56 ip_56 (by omega) (by omega) ?_
      refine s_iinc_8 (pc := 183) dX9_findOrder_183 (Nat.le_of_ble_eq_true rfl) rfl ?_
      refine s_goto (pc := 186) 160 dX9_findOrder_186 rfl ?_
      refine s_le ?_ (ih (j + 1) _ (by omega) (by omega) (hF.wr (by decide)) (fun m m0 m1 => ?_) (by omega))
      · exact ⟨Or.inr rfl, Or.inr rfl, Or.inr rfl, Or.inl rfl, Or.inr rfl, Or.inl rfl, Or.inl rfl, Or.inl rfl, Or.inr rfl, trivial⟩
      · by_cases hm : m = j
        · rw [hm, wr_s, if_pos rfl, c55]
        · rw [wr_s, if_neg hm]; exact hv m m0 (by omega)
theorem lp_X9_ord {κ : Mem} {p : Int} {μ : Mem} (hMμ : MR κ μ) (hko : KO κ) (hp : 0 ≤ p ∧ p < κ 129 0) (e45 : ∀ k : Int, 0 ≤ k → k < κ 125 0 → μ 45 k = κ 52 k) : ∀ (f : Nat) (i w : Int) (ν : Mem), (0 ≤ i) → (i ≤ (4 : Int) ^ (κ 125 0).toNat) → (Fr [52, 53, 54, 55, 56] μ ν) → (∀ m : Int, κ 125 0 ≤ m → ν 52 m = μ 52 m) → (RO κ (ordN κ p i.toNat) w ν) → (4 : Int) ^ (κ 125 0).toNat - i < (f : Int) → AW kX9_findOrder 11 [some (.inr (.inr 9)), some (.inl p), some (.inr (.inl w)), none, some (.inl i), none, none, none, none] [] ν (pV (fun ν => Fr [52, 53, 54, 55, 56] μ ν ∧ ∀ j : Int, 0 ≤ j → j < κ 125 0 → ν 56 j = dg (κ 125 0) (ord κ p).2 j)) := by
  intro f
  induction f with
  | zero =>
    intro i w ν h0 h1 hF h52 hR hm
    exfalso; omega
  | succ f ih =>
    intro i w ν h0 h1 hF h52 hR hm
    have hk1 := hko.1
    have r129 := hk1.1
    have r125 := hk1.2.1
    have hp4 := p4_in r125
    have m125 : ν 125 0 = κ 125 0 := (hF.at 125 rfl 0).trans hMμ.2.2.1
    have hsu := ordN_succ (κ := κ) (p := p) h0
    have hudi := ud_in (T := κ 125 0) (i := i) (κ 125 0).toNat
    have hps := pw_small r125
    have ham := wF_am hko (i := i) hp.1 hp.2
    have hci := cost_in hk1 ham.1 (show am (wF κ i) p ≤ 54 * 6144 ^ (κ 125 0).toNat by have := p6144 hk1; omega)
    have hw : -1 ≤ w ∧ w < 4611686018427387904 := by
      rcases hR with ⟨q1, q2⟩ | ⟨q1, q2, q3, q4⟩
      · omega
      · have := cost_in hk1 (a := (ordN κ p i.toNat).1) q1 (by have := p6144 hk1; omega)
        omega
    refine s_iload_4 (pc := 11) dX9_findOrder_11 ?_
    refine s_iconst_4 (pc := 13) dX9_findOrder_13 ?_
    refine s_aload_0 (pc := 14) dX9_findOrder_14 ?_
    refine gfX9_129 (pc := 15) dX9_findOrder_15 rfl ?_
    try simp (decide := true) only [wr_s, wr_n, wa_s, wa_n, mg_i, mg_o, if_true, eq_self, reduceIte]
    rw [m125]
    refine cS2i (pc := 18) (Ky := kX9_power) dX9_findOrder_18 rfl lnX9_291 okX9_power ⟨Nat.le_of_ble_eq_true rfl, Nat.le_of_ble_eq_true rfl⟩ (Nat.le_of_ble_eq_true rfl) (c_X9_power (by omega)) ?_
    rintro _ _ ⟨rfl, rfl⟩
    refine s_icmp_ge (pc := 21) 195 dX9_findOrder_21 rfl (by omega) (by omega) (fun h21 => ?_) (fun h21 => ?_)
    · refine s_return (pc := 195) dX9_findOrder_195 rfl ?_
      cases (show i = (4 : Int) ^ (κ 125 0).toNat by omega)
      refine ⟨hF, ?_⟩
      have hpos := ord_pos hko hp.1 hp.2
      rw [show ((4 : Int) ^ (κ 125 0).toNat).toNat = 4 ^ (κ 125 0).toNat by rw [show (4 : Int) ^ (κ 125 0).toNat = ((4 ^ (κ 125 0).toNat : Nat) : Int) by rw [Int.natCast_pow]; rfl]; exact Int.toNat_natCast _] at hR
      rcases hR with ⟨q1, q2⟩ | ⟨q1, q2, q3, q4⟩
      · exact absurd q1 (by unfold ord at hpos; omega)
      · exact q4
    · refine s_iconst_0 (pc := 24) dX9_findOrder_24 ?_
      refine s_istore_5 (pc := 25) dX9_findOrder_25 (Nat.le_of_ble_eq_true rfl) rfl ?_
      refine s_iconst_0 (pc := 27) dX9_findOrder_27 ?_
      refine s_istore_6 (pc := 28) dX9_findOrder_28 (Nat.le_of_ble_eq_true rfl) rfl ?_
      refine s_le ?_ (lp_X9_ordA (T := κ 125 0) (p := p) (w := w) (i := i) (ν0 := ν) r125 (by omega) m125 ?_ 5 0 ν (by omega) (by omega) Fr.rf (fun m m0 m1 => by omega) (by omega))
      · exact ⟨Or.inr rfl, Or.inr rfl, Or.inr rfl, Or.inl rfl, Or.inr rfl, Or.inr rfl, Or.inr rfl, Or.inl rfl, Or.inl rfl, trivial⟩
      · intro ν1 hF1 hv1
        have m125a : ν1 125 0 = κ 125 0 := (hF1.at 125 rfl 0).trans m125
        refine s_iload_5 (pc := 84) dX9_findOrder_84 ?_
        refine s_iconst_1 (pc := 86) dX9_findOrder_86 ?_
        refine s_aload_0 (pc := 87) dX9_findOrder_87 ?_
        refine gfX9_129 (pc := 88) dX9_findOrder_88 rfl ?_
        try simp (decide := true) only [wr_s, wr_n, wa_s, wa_n, mg_i, mg_o, if_true, eq_self, reduceIte]
        refine s_ishl (pc := 91) dX9_findOrder_91 ?_
        refine s_iconst_1 (pc := 92) dX9_findOrder_92 ?_
        rw [m125a, shl1 (by omega)]
        refine s_isub (pc := 93) dX9_findOrder_93 ?_
        refine s_icmp_ne (pc := 94) 189 dX9_findOrder_94 rfl (by omega) (by omega) (fun h94 => ?_) (fun h94 => ?_)
        · have hnv : ¬ (vd (κ 125 0) i ∧ ((ordN κ p i.toNat).1 < 0 ∨ am (wF κ i) p < (ordN κ p i.toNat).1)) := fun q => by have := q.1; unfold vd at this; omega
          refine s_iinc_4 (pc := 189) dX9_findOrder_189 (Nat.le_of_ble_eq_true rfl) rfl ?_
          refine s_goto (pc := 192) 11 dX9_findOrder_192 rfl ?_
          refine s_le ?_ (ih (i + 1) w ν1 (by omega) (by omega) (hF.tr (hF1.mono (by decide))) (fun m m0 => by rw [hF1.at 52 rfl m]; exact h52 m m0) ?_ (by omega))
          · exact ⟨Or.inr rfl, Or.inr rfl, Or.inr rfl, Or.inl rfl, Or.inr rfl, Or.inl rfl, Or.inl rfl, Or.inl rfl, Or.inl rfl, trivial⟩
          · rw [hsu, if_neg hnv]
            rcases hR with ⟨q1, q2⟩ | ⟨q1, q2, q3, q4⟩
            · exact Or.inl ⟨q1, q2⟩
            · exact Or.inr ⟨q1, q2, q3, fun j j0 j1 => by rw [hF1.at 56 rfl j]; exact q4 j j0 j1⟩
        · have hv : vd (κ 125 0) i := by unfold vd; omega
          refine s_iconst_0 (pc := 97) dX9_findOrder_97 ?_
          refine s_istore_6 (pc := 98) dX9_findOrder_98 (Nat.le_of_ble_eq_true rfl) rfl ?_
          refine s_le ?_ (lp_X9_ordB (T := κ 125 0) (p := p) (w := w) (i := i) (ν0 := ν1) (g := fun m => κ 52 (dg (κ 125 0) i m)) r125 m125a ?_ ?_ 5 0 ν1 (by omega) (by omega) Fr.rf (fun m m0 m1 => by omega) (fun m m0 => rfl) (by omega))
          · exact ⟨Or.inr rfl, Or.inr rfl, Or.inr rfl, Or.inl rfl, Or.inr rfl, Or.inl rfl, Or.inr rfl, Or.inl rfl, Or.inl rfl, trivial⟩
          · intro m m0 m1
            have hdg := dg_in (T := κ 125 0) (i := i) (j := m)
            have hlt := vd_lt r125 (by omega) hv ⟨m0, m1⟩
            rw [hv1 m m0 m1]
            exact ⟨hdg.1, hdg.2, by rw [hF1.at 45 rfl, hF.at 45 rfl]; exact e45 _ hdg.1 hlt⟩
          · intro ν2 hF2 hv2 hu2
            refine s_aload_0 (pc := 134) dX9_findOrder_134 ?_
            refine s_iload_1 (pc := 135) dX9_findOrder_135 ?_
            have hFF : Fr [52, 53, 54, 55, 56] μ ν2 := (hF.tr (hF1.mono (by decide))).tr (hF2.mono (by decide))
            have hM2 : MR (wF κ i) ν2 := hMμ.at52 hFF (by decide) fun q q0 q1 => by
              have hwi := wF_in hk1 (i := i) q0 q1
              unfold wF at hwi
              rw [wa_s] at hwi
              refine ⟨?_, hwi⟩
              by_cases hq : q < κ 125 0
              · rw [if_pos hq]; exact hv2 q q0 hq
              · rw [if_neg hq, hu2 q (by omega), hF1.at 52 rfl q, h52 q (by omega)]; exact (hMμ.2.2.2.2.2.2.2.1 q q0 q1).2.2.2
            have hx2 : ∀ m : Int, κ 125 0 ≤ m → ν2 52 m = μ 52 m := fun m m0 => by rw [hu2 m m0, hF1.at 52 rfl m]; exact h52 m m0
            refine cV1l (pc := 136) (Ky := kX9_amountNow) dX9_findOrder_136 rfl lnX9_230 okX9_amountNow ⟨9, TX9, 40, rfl, rfl⟩ ⟨Nat.le_of_ble_eq_true rfl, Nat.le_of_ble_eq_true rfl⟩ (Nat.le_of_ble_eq_true rfl) (c_X9_amountNow hM2 (wF_KO hko).2 (by rw [wF_o (by decide)]; exact hp)) ?_
            rintro _ ν3 ⟨rfl, hF3⟩
            rw [wF_sc]
            have hF4 : Fr [52, 53, 54, 55, 56] μ ν3 := hFF.tr (hF3.mono (by decide))
            have hx3 : ∀ m : Int, κ 125 0 ≤ m → ν3 52 m = μ 52 m := fun m m0 => by rw [hF3.at 52 rfl m]; exact hx2 m m0
            have m125c : ν3 125 0 = κ 125 0 := (hF4.at 125 rfl 0).trans hMμ.2.2.1
            have h55 : ∀ m : Int, 0 ≤ m → m < κ 125 0 → ν3 55 m = dg (κ 125 0) i m := fun m m0 m1 => by rw [hF3.at 55 rfl m, hF2.at 55 rfl m]; exact hv1 m m0 m1
            refine s_lstore_6 (pc := 139) dX9_findOrder_139 (Nat.le_of_ble_eq_true rfl) rfl ?_
            refine s_lload_2 (pc := 141) dX9_findOrder_141 ?_
            refine s_lconst_0 (pc := 142) dX9_findOrder_142 ?_
            refine s_lif_lt (pc := 143) 154 dX9_findOrder_143 dX9_findOrder_144 rfl (by omega) (by omega) (fun h144 => ?_) (fun h144 => ?_)
            · have hup : vd (κ 125 0) i ∧ ((ordN κ p i.toNat).1 < 0 ∨ am (wF κ i) p < (ordN κ p i.toNat).1) := by
                refine ⟨hv, ?_⟩
                rcases hR with ⟨q1, q2⟩ | ⟨q1, q2, q3, q4⟩
                · exact Or.inl q1
                · have := cost_in hk1 q1 (by have := p6144 hk1; omega); omega
              refine s_lload_6 (pc := 154) dX9_findOrder_154 ?_
              refine s_lstore_2 (pc := 156) dX9_findOrder_156 (Nat.le_of_ble_eq_true rfl) rfl ?_
              refine s_iconst_0 (pc := 157) dX9_findOrder_157 ?_
              refine s_istore_8 (pc := 158) dX9_findOrder_158 (Nat.le_of_ble_eq_true rfl) rfl ?_
              refine s_le ?_ (lp_X9_ordC (T := κ 125 0) (p := p) (w := am (wF κ i) p * sc κ) (i := i) (ν0 := ν3) r125 m125c ?_ 5 0 ν3 (by omega) (by omega) Fr.rf (fun m m0 m1 => by omega) (by omega))
              · exact ⟨Or.inr rfl, Or.inr rfl, Or.inr rfl, Or.inl rfl, Or.inr rfl, Or.inl rfl, Or.inl rfl, Or.inl rfl, Or.inr rfl, trivial⟩
              · intro ν5 hF5 hv5
                refine s_iinc_4 (pc := 189) dX9_findOrder_189 (Nat.le_of_ble_eq_true rfl) rfl ?_
                refine s_goto (pc := 192) 11 dX9_findOrder_192 rfl ?_
                refine s_le ?_ (ih (i + 1) (am (wF κ i) p * sc κ) ν5 (by omega) (by omega) (hF4.tr (hF5.mono (by decide))) (fun m m0 => by rw [hF5.at 52 rfl m]; exact hx3 m m0) ?_ (by omega))
                · exact ⟨Or.inr rfl, Or.inr rfl, Or.inr rfl, Or.inl rfl, Or.inr rfl, Or.inl rfl, Or.inl rfl, Or.inl rfl, Or.inl rfl, trivial⟩
                · rw [hsu, if_pos hup]
                  exact Or.inr ⟨ham.1, ham.2, rfl, fun j j0 j1 => by rw [hv5 j j0 j1]; exact h55 j j0 j1⟩
            · refine s_lload_6 (pc := 147) dX9_findOrder_147 ?_
              refine s_lload_2 (pc := 149) dX9_findOrder_149 ?_
              refine s_lif_ge (pc := 150) 189 dX9_findOrder_150 dX9_findOrder_151 rfl (by omega) (by omega) (fun h151 => ?_) (fun h151 => ?_)
              · have hnv : ¬ (vd (κ 125 0) i ∧ ((ordN κ p i.toNat).1 < 0 ∨ am (wF κ i) p < (ordN κ p i.toNat).1)) := by
                  rintro ⟨-, hq⟩
                  rcases hR with ⟨q1, q2⟩ | ⟨q1, q2, q3, q4⟩
                  · omega
                  · have := (mul_lt_sc hk1 (a := am (wF κ i) p) (b := (ordN κ p i.toNat).1)); omega
                refine s_iinc_4 (pc := 189) dX9_findOrder_189 (Nat.le_of_ble_eq_true rfl) rfl ?_
                refine s_goto (pc := 192) 11 dX9_findOrder_192 rfl ?_
                refine s_le ?_ (ih (i + 1) w ν3 (by omega) (by omega) hF4 hx3 ?_ (by omega))
                · exact ⟨Or.inr rfl, Or.inr rfl, Or.inr rfl, Or.inl rfl, Or.inr rfl, Or.inl rfl, Or.inl rfl, Or.inl rfl, Or.inl rfl, trivial⟩
                · rw [hsu, if_neg hnv]
                  rcases hR with ⟨q1, q2⟩ | ⟨q1, q2, q3, q4⟩
                  · exact Or.inl ⟨q1, q2⟩
                  · exact Or.inr ⟨q1, q2, q3, fun j j0 j1 => by rw [hF3.at 56 rfl j, hF2.at 56 rfl j, hF1.at 56 rfl j]; exact q4 j j0 j1⟩
              · have hup : vd (κ 125 0) i ∧ ((ordN κ p i.toNat).1 < 0 ∨ am (wF κ i) p < (ordN κ p i.toNat).1) := by
                  refine ⟨hv, ?_⟩
                  rcases hR with ⟨q1, q2⟩ | ⟨q1, q2, q3, q4⟩
                  · exact Or.inl q1
                  · refine Or.inr ((mul_lt_sc hk1).mp ?_); omega
                refine s_lload_6 (pc := 154) dX9_findOrder_154 ?_
                refine s_lstore_2 (pc := 156) dX9_findOrder_156 (Nat.le_of_ble_eq_true rfl) rfl ?_
                refine s_iconst_0 (pc := 157) dX9_findOrder_157 ?_
                refine s_istore_8 (pc := 158) dX9_findOrder_158 (Nat.le_of_ble_eq_true rfl) rfl ?_
                refine s_le ?_ (lp_X9_ordC (T := κ 125 0) (p := p) (w := am (wF κ i) p * sc κ) (i := i) (ν0 := ν3) r125 m125c ?_ 5 0 ν3 (by omega) (by omega) Fr.rf (fun m m0 m1 => by omega) (by omega))
                · exact ⟨Or.inr rfl, Or.inr rfl, Or.inr rfl, Or.inl rfl, Or.inr rfl, Or.inl rfl, Or.inl rfl, Or.inl rfl, Or.inr rfl, trivial⟩
                · intro ν5 hF5 hv5
                  refine s_iinc_4 (pc := 189) dX9_findOrder_189 (Nat.le_of_ble_eq_true rfl) rfl ?_
                  refine s_goto (pc := 192) 11 dX9_findOrder_192 rfl ?_
                  refine s_le ?_ (ih (i + 1) (am (wF κ i) p * sc κ) ν5 (by omega) (by omega) (hF4.tr (hF5.mono (by decide))) (fun m m0 => by rw [hF5.at 52 rfl m]; exact hx3 m m0) ?_ (by omega))
                  · exact ⟨Or.inr rfl, Or.inr rfl, Or.inr rfl, Or.inl rfl, Or.inr rfl, Or.inl rfl, Or.inl rfl, Or.inl rfl, Or.inl rfl, trivial⟩
                  · rw [hsu, if_pos hup]
                    exact Or.inr ⟨ham.1, ham.2, rfl, fun j j0 j1 => by rw [hv5 j j0 j1]; exact h55 j j0 j1⟩
theorem c_X9_findOrder {tx : Int → Int} {n p : Int} {hd lv : Int → Int} {μ : Mem} (hp : 0 ≤ p ∧ p < pPe tx n) (e43 : μ 43 = tx) (e122 : μ 122 0 = n) (hn : 0 ≤ n ∧ n ≤ 60) (ht : ∀ k : Int, 0 ≤ k → k < n → 0 ≤ tx k ∧ tx k ≤ 255) (e47 : μ 47 = hd) (e48 : μ 48 = lv) (hhd : ∀ p : Int, 0 ≤ p → p < 4 → 0 ≤ hd p ∧ hd p ≤ 15) (hlv : ∀ p : Int, 0 ≤ p → p < 4 → 0 ≤ lv p ∧ lv p ≤ 4) : Mc kX9_findOrder [.inr (.inr 9), .inl p] μ (pV (fun ν => FrT tx n [42, 44, 45, 46, 49, 50, 51, 52, 53, 54, 55, 56, 123, 124, 125, 126, 127, 128, 129, 130, 131, 132, 133, 134] μ ν ∧ ∀ j : Int, 0 ≤ j → j < pTa tx n → ν 56 j = dg (pTa tx n) (ord (cfg tx n hd lv) p).2 j)) := by
  refine Mc_of (by decide +kernel) (fun _ => Nat.le_of_ble_eq_true rfl) ?_
  show AW kX9_findOrder 0 [some (.inr (.inr 9)), some (.inl p), none, none, none, none, none, none, none] [] μ _
  have hpe := pPe_in (tx := tx) hn.1
  have hta := pTa_in (tx := tx) hn.1
  refine s_aload_0 (pc := 0) dX9_findOrder_0 ?_
  refine cV0v (pc := 1) (Ky := kX9_tries) dX9_findOrder_1 rfl lnX9_194 okX9_tries ⟨9, TX9, 40, rfl, rfl⟩ ⟨Nat.le_of_ble_eq_true rfl, Nat.le_of_ble_eq_true rfl⟩ (Nat.le_of_ble_eq_true rfl) (c_X9_tries e43 e122 hn ht e47 e48 hhd hlv) ?_
  rintro ν1 ⟨hF1, hR1, hM1⟩
  have hF1 := FrT.of hF1 hR1
  have hko := cfg_KO hM1.1 (by omega)
  refine s_ldc2_w (pc := 4) dX9_findOrder_4 rfl cnX9_264 ?_
  refine s_lstore_2 (pc := 7) dX9_findOrder_7 (Nat.le_of_ble_eq_true rfl) rfl ?_
  refine s_iconst_0 (pc := 8) dX9_findOrder_8 ?_
  refine s_istore_4 (pc := 9) dX9_findOrder_9 (Nat.le_of_ble_eq_true rfl) rfl ?_
  refine AW.mono (lp_X9_ord hM1 hko hp ?_ 257 0 (-1) ν1 (by omega) (by have := p4_in (j := (cfg tx n hd lv) 125 0) hta; omega) Fr.rf (fun _ _ => rfl) (Or.inl ⟨by show (-1 : Int) < 0; decide, rfl⟩) (by have := p4_in (j := (cfg tx n hd lv) 125 0) hta; omega)) ?_
  · intro k k0 k1
    rw [hR1.2.2.2.2 k k0 k1]
    show pFu tx n k = (if k < pTa tx n then pFu tx n k else 0)
    exact (if_pos k1).symm
  · rintro r ν ⟨q1, hF2, q3⟩
    exact ⟨q1, (hF1.mono (by decide)).tr (hF2.mono (by decide)), q3⟩
theorem c_X9_order {tx : Int → Int} {n p w : Int} {hd lv : Int → Int} {μ : Mem} (h_p : -2147483648 ≤ p ∧ p < 2147483648) (h_w : -2147483648 ≤ w ∧ w < 2147483648) (e43 : μ 43 = tx) (e122 : μ 122 0 = n) (hn : 0 ≤ n ∧ n ≤ 60) (ht : ∀ k : Int, 0 ≤ k → k < n → 0 ≤ tx k ∧ tx k ≤ 255) (e47 : μ 47 = hd) (e48 : μ 48 = lv) (hhd : ∀ p : Int, 0 ≤ p → p < 4 → 0 ≤ hd p ∧ hd p ≤ 15) (hlv : ∀ p : Int, 0 ≤ p → p < 4 → 0 ≤ lv p ∧ lv p ≤ 4) : Mc kX9_order [.inr (.inr 9), .inl p, .inl w] μ (pI (fun z ν => (if (0 ≤ p ∧ p < pPe tx n) ∧ (0 ≤ w ∧ w < pTa tx n) then dg (pTa tx n) (ord (cfg tx n hd lv) p).2 w else -2) = z ∧ Fr [42, 44, 45, 46, 49, 50, 51, 52, 53, 54, 55, 56, 123, 124, 125, 126, 127, 128, 129, 130, 131, 132, 133, 134] μ ν)) := by
  refine Mc_of (by decide +kernel) (fun _ => Nat.le_of_ble_eq_true rfl) ?_
  show AW kX9_order 0 [some (.inr (.inr 9)), some (.inl p), some (.inl w)] [] μ _
  have hpe := pPe_in (tx := tx) hn.1
  have hta := pTa_in (tx := tx) hn.1
  refine s_aload_0 (pc := 0) dX9_order_0 ?_
  refine s_iload_1 (pc := 1) dX9_order_1 ?_
  refine cV1i (pc := 2) (Ky := kX9_isPerson) dX9_order_2 rfl lnX9_158 okX9_isPerson ⟨9, TX9, 40, rfl, rfl⟩ ⟨Nat.le_of_ble_eq_true rfl, Nat.le_of_ble_eq_true rfl⟩ (Nat.le_of_ble_eq_true rfl) (c_X9_isPerson (by omega) e43 e122 hn ht) ?_
  rintro _ ν2 ⟨rfl, hF2, hM2⟩
  obtain ⟨k1, k2, k3, k4, k5⟩ := id hM2
  refine s_if_eq (pc := 5) 24 dX9_order_5 rfl (by omega) (fun h5 => ?_) (fun h5 => ?_)
  · refine s_bipush (pc := 24) (z := -2) dX9_order_24 rfl ?_
    refine s_ireturn (pc := 26) dX9_order_26 rfl ?_
    first | exact ⟨by rw [if_neg (by omega)], hF2.mono (by decide)⟩ | exact ⟨by rw [if_pos (by omega)]; exact (hO29 w (by omega) (by omega)).symm, (hF2.mono (by decide)).tr hF29.1⟩
  · refine s_iload_2 (pc := 8) dX9_order_8 ?_
    refine s_i2l (pc := 9) dX9_order_9 (by omega) ?_
    refine s_lconst_0 (pc := 10) dX9_order_10 ?_
    refine s_aload_0 (pc := 11) dX9_order_11 ?_
    refine gfX9_129 (pc := 12) dX9_order_12 rfl ?_
    refine s_iconst_1 (pc := 15) dX9_order_15 ?_
    refine s_isub (pc := 16) dX9_order_16 ?_
    refine s_i2l (pc := 17) dX9_order_17 (by omega) ?_
    refine cS3i (pc := 18) (Ky := kX9_in) dX9_order_18 rfl lnX9_89 okX9_in ⟨Nat.le_of_ble_eq_true rfl, Nat.le_of_ble_eq_true rfl⟩ (Nat.le_of_ble_eq_true rfl) (c_X9_in (by omega) (by omega) (by omega)) ?_
    rintro _ _ ⟨rfl, rfl⟩
    refine s_if_ne (pc := 21) 27 dX9_order_21 rfl (by omega) (fun h21 => ?_) (fun h21 => ?_)
    · refine s_aload_0 (pc := 27) dX9_order_27 ?_
      refine s_iload_1 (pc := 28) dX9_order_28 ?_
      refine cV1v (pc := 29) (Ky := kX9_findOrder) dX9_order_29 rfl lnX9_294 okX9_findOrder ⟨9, TX9, 40, rfl, rfl⟩ ⟨Nat.le_of_ble_eq_true rfl, Nat.le_of_ble_eq_true rfl⟩ (Nat.le_of_ble_eq_true rfl) (c_X9_findOrder (tx := tx) (n := n) (hd := hd) (lv := lv) (by omega) (by rw [hF2.fn 43 rfl]; exact e43) (by rw [hF2.at 122 rfl 0]; exact e122) hn ht (by rw [hF2.fn 47 rfl]; exact e47) (by rw [hF2.fn 48 rfl]; exact e48) hhd hlv) ?_
      rintro ν29 ⟨hF29, hO29⟩
      refine s_aload_0 (pc := 32) dX9_order_32 ?_
      refine gfX9_62 (pc := 33) dX9_order_33 rfl ?_
      refine s_iload_2 (pc := 36) dX9_order_36 ?_
      refine z_iaload (pc := 37) dX9_order_37 ly_56 (by omega) (by omega) ?_
      refine s_ireturn (pc := 38) dX9_order_38 rfl ?_
      first | exact ⟨by rw [if_neg (by omega)], hF2.mono (by decide)⟩ | exact ⟨by rw [if_pos (by omega)]; exact (hO29 w (by omega) (by omega)).symm, (hF2.mono (by decide)).tr hF29.1⟩
    · refine s_bipush (pc := 24) (z := -2) dX9_order_24 rfl ?_
      refine s_ireturn (pc := 26) dX9_order_26 rfl ?_
      first | exact ⟨by rw [if_neg (by omega)], hF2.mono (by decide)⟩ | exact ⟨by rw [if_pos (by omega)]; exact (hO29 w (by omega) (by omega)).symm, (hF2.mono (by decide)).tr hF29.1⟩
