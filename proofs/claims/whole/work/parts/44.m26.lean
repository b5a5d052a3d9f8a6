/-! ===== the digest ===== -/
abbrev mx (h v : Int) : Int := 31 * h + v
def mxs (f : Int → Int) (h : Int) : Nat → Int
  | 0 => h
  | k + 1 => mx (mxs f h k) (f k)
theorem mxs_succ {f : Int → Int} {h i : Int} (h0 : 0 ≤ i) : mxs f h (i + 1).toNat = 31 * mxs f h i.toNat + f i := by
  rw [show (i + 1).toNat = i.toNat + 1 by omega]
  show 31 * mxs f h i.toNat + f ((i.toNat : Nat) : Int) = _
  rw [show ((i.toNat : Nat) : Int) = i by omega]
theorem sm_bd {f : Int → Int} {c : Int} : ∀ m : Nat, (∀ k : Int, 0 ≤ k → k < m → 0 ≤ f k ∧ f k ≤ c) → 0 ≤ sm f m ∧ sm f m ≤ c * m
  | 0, _ => ⟨Int.le_refl _, by simp [sm]⟩
  | m + 1, h => by
    have h1 := sm_bd m (fun k k0 k1 => h k k0 (by omega))
    have h2 := h m (by omega) (by omega)
    show 0 ≤ sm f m + f m ∧ sm f m + f m ≤ c * ((m + 1 : Nat) : Int)
    rw [show ((m + 1 : Nat) : Int) = (m : Int) + 1 by omega, Int.mul_add, Int.mul_one]
    omega
theorem lst_in2 {a : Int → Int} {ok : Int → Prop} [DecidablePred ok] : ∀ m : Nat, -1 ≤ (lst a ok m).2 ∧ (lst a ok m).2 < m ∨ (lst a ok m).2 = -1
  | 0 => Or.inr rfl
  | m + 1 => by
    have ih := lst_in2 (a := a) (ok := ok) m
    unfold lst
    split
    · exact Or.inl (by dsimp only; omega)
    · omega
theorem edg_in {κ : Mem} {p : Int} : ∀ k : Nat, k ≤ 10 → -1 ≤ edg κ p k ∧ edg κ p k ≤ 9
  | 0, _ => by show -1 ≤ (-1 : Int) ∧ (-1 : Int) ≤ 9; decide
  | k + 1, hk => by
    have := edg_in (κ := κ) (p := p) k (by omega)
    unfold edg
    split <;> omega
theorem evsN_in {κ : Mem} {q z : Int} : ∀ j : Nat, 0 ≤ (evsN κ q z j).1 ∧ (evsN κ q z j).1 ≤ j
  | 0 => ⟨Int.le_refl _, Int.le_refl _⟩
  | j + 1 => by
    have := evsN_in (κ := κ) (q := q) (z := z) j
    unfold evsN
    dsimp only
    split <;> omega
theorem rsN_ct {κ : Mem} : ∀ j : Nat, 0 ≤ (rsN κ j).2.2 ∧ (rsN κ j).2.2 ≤ j
  | 0 => ⟨Int.le_refl _, Int.le_refl _⟩
  | j + 1 => by
    have := rsN_ct (κ := κ) j
    unfold rsN
    split
    · omega
    · dsimp only; omega
theorem gss_in {κ : Mem} {a : Int} : -3 ≤ gss κ a ∧ gss κ a ≤ 9 := by
  have := gsN_in (κ := κ) (a := a) 9
  unfold gss
  split <;> omega
theorem ofs_fr {μ ν : Mem} (h58 : ν 58 = μ 58) (h59 : ν 59 = μ 59) (h60 : ν 60 = μ 60) (h61 : ν 61 = μ 61) (h62 : ν 62 = μ 62) (h135 : ν 135 = μ 135) {a t : Int} : ofs ν a t = ofs μ a t := by
  have : ofF ν a t = ofF μ a t := by funext j; unfold ofF; rw [h58, h59, h60, h61, h62]
  unfold ofs
  rw [this, h135]
theorem gss_fr {μ ν : Mem} (h58 : ν 58 = μ 58) (h59 : ν 59 = μ 59) (h60 : ν 60 = μ 60) (h61 : ν 61 = μ 61) (h62 : ν 62 = μ 62) (h135 : ν 135 = μ 135) {a : Int} : gss ν a = gss μ a := by
  have hg : ∀ t : Nat, gsN ν a t = gsN μ a t := by
    intro t
    induction t with
    | zero => rfl
    | succ t ih =>
      unfold gsN
      rw [ih, ofs_fr h58 h59 h60 h61 h62 h135, ofs_fr h58 h59 h60 h61 h62 h135]
  have hs : snF ν a = snF μ a := by funext j; unfold snF; rw [h58]
  unfold gss
  rw [hg, hs, h135]
theorem SW.fr {μ ν : Mem} (h : SW μ) (h58 : ν 58 = μ 58) (h59 : ν 59 = μ 59) (h60 : ν 60 = μ 60) (h61 : ν 61 = μ 61) (h62 : ν 62 = μ 62) (h135 : ν 135 = μ 135) : SW ν := by
  unfold SW
  rw [h58, h59, h60, h61, h62, h135]
  exact h
theorem cnV_fr {tx : Int → Int} {n q : Int} {μ ν : Mem} (h62 : ν 62 = μ 62) (h57 : ν 57 = μ 57) (h135 : ν 135 = μ 135) (h121 : ν 121 = μ 121) : cnV tx n ν q = cnV tx n μ q := by
  unfold cnV
  rw [h62, h57, h135, h121]
theorem cnV_in {tx : Int → Int} {n q : Int} {μ : Mem} (hn : 0 ≤ n ∧ n ≤ 60) (hS : SW μ) (hw : ∀ k : Int, 0 ≤ k → k < 5 → 0 ≤ μ 57 k ∧ μ 57 k ≤ 9) (hl : -2147483648 ≤ μ 121 0 ∧ μ 121 0 < 2147483648) : -2147483648 ≤ cnV tx n μ q ∧ cnV tx n μ q < 2147483648 := by
  have hpe := pPe_in (tx := tx) hn.1
  have hta := pTa_in (tx := tx) hn.1
  have h60 := hS.1
  have s1 := sm_bd (f := pFu tx n) (c := 9) (pTa tx n).toNat (fun k k0 k1 => pFu_in hn.1 k0 (by omega))
  have s2 := sm_bd (f := μ 62) (c := 1) (μ 135 0).toNat (fun k k0 k1 => (hS.2 k k0 (by omega)).2.2.2.2)
  have s3 := sm_bd (f := μ 57) (c := 9) 5 (fun k k0 k1 => hw k k0 (by omega))
  have s4 := sm_bd (f := fun p => pPr tx n (4 * p + 3)) (c := 9) (pPe tx n).toNat (fun k k0 k1 => pPr_in hn.1 (by omega) (by omega))
  unfold cnV
  repeat (split; · omega)
  omega
def dgQ (κ : Mem) (p h : Int) : Int := mx (mx (mx (mx (mx (mx (mx (mx (mx (mx (mxs (kq κ p) h (κ 125 0).toNat) (frc (ow κ (κ 125 0).toNat p) (3072 ^ (κ 125 0).toNat) 0)) (frc (ow κ (κ 125 0).toNat p) (3072 ^ (κ 125 0).toNat) 1)) (frc (am κ p) (6144 ^ (κ 125 0).toNat) 0)) (frc (am κ p) (6144 ^ (κ 125 0).toNat) 1)) (frc (cst κ p) (6144 ^ (κ 125 0).toNat) 0)) (frc (cst κ p) (6144 ^ (κ 125 0).toNat) 1)) (best κ p).2.1) (best κ p).2.2) ((rs κ).1 49 p)) ((rs κ).1 50 p)
def dgS (κ : Mem) (wt : Int → Int) (μ : Mem) (p h : Int) : Int :=
  mx (mx (mx (mx (mx (mx (mx h
    (if κ 129 0 = 1 then -3 else (amg κ p (2 ^ (κ 129 0).toNat)).2)) (lwf κ p 9).2) (if κ 125 0 = 0 then -3 else edg κ p 10)) (erl wt κ p 0)) (erl wt κ p 1)) (evsN κ p 7 9).1) (gss μ p)
def dgP (κ : Mem) (wt : Int → Int) (μ : Mem) (p h : Int) : Int := dgS κ wt μ p (mxs (dg (κ 125 0) (ord κ p).2) (dgQ κ p h) (κ 125 0).toNat)
def dgPs (κ : Mem) (wt : Int → Int) (μ : Mem) (h : Int) : Nat → Int
  | 0 => h
  | p + 1 => dgP κ wt μ p (dgPs κ wt μ h p)
theorem dgPs_succ {κ : Mem} {wt : Int → Int} {μ : Mem} {h p : Int} (h0 : 0 ≤ p) : dgPs κ wt μ h (p + 1).toNat = dgP κ wt μ p (dgPs κ wt μ h p.toNat) := by
  rw [show (p + 1).toNat = p.toNat + 1 by omega]
  show dgP κ wt μ ((p.toNat : Nat) : Int) (dgPs κ wt μ h p.toNat) = _
  rw [show ((p.toNat : Nat) : Int) = p by omega]
def dgst (κ : Mem) (wt : Int → Int) (μ : Mem) (h : Int) : Int := mx (mx (mx (dgPs κ wt μ h (κ 129 0).toNat) (sRest κ (-1) 0)) (two κ 0)) (two κ 1)
theorem FrT.ch {tx : Int → Int} {n : Int} {F E : List Nat} {μ ν ρ : Mem} (h : Fr F μ ν) (h2 : FrT tx n E ν ρ) (hs : ∀ c, c ∈ E → c ∈ F) : FrT tx n F μ ρ := ⟨h.tr (h2.1.mono hs), h2.2⟩
theorem lp_X9_dgq {tx : Int → Int} {n p h r : Int} {hd lv wt : Int → Int} {μ : Mem} {g : Int → Int} {post : Option AV → Mem → Prop} (e43 : μ 43 = tx) (e122 : μ 122 0 = n) (hn : 0 ≤ n ∧ n ≤ 60) (ht : ∀ k : Int, 0 ≤ k → k < n → 0 ≤ tx k ∧ tx k ≤ 255) (e47 : μ 47 = hd) (e48 : μ 48 = lv) (hhd : ∀ p : Int, 0 ≤ p → p < 4 → 0 ≤ hd p ∧ hd p ≤ 15) (hlv : ∀ p : Int, 0 ≤ p → p < 4 → 0 ≤ lv p ∧ lv p ≤ 4) (hp : 0 ≤ p ∧ p < pPe tx n) (hk : ∀ ν, FrT tx n [42, 44, 45, 46, 49, 50, 51, 52, 53, 54, 55, 56, 123, 124, 125, 126, 127, 128, 129, 130, 131, 132, 133, 134, 63] μ ν → ν 63 = g → AW kX9_digest 172 [some (.inr (.inr 9)), some (.inr (.inl (mxs (kq (cfg tx n hd lv) p) h (pTa tx n).toNat))), none, some (.inl r), some (.inl p), none] [] ν post) : ∀ (f : Nat) (i : Int) (ν : Mem), (0 ≤ i) → (i ≤ pTa tx n) → (FrT tx n [42, 44, 45, 46, 49, 50, 51, 52, 53, 54, 55, 56, 123, 124, 125, 126, 127, 128, 129, 130, 131, 132, 133, 134, 63] μ ν) → (ν 63 = g) → pTa tx n - i < (f : Int) → AW kX9_digest 141 [some (.inr (.inr 9)), some (.inr (.inl (mxs (kq (cfg tx n hd lv) p) h i.toNat))), none, some (.inl r), some (.inl p), some (.inl i)] [] ν (post) := by
  intro f
  induction f with
  | zero =>
    intro i ν h0 h1 hG c63 hm
    exfalso; omega
  | succ f ih =>
    intro i ν h0 h1 hG c63 hm
    have hpe := pPe_in (tx := tx) hn.1
    have hta := pTa_in (tx := tx) hn.1
    have hKR := cfg_KR (tx := tx) (n := n) hn.1 hhd hlv
    have hsu := mxs_succ (f := kq (cfg tx n hd lv) p) (h := h) h0
    obtain ⟨c124, c125⟩ := id hG.2
    refine s_iload_5 (pc := 141) dX9_digest_141 ?_
    refine s_aload_0 (pc := 143) dX9_digest_143 ?_
    refine gfX9_129 (pc := 144) dX9_digest_144 rfl ?_
    try rw [c125]
    refine s_icmp_ge (pc := 147) 172 dX9_digest_147 rfl (by omega) (by omega) (fun h147 => ?_) (fun h147 => ?_)
    · cases (show i = pTa tx n by omega)
      refine s_le ?_ (hk ν hG c63)
      exact ⟨Or.inr rfl, Or.inr rfl, Or.inl rfl, Or.inr rfl, Or.inr rfl, Or.inl rfl, trivial⟩
    · refine s_ldc2_w (pc := 150) dX9_digest_150 rfl cnX9_350 ?_
      refine s_lload_1 (pc := 153) dX9_digest_153 ?_
      refine s_lmul (pc := 154) dX9_digest_154 ?_
      refine s_aload_0 (pc := 155) dX9_digest_155 ?_
      refine s_iload_4 (pc := 156) dX9_digest_156 ?_
      refine s_iload_5 (pc := 158) dX9_digest_158 ?_
      refine cV2i (pc := 160) (Ky := kX9_quartersOf) dX9_digest_160 rfl lnX9_200 okX9_quartersOf ⟨9, TX9, 40, rfl, rfl⟩ ⟨Nat.le_of_ble_eq_true rfl, Nat.le_of_ble_eq_true rfl⟩ (Nat.le_of_ble_eq_true rfl) (c_X9_quartersOf (tx := tx) (n := n) (hd := hd) (lv := lv) hp (by omega) (by rw [hG.fn 43 rfl]; exact e43) (by rw [hG.at 122 rfl 0]; exact e122) hn ht (by rw [hG.fn 47 rfl]; exact e47) (by rw [hG.fn 48 rfl]; exact e48) hhd hlv) ?_
      rintro _ ν160 ⟨rfl, hF160⟩
      have c63 := (hF160.fn 63 rfl).trans c63
      have hG := FrT.ch hG.1 hF160 (by decide)
      obtain ⟨c124, c125⟩ := id hG.2
      have hq := kq_in hKR (p := p) (i := i) (by omega) (by omega)
      refine s_i2l (pc := 163) dX9_digest_163 (by omega) ?_
      refine s_ladd (pc := 164) dX9_digest_164 ?_
      refine s_lstore_1 (pc := 165) dX9_digest_165 (Nat.le_of_ble_eq_true rfl) rfl ?_
      refine s_iinc_5 (pc := 166) dX9_digest_166 (Nat.le_of_ble_eq_true rfl) rfl ?_
      refine s_goto (pc := 169) 141 dX9_digest_169 rfl ?_
      refine s_le ?_ (ih (i + 1) _ (by omega) (by omega) hG c63 (by omega))
      rw [hsu]
      exact ⟨Or.inr rfl, Or.inr rfl, Or.inl rfl, Or.inr rfl, Or.inr rfl, Or.inr rfl, trivial⟩
theorem lp_X9_dgo {T p h r : Int} {q : Int → Int} {ν : Mem} {post : Option AV → Mem → Prop} (hT : 0 ≤ T ∧ T ≤ 4) (c125 : ν 125 0 = T) (hv : ∀ j : Int, 0 ≤ j → j < T → ν 56 j = q j) (hq : ∀ j : Int, 0 ≤ q j ∧ q j < 4) (hk : AW kX9_digest 369 [some (.inr (.inr 9)), some (.inr (.inl (mxs q h T.toNat))), none, some (.inl r), some (.inl p), none] [] ν post) : ∀ (f : Nat) (i : Int), (0 ≤ i) → (i ≤ T) → T - i < (f : Int) → AW kX9_digest 339 [some (.inr (.inr 9)), some (.inr (.inl (mxs q h i.toNat))), none, some (.inl r), some (.inl p), some (.inl i)] [] ν (post) := by
  intro f
  induction f with
  | zero =>
    intro i h0 h1 hm
    exfalso; omega
  | succ f ih =>
    intro i h0 h1 hm
    have hsu := mxs_succ (f := q) (h := h) h0
    refine s_iload_5 (pc := 339) dX9_digest_339 ?_
    refine s_aload_0 (pc := 341) dX9_digest_341 ?_
    refine gfX9_129 (pc := 342) dX9_digest_342 rfl ?_
    try rw [c125]
    refine s_icmp_ge (pc := 345) 369 dX9_digest_345 rfl (by omega) (by omega) (fun h345 => ?_) (fun h345 => ?_)
    · cases (show i = T by omega)
      refine s_le ?_ hk
      exact ⟨Or.inr rfl, Or.inr rfl, Or.inl rfl, Or.inr rfl, Or.inr rfl, Or.inl rfl, trivial⟩
    · refine s_ldc2_w (pc := 348) dX9_digest_348 rfl cnX9_350 ?_
      refine s_lload_1 (pc := 351) dX9_digest_351 ?_
      refine s_lmul (pc := 352) dX9_digest_352 ?_
      refine s_aload_0 (pc := 353) dX9_digest_353 ?_
      refine gfX9_62 (pc := 354) dX9_digest_354 rfl ?_
      refine s_iload_5 (pc := 357) dX9_digest_357 ?_
      refine z_iaload (pc := 359) dX9_digest_359 ly_56 (by omega) (by omega) ?_
      try rw [c125]
      rw [hv i h0 (by omega)]
      have hqi := hq i
      refine s_i2l (pc := 360) dX9_digest_360 (by omega) ?_
      refine s_ladd (pc := 361) dX9_digest_361 ?_
      refine s_lstore_1 (pc := 362) dX9_digest_362 (Nat.le_of_ble_eq_true rfl) rfl ?_
      refine s_iinc_5 (pc := 363) dX9_digest_363 (Nat.le_of_ble_eq_true rfl) rfl ?_
      refine s_goto (pc := 366) 339 dX9_digest_366 rfl ?_
      refine s_le ?_ (ih (i + 1) (by omega) (by omega) (by omega))
      rw [hsu]
      exact ⟨Or.inr rfl, Or.inr rfl, Or.inl rfl, Or.inr rfl, Or.inr rfl, Or.inr rfl, trivial⟩
theorem lp_X9_dgs {tx : Int → Int} {n p h r : Int} {hd lv wt : Int → Int} {μ : Mem} {g : Int → Int} {post : Option AV → Mem → Prop} (e43 : μ 43 = tx) (e122 : μ 122 0 = n) (hn : 0 ≤ n ∧ n ≤ 60) (ht : ∀ k : Int, 0 ≤ k → k < n → 0 ≤ tx k ∧ tx k ≤ 255) (e47 : μ 47 = hd) (e48 : μ 48 = lv) (hhd : ∀ p : Int, 0 ≤ p → p < 4 → 0 ≤ hd p ∧ hd p ≤ 15) (hlv : ∀ p : Int, 0 ≤ p → p < 4 → 0 ≤ lv p ∧ lv p ≤ 4) (hS : SW μ) (e57 : μ 57 = wt) (hwt : ∀ k : Int, 0 ≤ k → k < 5 → 0 ≤ wt k ∧ wt k ≤ 9) (h121 : -2147483648 ≤ μ 121 0 ∧ μ 121 0 < 2147483648) (hp : 0 ≤ p ∧ p < pPe tx n) (hk : ∀ ν, FrT tx n [42, 44, 45, 46, 49, 50, 51, 52, 53, 54, 55, 56, 123, 124, 125, 126, 127, 128, 129, 130, 131, 132, 133, 134, 63] μ ν → ν 63 = g → AW kX9_digest 473 [some (.inr (.inr 9)), some (.inr (.inl (dgS (cfg tx n hd lv) wt μ p h))), none, some (.inl r), some (.inl p), none] [] ν post) : ∀ (f : Nat) (ν : Mem), (FrT tx n [42, 44, 45, 46, 49, 50, 51, 52, 53, 54, 55, 56, 123, 124, 125, 126, 127, 128, 129, 130, 131, 132, 133, 134, 63] μ ν) → (ν 63 = g) → 0 < (f : Int) → AW kX9_digest 369 [some (.inr (.inr 9)), some (.inr (.inl h)), none, some (.inl r), some (.inl p), none] [] ν (post) := by
  intro f
  induction f with
  | zero =>
    intro ν hG c63 hm
    exfalso; omega
  | succ f ih =>
    intro ν hG c63 hm
    have hpe := pPe_in (tx := tx) hn.1
    have hta := pTa_in (tx := tx) hn.1
    have hKR := cfg_KR (tx := tx) (n := n) hn.1 hhd hlv
    obtain ⟨c124, c125⟩ := id hG.2
    refine s_ldc2_w (pc := 369) dX9_digest_369 rfl cnX9_350 ?_
    refine s_lload_1 (pc := 372) dX9_digest_372 ?_
    refine s_lmul (pc := 373) dX9_digest_373 ?_
    refine s_aload_0 (pc := 374) dX9_digest_374 ?_
    refine s_iload_4 (pc := 375) dX9_digest_375 ?_
    refine cV1i (pc := 377) (Ky := kX9_amongOf) dX9_digest_377 rfl lnX9_297 okX9_amongOf ⟨9, TX9, 40, rfl, rfl⟩ ⟨Nat.le_of_ble_eq_true rfl, Nat.le_of_ble_eq_true rfl⟩ (Nat.le_of_ble_eq_true rfl) (c_X9_amongOf (tx := tx) (n := n) (hd := hd) (lv := lv) hp (by rw [hG.fn 43 rfl]; exact e43) (by rw [hG.at 122 rfl 0]; exact e122) hn ht (by rw [hG.fn 47 rfl]; exact e47) (by rw [hG.fn 48 rfl]; exact e48) hhd hlv) ?_
    rintro _ ν377 ⟨rfl, hF377⟩
    have c63 := (hF377.fn 63 rfl).trans c63
    have hG := FrT.ch hG.1 hF377 (by decide)
    obtain ⟨c124, c125⟩ := id hG.2
    have hli := lst_in2 (a := fun i => am (kA (cfg tx n hd lv) p i) p) (ok := okA (cfg tx n hd lv) p) (2 ^ (pPe tx n).toNat)
    have hl1 : -3 ≤ (if pPe tx n = 1 then -3 else (amg (cfg tx n hd lv) p (2 ^ (pPe tx n).toNat)).2) ∧ (if pPe tx n = 1 then -3 else (amg (cfg tx n hd lv) p (2 ^ (pPe tx n).toNat)).2) ≤ 16 := by
      have e16 : (2 : Nat) ^ (pPe tx n).toNat ≤ 16 := by have := (pw_small (k := pPe tx n) hpe).2; have := pw_nat (k := pPe tx n); omega
      unfold amg
      split <;> omega
    refine s_i2l (pc := 380) dX9_digest_380 (by omega) ?_
    refine s_ladd (pc := 381) dX9_digest_381 ?_
    refine s_lstore_1 (pc := 382) dX9_digest_382 (Nat.le_of_ble_eq_true rfl) rfl ?_
    refine s_ldc2_w (pc := 383) dX9_digest_383 rfl cnX9_350 ?_
    refine s_lload_1 (pc := 386) dX9_digest_386 ?_
    refine s_lmul (pc := 387) dX9_digest_387 ?_
    refine s_aload_0 (pc := 388) dX9_digest_388 ?_
    refine s_iload_4 (pc := 389) dX9_digest_389 ?_
    refine cV1i (pc := 391) (Ky := kX9_lawForOf) dX9_digest_391 rfl lnX9_302 okX9_lawForOf ⟨9, TX9, 40, rfl, rfl⟩ ⟨Nat.le_of_ble_eq_true rfl, Nat.le_of_ble_eq_true rfl⟩ (Nat.le_of_ble_eq_true rfl) (c_X9_lawForOf (tx := tx) (n := n) (hd := hd) (lv := lv) hp (by rw [hG.fn 43 rfl]; exact e43) (by rw [hG.at 122 rfl 0]; exact e122) hn ht (by rw [hG.fn 47 rfl]; exact e47) (by rw [hG.fn 48 rfl]; exact e48) hhd hlv) ?_
    rintro _ ν391 ⟨rfl, hF391⟩
    have c63 := (hF391.fn 63 rfl).trans c63
    have hG := FrT.ch hG.1 hF391 (by decide)
    obtain ⟨c124, c125⟩ := id hG.2
    have hl2 := lst_in2 (a := fun i => am (kO (cfg tx n hd lv) (i / 3) (i % 3)) p) (ok := fun _ => True) 9
    have hl3 : -1 ≤ (lwf (cfg tx n hd lv) p 9).2 ∧ (lwf (cfg tx n hd lv) p 9).2 ≤ 9 := by unfold lwf; omega
    refine s_i2l (pc := 394) dX9_digest_394 (by omega) ?_
    refine s_ladd (pc := 395) dX9_digest_395 ?_
    refine s_lstore_1 (pc := 396) dX9_digest_396 (Nat.le_of_ble_eq_true rfl) rfl ?_
    refine s_ldc2_w (pc := 397) dX9_digest_397 rfl cnX9_350 ?_
    refine s_lload_1 (pc := 400) dX9_digest_400 ?_
    refine s_lmul (pc := 401) dX9_digest_401 ?_
    refine s_aload_0 (pc := 402) dX9_digest_402 ?_
    refine s_iload_4 (pc := 403) dX9_digest_403 ?_
    refine cV1i (pc := 405) (Ky := kX9_edgeOf) dX9_digest_405 rfl lnX9_305 okX9_edgeOf ⟨9, TX9, 40, rfl, rfl⟩ ⟨Nat.le_of_ble_eq_true rfl, Nat.le_of_ble_eq_true rfl⟩ (Nat.le_of_ble_eq_true rfl) (c_X9_edgeOf (tx := tx) (n := n) (hd := hd) (lv := lv) hp (by rw [hG.fn 43 rfl]; exact e43) (by rw [hG.at 122 rfl 0]; exact e122) hn ht (by rw [hG.fn 47 rfl]; exact e47) (by rw [hG.fn 48 rfl]; exact e48) hhd hlv) ?_
    rintro _ ν405 ⟨rfl, hF405⟩
    have c63 := (hF405.fn 63 rfl).trans c63
    have hG := FrT.ch hG.1 hF405 (by decide)
    obtain ⟨c124, c125⟩ := id hG.2
    have hl4 := edg_in (κ := cfg tx n hd lv) (p := p) 10 (by omega)
    have hl5 : -3 ≤ (if pTa tx n = 0 then -3 else edg (cfg tx n hd lv) p 10) ∧ (if pTa tx n = 0 then -3 else edg (cfg tx n hd lv) p 10) ≤ 9 := by split <;> omega
    refine s_i2l (pc := 408) dX9_digest_408 (by omega) ?_
    refine s_ladd (pc := 409) dX9_digest_409 ?_
    refine s_lstore_1 (pc := 410) dX9_digest_410 (Nat.le_of_ble_eq_true rfl) rfl ?_
    refine s_iconst_0 (pc := 411) dX9_digest_411 ?_
    refine s_istore_5 (pc := 412) dX9_digest_412 (Nat.le_of_ble_eq_true rfl) rfl ?_
    refine s_iload_5 (pc := 414) dX9_digest_414 ?_
    refine s_iconst_2 (pc := 416) dX9_digest_416 ?_
    refine s_icmp_ge (pc := 417) 441 dX9_digest_417 rfl (by omega) (by omega) (fun h417 => ?_) (fun h417 => ?_)
    · exact absurd h417 (by decide)
    · refine s_ldc2_w (pc := 420) dX9_digest_420 rfl cnX9_350 ?_
      refine s_lload_1 (pc := 423) dX9_digest_423 ?_
      refine s_lmul (pc := 424) dX9_digest_424 ?_
      refine s_aload_0 (pc := 425) dX9_digest_425 ?_
      refine s_iload_4 (pc := 426) dX9_digest_426 ?_
      refine s_iload_5 (pc := 428) dX9_digest_428 ?_
      refine cV2l (pc := 430) (Ky := kX9_earlyOf) dX9_digest_430 rfl lnX9_311 okX9_earlyOf ⟨9, TX9, 40, rfl, rfl⟩ ⟨Nat.le_of_ble_eq_true rfl, Nat.le_of_ble_eq_true rfl⟩ (Nat.le_of_ble_eq_true rfl) (c_X9_earlyOf (tx := tx) (n := n) (hd := hd) (lv := lv) hp (by omega) (by rw [hG.fn 57 rfl]; exact e57) hwt (by rw [hG.fn 43 rfl]; exact e43) (by rw [hG.at 122 rfl 0]; exact e122) hn ht (by rw [hG.fn 47 rfl]; exact e47) (by rw [hG.fn 48 rfl]; exact e48) hhd hlv) ?_
      rintro _ ν430 ⟨rfl, hF430⟩
      have c63 := (hF430.fn 63 rfl).trans c63
      have hG := FrT.ch hG.1 hF430 (by decide)
      obtain ⟨c124, c125⟩ := id hG.2
      refine s_ladd (pc := 433) dX9_digest_433 ?_
      refine s_lstore_1 (pc := 434) dX9_digest_434 (Nat.le_of_ble_eq_true rfl) rfl ?_
      refine s_iinc_5 (pc := 435) dX9_digest_435 (Nat.le_of_ble_eq_true rfl) rfl ?_
      refine s_goto (pc := 438) 414 dX9_digest_438 rfl ?_
      refine s_iload_5 (pc := 414) dX9_digest_414 ?_
      refine s_iconst_2 (pc := 416) dX9_digest_416 ?_
      refine s_icmp_ge (pc := 417) 441 dX9_digest_417 rfl (by omega) (by omega) (fun h417 => ?_) (fun h417 => ?_)
      · exact absurd h417 (by decide)
      · refine s_ldc2_w (pc := 420) dX9_digest_420 rfl cnX9_350 ?_
        refine s_lload_1 (pc := 423) dX9_digest_423 ?_
        refine s_lmul (pc := 424) dX9_digest_424 ?_
        refine s_aload_0 (pc := 425) dX9_digest_425 ?_
        refine s_iload_4 (pc := 426) dX9_digest_426 ?_
        refine s_iload_5 (pc := 428) dX9_digest_428 ?_
        refine cV2l (pc := 430) (Ky := kX9_earlyOf) dX9_digest_430 rfl lnX9_311 okX9_earlyOf ⟨9, TX9, 40, rfl, rfl⟩ ⟨Nat.le_of_ble_eq_true rfl, Nat.le_of_ble_eq_true rfl⟩ (Nat.le_of_ble_eq_true rfl) (c_X9_earlyOf (tx := tx) (n := n) (hd := hd) (lv := lv) hp (by omega) (by rw [hG.fn 57 rfl]; exact e57) hwt (by rw [hG.fn 43 rfl]; exact e43) (by rw [hG.at 122 rfl 0]; exact e122) hn ht (by rw [hG.fn 47 rfl]; exact e47) (by rw [hG.fn 48 rfl]; exact e48) hhd hlv) ?_
        rintro _ ν430 ⟨rfl, hF430⟩
        have c63 := (hF430.fn 63 rfl).trans c63
        have hG := FrT.ch hG.1 hF430 (by decide)
        obtain ⟨c124, c125⟩ := id hG.2
        refine s_ladd (pc := 433) dX9_digest_433 ?_
        refine s_lstore_1 (pc := 434) dX9_digest_434 (Nat.le_of_ble_eq_true rfl) rfl ?_
        refine s_iinc_5 (pc := 435) dX9_digest_435 (Nat.le_of_ble_eq_true rfl) rfl ?_
        refine s_goto (pc := 438) 414 dX9_digest_438 rfl ?_
        refine s_iload_5 (pc := 414) dX9_digest_414 ?_
        refine s_iconst_2 (pc := 416) dX9_digest_416 ?_
        refine s_icmp_ge (pc := 417) 441 dX9_digest_417 rfl (by omega) (by omega) (fun h417 => ?_) (fun h417 => ?_)
        · refine s_ldc2_w (pc := 441) dX9_digest_441 rfl cnX9_350 ?_
          refine s_lload_1 (pc := 444) dX9_digest_444 ?_
          refine s_lmul (pc := 445) dX9_digest_445 ?_
          refine s_aload_0 (pc := 446) dX9_digest_446 ?_
          refine s_bipush (pc := 447) (z := 7) dX9_digest_447 rfl ?_
          refine s_bipush (pc := 449) (z := 9) dX9_digest_449 rfl ?_
          refine s_iload_4 (pc := 451) dX9_digest_451 ?_
          refine cV3i (pc := 453) (Ky := kX9_eveningsOf) dX9_digest_453 rfl lnX9_329 okX9_eveningsOf ⟨9, TX9, 40, rfl, rfl⟩ ⟨Nat.le_of_ble_eq_true rfl, Nat.le_of_ble_eq_true rfl⟩ (Nat.le_of_ble_eq_true rfl) (c_X9_eveningsOf (tx := tx) (n := n) (hd := hd) (lv := lv) (by omega) (by omega) (by rw [hG.fn 43 rfl]; exact e43) (by rw [hG.at 122 rfl 0]; exact e122) hn ht (by rw [hG.fn 47 rfl]; exact e47) (by rw [hG.fn 48 rfl]; exact e48) hhd hlv) ?_
          rintro _ ν453 ⟨rfl, hF453⟩
          have c63 := (hF453.fn 63 rfl).trans c63
          have hG := FrT.ch hG.1 hF453 (by decide)
          obtain ⟨c124, c125⟩ := id hG.2
          have hl6 := evsN_in (κ := cfg tx n hd lv) (q := p) (z := 7) (9 : Int).toNat
          refine s_i2l (pc := 456) dX9_digest_456 (by omega) ?_
          refine s_ladd (pc := 457) dX9_digest_457 ?_
          refine s_lstore_1 (pc := 458) dX9_digest_458 (Nat.le_of_ble_eq_true rfl) rfl ?_
          refine s_ldc2_w (pc := 459) dX9_digest_459 rfl cnX9_350 ?_
          refine s_lload_1 (pc := 462) dX9_digest_462 ?_
          refine s_lmul (pc := 463) dX9_digest_463 ?_
          refine s_aload_0 (pc := 464) dX9_digest_464 ?_
          refine s_iload_4 (pc := 465) dX9_digest_465 ?_
          refine cV1i (pc := 467) (Ky := kX9_guessOf) dX9_digest_467 rfl lnX9_345 okX9_guessOf ⟨9, TX9, 40, rfl, rfl⟩ ⟨Nat.le_of_ble_eq_true rfl, Nat.le_of_ble_eq_true rfl⟩ (Nat.le_of_ble_eq_true rfl) (c_X9_guessOf (hS.fr (hG.fn 58 rfl) (hG.fn 59 rfl) (hG.fn 60 rfl) (hG.fn 61 rfl) (hG.fn 62 rfl) (hG.fn 135 rfl)) (by omega)) ?_
          rintro _ _ ⟨rfl, rfl⟩
          rw [gss_fr (hG.fn 58 rfl) (hG.fn 59 rfl) (hG.fn 60 rfl) (hG.fn 61 rfl) (hG.fn 62 rfl) (hG.fn 135 rfl)]
          have hl7 := gss_in (κ := μ) (a := p)
          refine s_i2l (pc := 470) dX9_digest_470 (by omega) ?_
          refine s_ladd (pc := 471) dX9_digest_471 ?_
          refine s_lstore_1 (pc := 472) dX9_digest_472 (Nat.le_of_ble_eq_true rfl) rfl ?_
          refine s_le ?_ (hk _ hG c63)
          exact ⟨Or.inr rfl, Or.inr rfl, Or.inl rfl, Or.inr rfl, Or.inr rfl, Or.inl rfl, trivial⟩
        · exact absurd h417 (by decide)
theorem lp_X9_dgp {tx : Int → Int} {n p h r : Int} {hd lv wt : Int → Int} {μ : Mem} {g : Int → Int} {post : Option AV → Mem → Prop} (e43 : μ 43 = tx) (e122 : μ 122 0 = n) (hn : 0 ≤ n ∧ n ≤ 60) (ht : ∀ k : Int, 0 ≤ k → k < n → 0 ≤ tx k ∧ tx k ≤ 255) (e47 : μ 47 = hd) (e48 : μ 48 = lv) (hhd : ∀ p : Int, 0 ≤ p → p < 4 → 0 ≤ hd p ∧ hd p ≤ 15) (hlv : ∀ p : Int, 0 ≤ p → p < 4 → 0 ≤ lv p ∧ lv p ≤ 4) (hS : SW μ) (e57 : μ 57 = wt) (hwt : ∀ k : Int, 0 ≤ k → k < 5 → 0 ≤ wt k ∧ wt k ≤ 9) (h121 : -2147483648 ≤ μ 121 0 ∧ μ 121 0 < 2147483648) (hp : 0 ≤ p ∧ p < pPe tx n) (hko : KO (cfg tx n hd lv)) (g0 : g (2 * p) = (rs (cfg tx n hd lv)).1 49 p) (g1 : g (2 * p + 1) = (rs (cfg tx n hd lv)).1 50 p) (hk : ∀ ν, FrT tx n [42, 44, 45, 46, 49, 50, 51, 52, 53, 54, 55, 56, 123, 124, 125, 126, 127, 128, 129, 130, 131, 132, 133, 134, 63] μ ν → ν 63 = g → AW kX9_digest 473 [some (.inr (.inr 9)), some (.inr (.inl (dgP (cfg tx n hd lv) wt μ p h))), none, some (.inl r), some (.inl p), none] [] ν post) : ∀ (f : Nat) (ν : Mem), (FrT tx n [42, 44, 45, 46, 49, 50, 51, 52, 53, 54, 55, 56, 123, 124, 125, 126, 127, 128, 129, 130, 131, 132, 133, 134, 63] μ ν) → (ν 63 = g) → 0 < (f : Int) → AW kX9_digest 138 [some (.inr (.inr 9)), some (.inr (.inl h)), none, some (.inl r), some (.inl p), none] [] ν (post) := by
  intro f
  induction f with
  | zero =>
    intro ν hG c63 hm
    exfalso; omega
  | succ f ih =>
    intro ν hG c63 hm
    have hpe := pPe_in (tx := tx) hn.1
    have hta := pTa_in (tx := tx) hn.1
    have hKR := cfg_KR (tx := tx) (n := n) hn.1 hhd hlv
    obtain ⟨c124, c125⟩ := id hG.2
    refine s_iconst_0 (pc := 138) dX9_digest_138 ?_
    refine s_istore_5 (pc := 139) dX9_digest_139 (Nat.le_of_ble_eq_true rfl) rfl ?_
    refine s_le ?_ (lp_X9_dgq (wt := wt) (g := g) (r := r) (h := h) e43 e122 hn ht e47 e48 hhd hlv hp ?_ 5 0 ν (by omega) (by omega) hG c63 (by omega))
    · exact ⟨Or.inr rfl, Or.inr rfl, Or.inl rfl, Or.inr rfl, Or.inr rfl, Or.inr rfl, trivial⟩
    intro ν141 hG c63
    obtain ⟨c124, c125⟩ := id hG.2
    refine s_iconst_0 (pc := 172) dX9_digest_172 ?_
    refine s_istore_5 (pc := 173) dX9_digest_173 (Nat.le_of_ble_eq_true rfl) rfl ?_
    refine s_iload_5 (pc := 175) dX9_digest_175 ?_
    refine s_iconst_2 (pc := 177) dX9_digest_177 ?_
    refine s_icmp_ge (pc := 178) 206 dX9_digest_178 rfl (by omega) (by omega) (fun h178 => ?_) (fun h178 => ?_)
    · exact absurd h178 (by decide)
    · refine s_ldc2_w (pc := 181) dX9_digest_181 rfl cnX9_350 ?_
      refine s_lload_1 (pc := 184) dX9_digest_184 ?_
      refine s_lmul (pc := 185) dX9_digest_185 ?_
      refine s_aload_0 (pc := 186) dX9_digest_186 ?_
      refine s_iload_4 (pc := 187) dX9_digest_187 ?_
      refine s_aload_0 (pc := 189) dX9_digest_189 ?_
      refine gfX9_129 (pc := 190) dX9_digest_190 rfl ?_
      try rw [c125]
      try rw [c124]
      try rw [c63]
      refine s_iload_5 (pc := 193) dX9_digest_193 ?_
      refine cV3l (pc := 195) (Ky := kX9_owesOf) dX9_digest_195 rfl lnX9_247 okX9_owesOf ⟨9, TX9, 40, rfl, rfl⟩ ⟨Nat.le_of_ble_eq_true rfl, Nat.le_of_ble_eq_true rfl⟩ (Nat.le_of_ble_eq_true rfl) (c_X9_owesOf (tx := tx) (n := n) (hd := hd) (lv := lv) hp (by omega) (by omega) (by rw [hG.fn 43 rfl]; exact e43) (by rw [hG.at 122 rfl 0]; exact e122) hn ht (by rw [hG.fn 47 rfl]; exact e47) (by rw [hG.fn 48 rfl]; exact e48) hhd hlv) ?_
      rintro _ ν195 ⟨rfl, hF195⟩
      have c63 := (hF195.fn 63 rfl).trans c63
      have hG := FrT.ch hG.1 hF195 (by decide)
      obtain ⟨c124, c125⟩ := id hG.2
      refine s_ladd (pc := 198) dX9_digest_198 ?_
      refine s_lstore_1 (pc := 199) dX9_digest_199 (Nat.le_of_ble_eq_true rfl) rfl ?_
      refine s_iinc_5 (pc := 200) dX9_digest_200 (Nat.le_of_ble_eq_true rfl) rfl ?_
      refine s_goto (pc := 203) 175 dX9_digest_203 rfl ?_
      refine s_iload_5 (pc := 175) dX9_digest_175 ?_
      refine s_iconst_2 (pc := 177) dX9_digest_177 ?_
      refine s_icmp_ge (pc := 178) 206 dX9_digest_178 rfl (by omega) (by omega) (fun h178 => ?_) (fun h178 => ?_)
      · exact absurd h178 (by decide)
      · refine s_ldc2_w (pc := 181) dX9_digest_181 rfl cnX9_350 ?_
        refine s_lload_1 (pc := 184) dX9_digest_184 ?_
        refine s_lmul (pc := 185) dX9_digest_185 ?_
        refine s_aload_0 (pc := 186) dX9_digest_186 ?_
        refine s_iload_4 (pc := 187) dX9_digest_187 ?_
        refine s_aload_0 (pc := 189) dX9_digest_189 ?_
        refine gfX9_129 (pc := 190) dX9_digest_190 rfl ?_
        try rw [c125]
        try rw [c124]
        try rw [c63]
        refine s_iload_5 (pc := 193) dX9_digest_193 ?_
        refine cV3l (pc := 195) (Ky := kX9_owesOf) dX9_digest_195 rfl lnX9_247 okX9_owesOf ⟨9, TX9, 40, rfl, rfl⟩ ⟨Nat.le_of_ble_eq_true rfl, Nat.le_of_ble_eq_true rfl⟩ (Nat.le_of_ble_eq_true rfl) (c_X9_owesOf (tx := tx) (n := n) (hd := hd) (lv := lv) hp (by omega) (by omega) (by rw [hG.fn 43 rfl]; exact e43) (by rw [hG.at 122 rfl 0]; exact e122) hn ht (by rw [hG.fn 47 rfl]; exact e47) (by rw [hG.fn 48 rfl]; exact e48) hhd hlv) ?_
        rintro _ ν195 ⟨rfl, hF195⟩
        have c63 := (hF195.fn 63 rfl).trans c63
        have hG := FrT.ch hG.1 hF195 (by decide)
        obtain ⟨c124, c125⟩ := id hG.2
        refine s_ladd (pc := 198) dX9_digest_198 ?_
        refine s_lstore_1 (pc := 199) dX9_digest_199 (Nat.le_of_ble_eq_true rfl) rfl ?_
        refine s_iinc_5 (pc := 200) dX9_digest_200 (Nat.le_of_ble_eq_true rfl) rfl ?_
        refine s_goto (pc := 203) 175 dX9_digest_203 rfl ?_
        refine s_iload_5 (pc := 175) dX9_digest_175 ?_
        refine s_iconst_2 (pc := 177) dX9_digest_177 ?_
        refine s_icmp_ge (pc := 178) 206 dX9_digest_178 rfl (by omega) (by omega) (fun h178 => ?_) (fun h178 => ?_)
        · refine s_iconst_0 (pc := 206) dX9_digest_206 ?_
          refine s_istore_5 (pc := 207) dX9_digest_207 (Nat.le_of_ble_eq_true rfl) rfl ?_
          refine s_iload_5 (pc := 209) dX9_digest_209 ?_
          refine s_iconst_2 (pc := 211) dX9_digest_211 ?_
          refine s_icmp_ge (pc := 212) 236 dX9_digest_212 rfl (by omega) (by omega) (fun h212 => ?_) (fun h212 => ?_)
          · exact absurd h212 (by decide)
          · refine s_ldc2_w (pc := 215) dX9_digest_215 rfl cnX9_350 ?_
            refine s_lload_1 (pc := 218) dX9_digest_218 ?_
            refine s_lmul (pc := 219) dX9_digest_219 ?_
            refine s_aload_0 (pc := 220) dX9_digest_220 ?_
            refine s_iload_4 (pc := 221) dX9_digest_221 ?_
            refine s_iload_5 (pc := 223) dX9_digest_223 ?_
            refine cV2l (pc := 225) (Ky := kX9_amountOf) dX9_digest_225 rfl lnX9_254 okX9_amountOf ⟨9, TX9, 40, rfl, rfl⟩ ⟨Nat.le_of_ble_eq_true rfl, Nat.le_of_ble_eq_true rfl⟩ (Nat.le_of_ble_eq_true rfl) (c_X9_amountOf (tx := tx) (n := n) (hd := hd) (lv := lv) hp (by omega) (by rw [hG.fn 43 rfl]; exact e43) (by rw [hG.at 122 rfl 0]; exact e122) hn ht (by rw [hG.fn 47 rfl]; exact e47) (by rw [hG.fn 48 rfl]; exact e48) hhd hlv) ?_
            rintro _ ν225 ⟨rfl, hF225⟩
            have c63 := (hF225.fn 63 rfl).trans c63
            have hG := FrT.ch hG.1 hF225 (by decide)
            obtain ⟨c124, c125⟩ := id hG.2
            refine s_ladd (pc := 228) dX9_digest_228 ?_
            refine s_lstore_1 (pc := 229) dX9_digest_229 (Nat.le_of_ble_eq_true rfl) rfl ?_
            refine s_iinc_5 (pc := 230) dX9_digest_230 (Nat.le_of_ble_eq_true rfl) rfl ?_
            refine s_goto (pc := 233) 209 dX9_digest_233 rfl ?_
            refine s_iload_5 (pc := 209) dX9_digest_209 ?_
            refine s_iconst_2 (pc := 211) dX9_digest_211 ?_
            refine s_icmp_ge (pc := 212) 236 dX9_digest_212 rfl (by omega) (by omega) (fun h212 => ?_) (fun h212 => ?_)
            · exact absurd h212 (by decide)
            · refine s_ldc2_w (pc := 215) dX9_digest_215 rfl cnX9_350 ?_
              refine s_lload_1 (pc := 218) dX9_digest_218 ?_
              refine s_lmul (pc := 219) dX9_digest_219 ?_
              refine s_aload_0 (pc := 220) dX9_digest_220 ?_
              refine s_iload_4 (pc := 221) dX9_digest_221 ?_
              refine s_iload_5 (pc := 223) dX9_digest_223 ?_
              refine cV2l (pc := 225) (Ky := kX9_amountOf) dX9_digest_225 rfl lnX9_254 okX9_amountOf ⟨9, TX9, 40, rfl, rfl⟩ ⟨Nat.le_of_ble_eq_true rfl, Nat.le_of_ble_eq_true rfl⟩ (Nat.le_of_ble_eq_true rfl) (c_X9_amountOf (tx := tx) (n := n) (hd := hd) (lv := lv) hp (by omega) (by rw [hG.fn 43 rfl]; exact e43) (by rw [hG.at 122 rfl 0]; exact e122) hn ht (by rw [hG.fn 47 rfl]; exact e47) (by rw [hG.fn 48 rfl]; exact e48) hhd hlv) ?_
              rintro _ ν225 ⟨rfl, hF225⟩
              have c63 := (hF225.fn 63 rfl).trans c63
              have hG := FrT.ch hG.1 hF225 (by decide)
              obtain ⟨c124, c125⟩ := id hG.2
              refine s_ladd (pc := 228) dX9_digest_228 ?_
              refine s_lstore_1 (pc := 229) dX9_digest_229 (Nat.le_of_ble_eq_true rfl) rfl ?_
              refine s_iinc_5 (pc := 230) dX9_digest_230 (Nat.le_of_ble_eq_true rfl) rfl ?_
              refine s_goto (pc := 233) 209 dX9_digest_233 rfl ?_
              refine s_iload_5 (pc := 209) dX9_digest_209 ?_
              refine s_iconst_2 (pc := 211) dX9_digest_211 ?_
              refine s_icmp_ge (pc := 212) 236 dX9_digest_212 rfl (by omega) (by omega) (fun h212 => ?_) (fun h212 => ?_)
              · refine s_iconst_0 (pc := 236) dX9_digest_236 ?_
                refine s_istore_5 (pc := 237) dX9_digest_237 (Nat.le_of_ble_eq_true rfl) rfl ?_
                refine s_iload_5 (pc := 239) dX9_digest_239 ?_
                refine s_iconst_2 (pc := 241) dX9_digest_241 ?_
                refine s_icmp_ge (pc := 242) 266 dX9_digest_242 rfl (by omega) (by omega) (fun h242 => ?_) (fun h242 => ?_)
                · exact absurd h242 (by decide)
                · refine s_ldc2_w (pc := 245) dX9_digest_245 rfl cnX9_350 ?_
                  refine s_lload_1 (pc := 248) dX9_digest_248 ?_
                  refine s_lmul (pc := 249) dX9_digest_249 ?_
                  refine s_aload_0 (pc := 250) dX9_digest_250 ?_
                  refine s_iload_4 (pc := 251) dX9_digest_251 ?_
                  refine s_iload_5 (pc := 253) dX9_digest_253 ?_
                  refine cV2l (pc := 255) (Ky := kX9_costOf) dX9_digest_255 rfl lnX9_261 okX9_costOf ⟨9, TX9, 40, rfl, rfl⟩ ⟨Nat.le_of_ble_eq_true rfl, Nat.le_of_ble_eq_true rfl⟩ (Nat.le_of_ble_eq_true rfl) (c_X9_costOf (tx := tx) (n := n) (hd := hd) (lv := lv) hp (by omega) (by rw [hG.fn 43 rfl]; exact e43) (by rw [hG.at 122 rfl 0]; exact e122) hn ht (by rw [hG.fn 47 rfl]; exact e47) (by rw [hG.fn 48 rfl]; exact e48) hhd hlv) ?_
                  rintro _ ν255 ⟨rfl, hF255⟩
                  have c63 := (hF255.fn 63 rfl).trans c63
                  have hG := FrT.ch hG.1 hF255 (by decide)
                  obtain ⟨c124, c125⟩ := id hG.2
                  refine s_ladd (pc := 258) dX9_digest_258 ?_
                  refine s_lstore_1 (pc := 259) dX9_digest_259 (Nat.le_of_ble_eq_true rfl) rfl ?_
                  refine s_iinc_5 (pc := 260) dX9_digest_260 (Nat.le_of_ble_eq_true rfl) rfl ?_
                  refine s_goto (pc := 263) 239 dX9_digest_263 rfl ?_
                  refine s_iload_5 (pc := 239) dX9_digest_239 ?_
                  refine s_iconst_2 (pc := 241) dX9_digest_241 ?_
                  refine s_icmp_ge (pc := 242) 266 dX9_digest_242 rfl (by omega) (by omega) (fun h242 => ?_) (fun h242 => ?_)
                  · exact absurd h242 (by decide)
                  · refine s_ldc2_w (pc := 245) dX9_digest_245 rfl cnX9_350 ?_
                    refine s_lload_1 (pc := 248) dX9_digest_248 ?_
                    refine s_lmul (pc := 249) dX9_digest_249 ?_
                    refine s_aload_0 (pc := 250) dX9_digest_250 ?_
                    refine s_iload_4 (pc := 251) dX9_digest_251 ?_
                    refine s_iload_5 (pc := 253) dX9_digest_253 ?_
                    refine cV2l (pc := 255) (Ky := kX9_costOf) dX9_digest_255 rfl lnX9_261 okX9_costOf ⟨9, TX9, 40, rfl, rfl⟩ ⟨Nat.le_of_ble_eq_true rfl, Nat.le_of_ble_eq_true rfl⟩ (Nat.le_of_ble_eq_true rfl) (c_X9_costOf (tx := tx) (n := n) (hd := hd) (lv := lv) hp (by omega) (by rw [hG.fn 43 rfl]; exact e43) (by rw [hG.at 122 rfl 0]; exact e122) hn ht (by rw [hG.fn 47 rfl]; exact e47) (by rw [hG.fn 48 rfl]; exact e48) hhd hlv) ?_
                    rintro _ ν255 ⟨rfl, hF255⟩
                    have c63 := (hF255.fn 63 rfl).trans c63
                    have hG := FrT.ch hG.1 hF255 (by decide)
                    obtain ⟨c124, c125⟩ := id hG.2
                    refine s_ladd (pc := 258) dX9_digest_258 ?_
                    refine s_lstore_1 (pc := 259) dX9_digest_259 (Nat.le_of_ble_eq_true rfl) rfl ?_
                    refine s_iinc_5 (pc := 260) dX9_digest_260 (Nat.le_of_ble_eq_true rfl) rfl ?_
                    refine s_goto (pc := 263) 239 dX9_digest_263 rfl ?_
                    refine s_iload_5 (pc := 239) dX9_digest_239 ?_
                    refine s_iconst_2 (pc := 241) dX9_digest_241 ?_
                    refine s_icmp_ge (pc := 242) 266 dX9_digest_242 rfl (by omega) (by omega) (fun h242 => ?_) (fun h242 => ?_)
                    · refine s_ldc2_w (pc := 266) dX9_digest_266 rfl cnX9_350 ?_
                      refine s_lload_1 (pc := 269) dX9_digest_269 ?_
                      refine s_lmul (pc := 270) dX9_digest_270 ?_
                      refine s_aload_0 (pc := 271) dX9_digest_271 ?_
                      refine s_iload_4 (pc := 272) dX9_digest_272 ?_
                      refine s_iconst_2 (pc := 274) dX9_digest_274 ?_
                      refine cV2l (pc := 275) (Ky := kX9_bestOf) dX9_digest_275 rfl lnX9_279 okX9_bestOf ⟨9, TX9, 40, rfl, rfl⟩ ⟨Nat.le_of_ble_eq_true rfl, Nat.le_of_ble_eq_true rfl⟩ (Nat.le_of_ble_eq_true rfl) (c_X9_bestOf (tx := tx) (n := n) (hd := hd) (lv := lv) hp (by omega) (by rw [hG.fn 43 rfl]; exact e43) (by rw [hG.at 122 rfl 0]; exact e122) hn ht (by rw [hG.fn 47 rfl]; exact e47) (by rw [hG.fn 48 rfl]; exact e48) hhd hlv) ?_
                      rintro _ ν275 ⟨rfl, hF275⟩
                      have c63 := (hF275.fn 63 rfl).trans c63
                      have hG := FrT.ch hG.1 hF275 (by decide)
                      obtain ⟨c124, c125⟩ := id hG.2
                      refine s_ladd (pc := 278) dX9_digest_278 ?_
                      refine s_lstore_1 (pc := 279) dX9_digest_279 (Nat.le_of_ble_eq_true rfl) rfl ?_
                      refine s_ldc2_w (pc := 280) dX9_digest_280 rfl cnX9_350 ?_
                      refine s_lload_1 (pc := 283) dX9_digest_283 ?_
                      refine s_lmul (pc := 284) dX9_digest_284 ?_
                      refine s_aload_0 (pc := 285) dX9_digest_285 ?_
                      refine s_iload_4 (pc := 286) dX9_digest_286 ?_
                      refine s_iconst_3 (pc := 288) dX9_digest_288 ?_
                      refine cV2l (pc := 289) (Ky := kX9_bestOf) dX9_digest_289 rfl lnX9_279 okX9_bestOf ⟨9, TX9, 40, rfl, rfl⟩ ⟨Nat.le_of_ble_eq_true rfl, Nat.le_of_ble_eq_true rfl⟩ (Nat.le_of_ble_eq_true rfl) (c_X9_bestOf (tx := tx) (n := n) (hd := hd) (lv := lv) hp (by omega) (by rw [hG.fn 43 rfl]; exact e43) (by rw [hG.at 122 rfl 0]; exact e122) hn ht (by rw [hG.fn 47 rfl]; exact e47) (by rw [hG.fn 48 rfl]; exact e48) hhd hlv) ?_
                      rintro _ ν289 ⟨rfl, hF289⟩
                      have c63 := (hF289.fn 63 rfl).trans c63
                      have hG := FrT.ch hG.1 hF289 (by decide)
                      obtain ⟨c124, c125⟩ := id hG.2
                      refine s_ladd (pc := 292) dX9_digest_292 ?_
                      refine s_lstore_1 (pc := 293) dX9_digest_293 (Nat.le_of_ble_eq_true rfl) rfl ?_
                      have hrs := (rsN_ok (cfg_okW hKR) rfl 20).1.1.2.2.2.2.2.2.1 p (by omega) (by omega)
                      have hrs1 : 0 ≤ (rs (cfg tx n hd lv)).1 49 p ∧ (rs (cfg tx n hd lv)).1 49 p ≤ 15 := hrs.1
                      have hrs2 : 0 ≤ (rs (cfg tx n hd lv)).1 50 p ∧ (rs (cfg tx n hd lv)).1 50 p ≤ 4 := hrs.2.1
                      refine s_ldc2_w (pc := 294) dX9_digest_294 rfl cnX9_350 ?_
                      refine s_lload_1 (pc := 297) dX9_digest_297 ?_
                      refine s_lmul (pc := 298) dX9_digest_298 ?_
                      refine s_aload_0 (pc := 299) dX9_digest_299 ?_
                      refine gfX9_84 (pc := 300) dX9_digest_300 rfl ?_
                      refine s_iconst_2 (pc := 303) dX9_digest_303 ?_
                      refine s_iload_4 (pc := 304) dX9_digest_304 ?_
                      refine s_imul (pc := 306) dX9_digest_306 ?_
                      refine z_iaload (pc := 307) dX9_digest_307 ly_63 (by omega) (by omega) ?_
                      try rw [c125]
                      try rw [c124]
                      try rw [c63]
                      rw [g0]
                      refine s_i2l (pc := 308) dX9_digest_308 (by omega) ?_
                      refine s_ladd (pc := 309) dX9_digest_309 ?_
                      refine s_lstore_1 (pc := 310) dX9_digest_310 (Nat.le_of_ble_eq_true rfl) rfl ?_
                      refine s_ldc2_w (pc := 311) dX9_digest_311 rfl cnX9_350 ?_
                      refine s_lload_1 (pc := 314) dX9_digest_314 ?_
                      refine s_lmul (pc := 315) dX9_digest_315 ?_
                      refine s_aload_0 (pc := 316) dX9_digest_316 ?_
                      refine gfX9_84 (pc := 317) dX9_digest_317 rfl ?_
                      refine s_iconst_2 (pc := 320) dX9_digest_320 ?_
                      refine s_iload_4 (pc := 321) dX9_digest_321 ?_
                      refine s_imul (pc := 323) dX9_digest_323 ?_
                      refine s_iconst_1 (pc := 324) dX9_digest_324 ?_
                      refine s_iadd (pc := 325) dX9_digest_325 ?_
                      refine z_iaload (pc := 326) dX9_digest_326 ly_63 (by omega) (by omega) ?_
                      try rw [c125]
                      try rw [c124]
                      try rw [c63]
                      rw [g1]
                      refine s_i2l (pc := 327) dX9_digest_327 (by omega) ?_
                      refine s_ladd (pc := 328) dX9_digest_328 ?_
                      refine s_lstore_1 (pc := 329) dX9_digest_329 (Nat.le_of_ble_eq_true rfl) rfl ?_
                      refine s_aload_0 (pc := 330) dX9_digest_330 ?_
                      refine s_iload_4 (pc := 331) dX9_digest_331 ?_
                      refine cV1v (pc := 333) (Ky := kX9_findOrder) dX9_digest_333 rfl lnX9_294 okX9_findOrder ⟨9, TX9, 40, rfl, rfl⟩ ⟨Nat.le_of_ble_eq_true rfl, Nat.le_of_ble_eq_true rfl⟩ (Nat.le_of_ble_eq_true rfl) (c_X9_findOrder (tx := tx) (n := n) (hd := hd) (lv := lv) hp (by rw [hG.fn 43 rfl]; exact e43) (by rw [hG.at 122 rfl 0]; exact e122) hn ht (by rw [hG.fn 47 rfl]; exact e47) (by rw [hG.fn 48 rfl]; exact e48) hhd hlv) ?_
                      rintro ν333 ⟨hF333, hO333⟩
                      have c63 := (hF333.fn 63 rfl).trans c63
                      have hG := FrT.ch hG.1 hF333 (by decide)
                      obtain ⟨c124, c125⟩ := id hG.2
                      refine s_iconst_0 (pc := 336) dX9_digest_336 ?_
                      refine s_istore_5 (pc := 337) dX9_digest_337 (Nat.le_of_ble_eq_true rfl) rfl ?_
                      refine s_le ?_ (lp_X9_dgo (h := dgQ (cfg tx n hd lv) p h) (T := pTa tx n) (p := p) (r := r) (q := dg (pTa tx n) (ord (cfg tx n hd lv) p).2) (ν := ν333) hta c125 hO333 (fun _ => dg_in) ?_ 5 0 (by omega) (by omega) (by omega))
                      · exact ⟨Or.inr rfl, Or.inr rfl, Or.inl rfl, Or.inr rfl, Or.inr rfl, Or.inr rfl, trivial⟩
                      exact lp_X9_dgs e43 e122 hn ht e47 e48 hhd hlv hS e57 hwt h121 hp hk 1 ν333 hG c63 (by omega)
                    · exact absurd h242 (by decide)
              · exact absurd h212 (by decide)
        · exact absurd h178 (by decide)
