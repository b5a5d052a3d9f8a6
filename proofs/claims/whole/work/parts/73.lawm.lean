/-! ===== the law's own machine ===== -/
abbrev kL : MK := (yL_law, cL_law, 4, ret, room_1)
def XL (G : Geo) (p : Program) (s : State) (m : MethodId) (meth : Method) (c : Code) (b N : Nat) (xs : Nat → Int32) : Prop := lw_At p s m meth c b N xs ∧ va_K G.1 classes (tysG G) s ∧ NW s ∧ ZS G s s.heap ∧ gInj G ∧ G.2.1 66 = b ∧ ∀ k, k < 64 → s.heap.size ≤ G.2.1 k
def AL (N : Nat) (xs : Nat → Int32) (pc : Nat) (L : List (Option AV)) (st : List AV) (μ : Mem) : Prop :=
  ∀ (G : Geo) (p : Program) (l : Launch) (e : Env) (s : State) (m : MethodId) (below : List Frame) (meth : Method) (c : Code) (b : Nat), XL G p s m meth c b N xs → ∀ (H : Heap) (locs : List Loc) (ls : Array Slot), va_P G.1 classes (wo G μ) H → va_S (fun q : Nat => s.heap.size ≤ q) s.heap H locs → LH G.2.1 4 ls L →
  W p l e room_1 s m #[Value.ref b] below meth c H locs 64 1739 (lw_Z below #[Value.ref b] s) (F0 m pc ls (st.map (cv G.2.1)))
abbrev LL (i : Int) : List (Option AV) := [some (.inr (.inr 66)), some (.inr (.inr 0)), some (.inr (.inr 9)), some (.inl i)]
theorem l_aload {N : Nat} {xs : Nat → Int32} {pc : Nat} {L : List (Option AV)} {st : List AV} {μ : Mem} {i : Fin 4} {z : Nat} (d : decode cL_law pc = .ok (.aload_n i, 1)) (hL : L[(i : Nat)]? = some (some (.inr (.inr z)))) (k : AL N xs (pc + 1) L (.inr (.inr z) :: st) μ) : AL N xs pc L st μ := by
  intro G p l e s m below meth c b C H locs ls hP hS hl
  exact lv_aload_n C.1.1 C.1.2.1 d rfl (hl.2.2 _ _ hL) (k G p l e s m below meth c b C H locs ls hP hS hl)
theorem l_iload {N : Nat} {xs : Nat → Int32} {pc : Nat} {L : List (Option AV)} {st : List AV} {μ : Mem} {i : Fin 4} {z : Int} (d : decode cL_law pc = .ok (.iload_n i, 1)) (hL : L[(i : Nat)]? = some (some (.inl z))) (k : AL N xs (pc + 1) L (.inl z :: st) μ) : AL N xs pc L st μ := by
  intro G p l e s m below meth c b C H locs ls hP hS hl
  exact lv_iload_n C.1.1 C.1.2.1 d rfl (hl.2.2 _ _ hL) (k G p l e s m below meth c b C H locs ls hP hS hl)
theorem l_iconst {N : Nat} {xs : Nat → Int32} {pc : Nat} {L : List (Option AV)} {st : List AV} {μ : Mem} {z : Int} (d : decode cL_law pc = .ok (.iconst z, 1)) (k : AL N xs (pc + 1) L (.inl z :: st) μ) : AL N xs pc L st μ := by
  intro G p l e s m below meth c b C H locs ls hP hS hl
  exact lv_iconst (v := Int32.ofInt z) C.1.1 C.1.2.1 d rfl (k G p l e s m below meth c b C H locs ls hP hS hl)
theorem l_bipush {N : Nat} {xs : Nat → Int32} {pc : Nat} {L : List (Option AV)} {st : List AV} {μ : Mem} {n z : Int} (d : decode cL_law pc = .ok (.bipush n, 2)) (hz : (Int8.ofInt n).toInt = z) (k : AL N xs (pc + 2) L (.inl z :: st) μ) : AL N xs pc L st μ := by
  intro G p l e s m below meth c b C H locs ls hP hS hl
  exact lv_bipush (v := Int32.ofInt z) C.1.1 C.1.2.1 d (by rw [← hz]; exact (Int32.ofInt_int8ToInt _).symm) (k G p l e s m below meth c b C H locs ls hP hS hl)
theorem l_iadd {N : Nat} {xs : Nat → Int32} {pc : Nat} {L : List (Option AV)} {st : List AV} {μ : Mem} {x y : Int} (d : decode cL_law pc = .ok (.iadd, 1)) (k : AL N xs (pc + 1) L (.inl (x + y) :: st) μ) : AL N xs pc L (.inl y :: .inl x :: st) μ := by
  intro G p l e s m below meth c b C H locs ls hP hS hl
  refine lv_iadd C.1.1 C.1.2.1 d (W.st (?_) (k G p l e s m below meth c b C H locs ls hP hS hl))
  simp only [List.map_cons, cv]
  rw [Int32.ofInt_add]
theorem l_isub {N : Nat} {xs : Nat → Int32} {pc : Nat} {L : List (Option AV)} {st : List AV} {μ : Mem} {x y : Int} (d : decode cL_law pc = .ok (.isub, 1)) (k : AL N xs (pc + 1) L (.inl (x - y) :: st) μ) : AL N xs pc L (.inl y :: .inl x :: st) μ := by
  intro G p l e s m below meth c b C H locs ls hP hS hl
  refine lv_isub C.1.1 C.1.2.1 d (W.st (?_) (k G p l e s m below meth c b C H locs ls hP hS hl))
  simp only [List.map_cons, cv]
  rw [Int32.ofInt_sub]
theorem l_iand {N : Nat} {xs : Nat → Int32} {pc : Nat} {L : List (Option AV)} {st : List AV} {μ : Mem} {x y : Int} (d : decode cL_law pc = .ok (.iand, 1)) (k : AL N xs (pc + 1) L (.inl (andI x y) :: st) μ) : AL N xs pc L (.inl y :: .inl x :: st) μ := by
  intro G p l e s m below meth c b C H locs ls hP hS hl
  refine lv_iand C.1.1 C.1.2.1 d (W.st (?_) (k G p l e s m below meth c b C H locs ls hP hS hl))
  simp only [List.map_cons, cv, andI, Int32.ofInt_toInt]
theorem l_sld {N : Nat} {xs : Nat → Int32} {pc : Nat} {L : List (Option AV)} {st : List AV} {μ : Mem} {j : Int} (d : decode cL_law pc = .ok (.iaload, 1)) (h0 : 0 ≤ j) (h1 : j < N) (hN : N ≤ 3072) (k : AL N xs (pc + 1) L (.inl (xs j.toNat).toInt :: st) μ) : AL N xs pc L (.inl j :: .inr (.inr 66) :: st) μ := by
  intro G p l e s m below meth c b C H locs ls hP hS hl
  obtain ⟨⟨hx, hb, hr, hml, hown, hts, hX, hbl, hlocks, hgv⟩, -, -, -, -, h66, -⟩ := id C
  subst h66
  refine va_sld (i := Int32.ofInt j) hx hb hX hbl (Nat.not_le.mpr hbl) hS (i32_in h0 (by omega) (by omega)) d (W.st ?_ (k G p l e s m below meth c _ C H locs ls hP hS hl))
  simp only [List.map_cons, cv, Int32.ofInt_toInt, i32_clamp h0 (by omega : j < 2147483648)]
theorem l_slen {N : Nat} {xs : Nat → Int32} {pc : Nat} {L : List (Option AV)} {st : List AV} {μ : Mem} (d : decode cL_law pc = .ok (.arraylength, 1)) (k : AL N xs (pc + 1) L (.inl (N : Int) :: st) μ) : AL N xs pc L (.inr (.inr 66) :: st) μ := by
  intro G p l e s m below meth c b C H locs ls hP hS hl
  obtain ⟨⟨hx, hb, hr, hml, hown, hts, hX, hbl, hlocks, hgv⟩, -, -, -, -, h66, -⟩ := id C
  subst h66
  exact va_slen hx hb hX hbl (Nat.not_le.mpr hbl) hS d (W.st rfl (k G p l e s m below meth c _ C H locs ls hP hS hl))
theorem l_iinc {N : Nat} {xs : Nat → Int32} {pc : Nat} {L : List (Option AV)} {st : List AV} {μ : Mem} {n z : Int} {i : Nat} (d : decode cL_law pc = .ok (.iinc i n, 3)) (hL : L[i]? = some (some (.inl z))) (hi : i < 4) (hn : ∀ j, j + 1 = i → nolong (L[j]?.join) = true) (k : AL N xs (pc + 3) (L.set i (some (.inl (z + n)))) st μ) : AL N xs pc L st μ := by
  intro G p l e s m below meth c b C H locs ls hP hS hl
  obtain ⟨l0, h1, h2⟩ := pairs_of hl
  obtain ⟨j, hj⟩ := List.getElem?_of_mem (h2 _ _ hL)
  exact lv_iinc (v := Int32.ofInt (z + n)) C.1.1 C.1.2.1 d h1 hj (Int32.ofInt_add _ _).symm hi rfl (fun ls' h' => k G p l e s m below meth c b C H locs ls' hP hS (LH.set1 (v := .inl (z + n)) h2 h' hn))
theorem l_goto {N : Nat} {xs : Nat → Int32} {pc : Nat} {L : List (Option AV)} {st : List AV} {μ : Mem} {off : Int} (tgt : Nat) (d : decode cL_law pc = .ok (.goto off, 3)) (ht : (pc : Int) + off = (tgt : Int)) (k : AL N xs tgt L st μ) : AL N xs pc L st μ := by
  intro G p l e s m below meth c b C H locs ls hP hS hl
  exact lv_goto C.1.1 C.1.2.1 d ht (k G p l e s m below meth c b C H locs ls hP hS hl)
theorem l_icmp_gt {N : Nat} {xs : Nat → Int32} {pc : Nat} {L : List (Option AV)} {st : List AV} {μ : Mem} {x y : Int} {off : Int} (tgt : Nat) (d : decode cL_law pc = .ok (.if_icmp .gt off, 3)) (ht : (pc : Int) + off = (tgt : Int)) (hx : -2147483648 ≤ x ∧ x < 2147483648) (hy : -2147483648 ≤ y ∧ y < 2147483648) (k1 : y < x → AL N xs tgt L st μ) (k2 : x ≤ y → AL N xs (pc + 3) L st μ) : AL N xs pc L (.inl y :: .inl x :: st) μ := by
  intro G p l e s m below meth c b C H locs ls hP hS hl
  have eqv := i32_lt hy hx
  refine lv_icmp_gt C.1.1 C.1.2.1 d ht (fun h => k1 ?_ G p l e s m below meth c b C H locs ls hP hS hl) (fun h => k2 ?_ G p l e s m below meth c b C H locs ls hP hS hl)
  · exact eqv.mp h
  · exact Int.not_lt.mp (fun q => h (eqv.mpr q))
theorem l_same {N : Nat} {xs : Nat → Int32} {pc : Nat} {L : List (Option AV)} {st : List AV} {μ : Mem} {z : Int} {off : Int} (tgt : Nat) (d : decode cL_law pc = .ok (.if_icmp .eq off, 3)) (ht : (pc : Int) + off = (tgt : Int)) (k : AL N xs tgt L st μ) : AL N xs pc L (.inl z :: .inl z :: st) μ := by
  intro G p l e s m below meth c b C H locs ls hP hS hl
  exact lv_icmp_eq C.1.1 C.1.2.1 d ht (fun _ => k G p l e s m below meth c b C H locs ls hP hS hl) (fun h => absurd rfl h)
theorem l_samel {N : Nat} {xs : Nat → Int32} {pc : Nat} {L : List (Option AV)} {st : List AV} {μ : Mem} {z : Int} {off : Int} (tgt : Nat) (d : decode cL_law pc = .ok (.lcmp, 1)) (d2 : decode cL_law (pc + 1) = .ok (.ifCond .eq off, 3)) (ht : ((pc + 1 : Nat) : Int) + off = (tgt : Int)) (k : AL N xs tgt L st μ) : AL N xs pc L (.inr (.inl z) :: .inr (.inl z) :: st) μ := by
  intro G p l e s m below meth c b C H locs ls hP hS hl
  refine W.lcmp C.1.1 C.1.2.1 d (W.st (a := .int 0 :: st.map (cv G.2.1)) (by simp [lg_cmp]) ?_)
  exact lv_if_eq C.1.1 C.1.2.1 d2 ht (fun _ => k G p l e s m below meth c b C H locs ls hP hS hl) (fun h => absurd rfl h)
theorem l_ret {N : Nat} {xs : Nat → Int32} {pc : Nat} {L : List (Option AV)} {μ : Mem} (d : decode cL_law pc = .ok (.ireturn, 1)) : AL N xs pc L [.inl 1] μ := by
  intro G p l e s m below meth c b C H locs ls hP hS hl
  refine va_forget (fun q hq => hS.2.2 q hq) ?_
  exact lw_ret C.1.1 C.1.2.1 C.1.2.2.1 C.1.2.2.2.2.2.2.2.2.1 d
theorem l_tableOut {N : Nat} {xs : Nat → Int32} {pc : Nat} {L : List (Option AV)} {st : List AV} {μ : Mem} {x dflt lo hi : Int} {offs : Array Int} {len : Nat} (tgt : Nat) (d : decode cL_law pc = .ok (.tableswitch dflt lo hi offs, len)) (hx : -2147483648 ≤ x ∧ x < 2147483648) (h : x < lo ∨ hi < x) (ht : (pc : Int) + dflt = (tgt : Int)) (k : AL N xs tgt L st μ) : AL N xs pc L (.inl x :: st) μ := by
  intro G p l e s m below meth c b C H locs ls hP hS hl
  exact lv_tableOut C.1.1 C.1.2.1 d (by rw [i32_toInt hx]; exact h) ht (k G p l e s m below meth c b C H locs ls hP hS hl)
theorem l_tableIn {N : Nat} {xs : Nat → Int32} {pc : Nat} {L : List (Option AV)} {st : List AV} {μ : Mem} {x dflt lo hi off : Int} {offs : Array Int} {len : Nat} (tgt : Nat) (d : decode cL_law pc = .ok (.tableswitch dflt lo hi offs, len)) (hx : -2147483648 ≤ x ∧ x < 2147483648) (h1 : lo ≤ x) (h2 : x ≤ hi) (ho : offs[(x - lo).toNat]? = some off) (ht : (pc : Int) + off = (tgt : Int)) (k : AL N xs tgt L st μ) : AL N xs pc L (.inl x :: st) μ := by
  intro G p l e s m below meth c b C H locs ls hP hS hl
  exact lv_tableIn C.1.1 C.1.2.1 d (by rw [i32_toInt hx]; omega) (by rw [i32_toInt hx]; omega) (by rw [i32_toInt hx]; exact ho) ht (k G p l e s m below meth c b C H locs ls hP hS hl)
/-- a call out of the law -/
theorem l_callV {N : Nat} {xs : Nat → Int32} {pc : Nat} {L : List (Option AV)} {st : List AV} {μ : Mem} {Ky : MK} {idx q : Nat} {As : List AV} {postY : Option AV → Mem → Prop} (d : decode cL_law pc = .ok (.invokevirtual idx, 3)) (hln : Cond.methodLink RL idx Ky.1 ∈ tblG) (hok : OKv Ky As.length) (hcl : ∃ (ci : Nat) (T : u_T) (N : Nat), classes[ci]? = some (Ky.1.cls, T, N) ∧ lay[q]? = some (3, ci)) (hro : roomy kL Ky) (hst : (st.map avc).sum ≤ 8)
    (hM : Mc Ky (.inr (.inr q) :: As) μ postY) (k : ∀ r ν, postY r ν → AL N xs (pc + 3) L (rcons r st) ν) : AL N xs pc L (As.reverse ++ .inr (.inr q) :: st) μ := by
  intro G p l e s m below meth c b C H locs ls hP hS hl
  obtain ⟨⟨h1, h2, h3, h4, h5⟩, h6, h7, -⟩ := hok
  obtain ⟨ci, T, N', hc, hb⟩ := hcl
  obtain ⟨⟨hx, hbc, hr, hml, hown, htl, hX, hbl, hlocks, hgv⟩, hK, hN, hZ, hI, h66, hfr⟩ := id C
  have hts : ∀ w ∈ tblG, w.before #[Value.ref b] s = true := fun w hw => htl w (List.mem_filter.mp hw).1
  have he := wo_obj (G := G) (μ := μ) hb
  have hcw : CallW room_1 s #[Value.ref b] RL Ky.1.cls idx Ky.1 Ky.2.1 Ky.2.2.1 Ky.2.2.2.1 (wsK Ky) Ky.2.2.2.2 0 0 As.length := ⟨callB_of As.length hts (wsK_good h1) rfl h4 h5 (hts _ h2) (hts _ hln) h3 hro, hts _ h6, hts _ h7⟩
  have hpre : ∀ {U : State}, U.heap = H → s.WarmedH U.vm → ZW G μ U := fun {U} hU hW => by
    refine ⟨by rw [hU]; exact hP, hK.moved hW.alike, fun w hw => ?_, ?_, hI⟩
    · have h1 := hN w hw
      obtain ⟨a, i, x, h, rfl⟩ := nest_form w hw
      exact va_Nw.warmM hW h1
    · rw [hU]
      exact (hZ.moved hW.alike).kept (fun a ha _ => hS.2.1 a ha (Nat.not_le.mpr ha))
  have hrun := va_runV (As := As.map (cv G.2.1)) (b := G.2.1 q) (g := F0 m pc ls ((As.reverse ++ .inr (.inr q) :: st).map (cv G.2.1))) (rest := st.map (cv G.2.1)) (locs := locs) (cells := 64) (slots := 1739) (below := below) (meth := meth) (e := e) ⟨hx, hbc, hml, hown, hts⟩ (hM l G) hcw ⟨blind_call, va_recv hK hP hc he, fun U hU hW => ⟨rfl, hpre hU hW⟩⟩ rfl (by rw [List.length_map]) hl.1 (by simp only [F0, List.map_append, List.map_reverse, List.map_cons, cv]) (lv_room (by rw [sum_cat]; exact hst)) d ⟨Nat.le_refl 64, Nat.le_refl 1739⟩
  intro T0 hT X
  obtain ⟨v, st₀, t, T', Lx, h0, X', hLx, e1, e2, ⟨⟨r, ν, hv, hp, hPn⟩, hz, hk⟩, go⟩ := hrun T0 hT X
  cases hv
  rw [h0] at hz hk
  have hzA : ∀ a : Nat, zA G a → s.heap.size ≤ a := fun a ⟨k', hk', e'⟩ => by rw [e']; exact hfr k' hk'
  have hS1 : va_S (fun q : Nat => s.heap.size ≤ q) s.heap T'.heap (locs ++ Lx) := ⟨Nat.le_trans hS.1 (by rw [e1]; exact hz), fun a h1 h2 => by rw [e1, hk a (Nat.lt_of_lt_of_le h1 hS.1) (fun q => h2 (hzA a q))]; exact hS.2.1 a h1 h2, fun a ha => by
      rcases List.mem_append.mp ha with h | h
      · exact hS.2.2 a h
      · exact hzA _ (hLx a h)⟩
  obtain ⟨t2, a1, b1⟩ := k r ν hp G p l e s m below meth c b C T'.heap (locs ++ Lx) ls (by rw [e1]; exact hPn) hS1 hl T' rfl X'
  refine ⟨t2, go t2 ?_, b1⟩
  cases r with
  | none => exact a1
  | some v => exact a1
theorem lV0i {N : Nat} {xs : Nat → Int32} {pc : Nat} {L : List (Option AV)} {st : List AV} {μ : Mem} {Ky : MK} {idx q : Nat} {P : Int → Mem → Prop} (d : decode cL_law pc = .ok (.invokevirtual idx, 3)) (hln : Cond.methodLink RL idx Ky.1 ∈ tblG) (hok : OKv Ky 0) (hcl : ∃ (ci : Nat) (T : u_T) (N : Nat), classes[ci]? = some (Ky.1.cls, T, N) ∧ lay[q]? = some (3, ci)) (hro : roomy kL Ky) (hst : (st.map avc).sum ≤ 8) (hM : Mc Ky (.inr (.inr q) :: []) μ (pI P)) (k : ∀ z ν, P z ν → AL N xs (pc + 3) L (.inl z :: st) ν) : AL N xs pc L (.inr (.inr q) :: st) μ :=
  l_callV (As := []) d hln hok hcl hro hst hM (fun r ν h => by obtain ⟨z, rfl, h⟩ := h; exact k z ν h)
theorem lV0l {N : Nat} {xs : Nat → Int32} {pc : Nat} {L : List (Option AV)} {st : List AV} {μ : Mem} {Ky : MK} {idx q : Nat} {P : Int → Mem → Prop} (d : decode cL_law pc = .ok (.invokevirtual idx, 3)) (hln : Cond.methodLink RL idx Ky.1 ∈ tblG) (hok : OKv Ky 0) (hcl : ∃ (ci : Nat) (T : u_T) (N : Nat), classes[ci]? = some (Ky.1.cls, T, N) ∧ lay[q]? = some (3, ci)) (hro : roomy kL Ky) (hst : (st.map avc).sum ≤ 8) (hM : Mc Ky (.inr (.inr q) :: []) μ (pL P)) (k : ∀ z ν, P z ν → AL N xs (pc + 3) L (.inr (.inl z) :: st) ν) : AL N xs pc L (.inr (.inr q) :: st) μ :=
  l_callV (As := []) d hln hok hcl hro hst hM (fun r ν h => by obtain ⟨z, rfl, h⟩ := h; exact k z ν h)
theorem lV1i {N : Nat} {xs : Nat → Int32} {pc : Nat} {L : List (Option AV)} {st : List AV} {μ : Mem} {Ky : MK} {idx q : Nat} {a0 : AV} {P : Int → Mem → Prop} (d : decode cL_law pc = .ok (.invokevirtual idx, 3)) (hln : Cond.methodLink RL idx Ky.1 ∈ tblG) (hok : OKv Ky 1) (hcl : ∃ (ci : Nat) (T : u_T) (N : Nat), classes[ci]? = some (Ky.1.cls, T, N) ∧ lay[q]? = some (3, ci)) (hro : roomy kL Ky) (hst : (st.map avc).sum ≤ 8) (hM : Mc Ky (.inr (.inr q) :: [a0]) μ (pI P)) (k : ∀ z ν, P z ν → AL N xs (pc + 3) L (.inl z :: st) ν) : AL N xs pc L (a0 :: .inr (.inr q) :: st) μ :=
  l_callV (As := [a0]) d hln hok hcl hro hst hM (fun r ν h => by obtain ⟨z, rfl, h⟩ := h; exact k z ν h)
theorem lV1l {N : Nat} {xs : Nat → Int32} {pc : Nat} {L : List (Option AV)} {st : List AV} {μ : Mem} {Ky : MK} {idx q : Nat} {a0 : AV} {P : Int → Mem → Prop} (d : decode cL_law pc = .ok (.invokevirtual idx, 3)) (hln : Cond.methodLink RL idx Ky.1 ∈ tblG) (hok : OKv Ky 1) (hcl : ∃ (ci : Nat) (T : u_T) (N : Nat), classes[ci]? = some (Ky.1.cls, T, N) ∧ lay[q]? = some (3, ci)) (hro : roomy kL Ky) (hst : (st.map avc).sum ≤ 8) (hM : Mc Ky (.inr (.inr q) :: [a0]) μ (pL P)) (k : ∀ z ν, P z ν → AL N xs (pc + 3) L (.inr (.inl z) :: st) ν) : AL N xs pc L (a0 :: .inr (.inr q) :: st) μ :=
  l_callV (As := [a0]) d hln hok hcl hro hst hM (fun r ν h => by obtain ⟨z, rfl, h⟩ := h; exact k z ν h)
theorem lV2i {N : Nat} {xs : Nat → Int32} {pc : Nat} {L : List (Option AV)} {st : List AV} {μ : Mem} {Ky : MK} {idx q : Nat} {a0 a1 : AV} {P : Int → Mem → Prop} (d : decode cL_law pc = .ok (.invokevirtual idx, 3)) (hln : Cond.methodLink RL idx Ky.1 ∈ tblG) (hok : OKv Ky 2) (hcl : ∃ (ci : Nat) (T : u_T) (N : Nat), classes[ci]? = some (Ky.1.cls, T, N) ∧ lay[q]? = some (3, ci)) (hro : roomy kL Ky) (hst : (st.map avc).sum ≤ 8) (hM : Mc Ky (.inr (.inr q) :: [a0, a1]) μ (pI P)) (k : ∀ z ν, P z ν → AL N xs (pc + 3) L (.inl z :: st) ν) : AL N xs pc L (a1 :: a0 :: .inr (.inr q) :: st) μ :=
  l_callV (As := [a0, a1]) d hln hok hcl hro hst hM (fun r ν h => by obtain ⟨z, rfl, h⟩ := h; exact k z ν h)
theorem lV2l {N : Nat} {xs : Nat → Int32} {pc : Nat} {L : List (Option AV)} {st : List AV} {μ : Mem} {Ky : MK} {idx q : Nat} {a0 a1 : AV} {P : Int → Mem → Prop} (d : decode cL_law pc = .ok (.invokevirtual idx, 3)) (hln : Cond.methodLink RL idx Ky.1 ∈ tblG) (hok : OKv Ky 2) (hcl : ∃ (ci : Nat) (T : u_T) (N : Nat), classes[ci]? = some (Ky.1.cls, T, N) ∧ lay[q]? = some (3, ci)) (hro : roomy kL Ky) (hst : (st.map avc).sum ≤ 8) (hM : Mc Ky (.inr (.inr q) :: [a0, a1]) μ (pL P)) (k : ∀ z ν, P z ν → AL N xs (pc + 3) L (.inr (.inl z) :: st) ν) : AL N xs pc L (a1 :: a0 :: .inr (.inr q) :: st) μ :=
  l_callV (As := [a0, a1]) d hln hok hcl hro hst hM (fun r ν h => by obtain ⟨z, rfl, h⟩ := h; exact k z ν h)
theorem lV3i {N : Nat} {xs : Nat → Int32} {pc : Nat} {L : List (Option AV)} {st : List AV} {μ : Mem} {Ky : MK} {idx q : Nat} {a0 a1 a2 : AV} {P : Int → Mem → Prop} (d : decode cL_law pc = .ok (.invokevirtual idx, 3)) (hln : Cond.methodLink RL idx Ky.1 ∈ tblG) (hok : OKv Ky 3) (hcl : ∃ (ci : Nat) (T : u_T) (N : Nat), classes[ci]? = some (Ky.1.cls, T, N) ∧ lay[q]? = some (3, ci)) (hro : roomy kL Ky) (hst : (st.map avc).sum ≤ 8) (hM : Mc Ky (.inr (.inr q) :: [a0, a1, a2]) μ (pI P)) (k : ∀ z ν, P z ν → AL N xs (pc + 3) L (.inl z :: st) ν) : AL N xs pc L (a2 :: a1 :: a0 :: .inr (.inr q) :: st) μ :=
  l_callV (As := [a0, a1, a2]) d hln hok hcl hro hst hM (fun r ν h => by obtain ⟨z, rfl, h⟩ := h; exact k z ν h)
theorem lV3l {N : Nat} {xs : Nat → Int32} {pc : Nat} {L : List (Option AV)} {st : List AV} {μ : Mem} {Ky : MK} {idx q : Nat} {a0 a1 a2 : AV} {P : Int → Mem → Prop} (d : decode cL_law pc = .ok (.invokevirtual idx, 3)) (hln : Cond.methodLink RL idx Ky.1 ∈ tblG) (hok : OKv Ky 3) (hcl : ∃ (ci : Nat) (T : u_T) (N : Nat), classes[ci]? = some (Ky.1.cls, T, N) ∧ lay[q]? = some (3, ci)) (hro : roomy kL Ky) (hst : (st.map avc).sum ≤ 8) (hM : Mc Ky (.inr (.inr q) :: [a0, a1, a2]) μ (pL P)) (k : ∀ z ν, P z ν → AL N xs (pc + 3) L (.inr (.inl z) :: st) ν) : AL N xs pc L (a2 :: a1 :: a0 :: .inr (.inr q) :: st) μ :=
  l_callV (As := [a0, a1, a2]) d hln hok hcl hro hst hM (fun r ν h => by obtain ⟨z, rfl, h⟩ := h; exact k z ν h)
theorem lV4i {N : Nat} {xs : Nat → Int32} {pc : Nat} {L : List (Option AV)} {st : List AV} {μ : Mem} {Ky : MK} {idx q : Nat} {a0 a1 a2 a3 : AV} {P : Int → Mem → Prop} (d : decode cL_law pc = .ok (.invokevirtual idx, 3)) (hln : Cond.methodLink RL idx Ky.1 ∈ tblG) (hok : OKv Ky 4) (hcl : ∃ (ci : Nat) (T : u_T) (N : Nat), classes[ci]? = some (Ky.1.cls, T, N) ∧ lay[q]? = some (3, ci)) (hro : roomy kL Ky) (hst : (st.map avc).sum ≤ 8) (hM : Mc Ky (.inr (.inr q) :: [a0, a1, a2, a3]) μ (pI P)) (k : ∀ z ν, P z ν → AL N xs (pc + 3) L (.inl z :: st) ν) : AL N xs pc L (a3 :: a2 :: a1 :: a0 :: .inr (.inr q) :: st) μ :=
  l_callV (As := [a0, a1, a2, a3]) d hln hok hcl hro hst hM (fun r ν h => by obtain ⟨z, rfl, h⟩ := h; exact k z ν h)
theorem lV4l {N : Nat} {xs : Nat → Int32} {pc : Nat} {L : List (Option AV)} {st : List AV} {μ : Mem} {Ky : MK} {idx q : Nat} {a0 a1 a2 a3 : AV} {P : Int → Mem → Prop} (d : decode cL_law pc = .ok (.invokevirtual idx, 3)) (hln : Cond.methodLink RL idx Ky.1 ∈ tblG) (hok : OKv Ky 4) (hcl : ∃ (ci : Nat) (T : u_T) (N : Nat), classes[ci]? = some (Ky.1.cls, T, N) ∧ lay[q]? = some (3, ci)) (hro : roomy kL Ky) (hst : (st.map avc).sum ≤ 8) (hM : Mc Ky (.inr (.inr q) :: [a0, a1, a2, a3]) μ (pL P)) (k : ∀ z ν, P z ν → AL N xs (pc + 3) L (.inr (.inl z) :: st) ν) : AL N xs pc L (a3 :: a2 :: a1 :: a0 :: .inr (.inr q) :: st) μ :=
  l_callV (As := [a0, a1, a2, a3]) d hln hok hcl hro hst hM (fun r ν h => by obtain ⟨z, rfl, h⟩ := h; exact k z ν h)
theorem lV5i {N : Nat} {xs : Nat → Int32} {pc : Nat} {L : List (Option AV)} {st : List AV} {μ : Mem} {Ky : MK} {idx q : Nat} {a0 a1 a2 a3 a4 : AV} {P : Int → Mem → Prop} (d : decode cL_law pc = .ok (.invokevirtual idx, 3)) (hln : Cond.methodLink RL idx Ky.1 ∈ tblG) (hok : OKv Ky 5) (hcl : ∃ (ci : Nat) (T : u_T) (N : Nat), classes[ci]? = some (Ky.1.cls, T, N) ∧ lay[q]? = some (3, ci)) (hro : roomy kL Ky) (hst : (st.map avc).sum ≤ 8) (hM : Mc Ky (.inr (.inr q) :: [a0, a1, a2, a3, a4]) μ (pI P)) (k : ∀ z ν, P z ν → AL N xs (pc + 3) L (.inl z :: st) ν) : AL N xs pc L (a4 :: a3 :: a2 :: a1 :: a0 :: .inr (.inr q) :: st) μ :=
  l_callV (As := [a0, a1, a2, a3, a4]) d hln hok hcl hro hst hM (fun r ν h => by obtain ⟨z, rfl, h⟩ := h; exact k z ν h)
theorem lV5l {N : Nat} {xs : Nat → Int32} {pc : Nat} {L : List (Option AV)} {st : List AV} {μ : Mem} {Ky : MK} {idx q : Nat} {a0 a1 a2 a3 a4 : AV} {P : Int → Mem → Prop} (d : decode cL_law pc = .ok (.invokevirtual idx, 3)) (hln : Cond.methodLink RL idx Ky.1 ∈ tblG) (hok : OKv Ky 5) (hcl : ∃ (ci : Nat) (T : u_T) (N : Nat), classes[ci]? = some (Ky.1.cls, T, N) ∧ lay[q]? = some (3, ci)) (hro : roomy kL Ky) (hst : (st.map avc).sum ≤ 8) (hM : Mc Ky (.inr (.inr q) :: [a0, a1, a2, a3, a4]) μ (pL P)) (k : ∀ z ν, P z ν → AL N xs (pc + 3) L (.inr (.inl z) :: st) ν) : AL N xs pc L (a4 :: a3 :: a2 :: a1 :: a0 :: .inr (.inr q) :: st) μ :=
  l_callV (As := [a0, a1, a2, a3, a4]) d hln hok hcl hro hst hM (fun r ν h => by obtain ⟨z, rfl, h⟩ := h; exact k z ν h)
/-- one more int of the script: script[i + z] -/
theorem l_arg {N : Nat} {xs : Nat → Int32} {pc : Nat} {st : List AV} {μ : Mem} {i z : Int} (d0 : decode cL_law pc = .ok (.aload_n 0, 1)) (d1 : decode cL_law (pc + 1) = .ok (.iload_n 3, 1)) (d2 : decode cL_law (pc + 2) = .ok (.iconst z, 1)) (d3 : decode cL_law (pc + 3) = .ok (.iadd, 1)) (d4 : decode cL_law (pc + 4) = .ok (.iaload, 1)) (hN : N ≤ 3072) (h0 : 0 ≤ i + z) (h1 : i + z < N) (k : AL N xs (pc + 5) (LL i) (.inl (xs (i + z).toNat).toInt :: st) μ) : AL N xs pc (LL i) st μ :=
  l_aload d0 rfl (l_iload d1 rfl (l_iconst d2 (l_iadd d3 (l_sld d4 h0 h1 hN k))))
theorem scr_in {xs : Nat → Int32} {j : Nat} : -2147483648 ≤ (xs j).toInt ∧ (xs j).toInt < 2147483648 := ⟨Int32.le_toInt _, Int32.toInt_lt _⟩
