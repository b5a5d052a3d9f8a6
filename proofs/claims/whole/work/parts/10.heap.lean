theorem nest_form : ∀ w ∈ nestW, ∃ (a : String) (i : Nat) (x : MethodName) (h : String), w = .methodLinkNest a i x h := by
  intro w hw
  simp only [nestW, List.mem_cons, List.not_mem_nil, or_false] at hw
  rcases hw with rfl | rfl | rfl | rfl | rfl | rfl | rfl <;> exact ⟨_, _, _, _, rfl⟩
theorem nest_tab : ∀ w ∈ nestW, w.onTables = true := by
  intro w hw
  obtain ⟨a, i, x, h, rfl⟩ := nest_form w hw
  rfl

theorem min_w : Cond.static Lib.Math.min.name ∈ tblG ∧ Cond.initialized "java/lang/Math" ∈ tblG ∧ Cond.code Lib.Math.min.name Lib.Math.min.code 2 (some .int) ∈ tblG := ⟨tblG_at 659 (by decide +kernel) rfl, tblG_at 93 (by decide +kernel) rfl, tblG_at 660 (by decide +kernel) rfl⟩

theorem abs_w : Cond.static Lib.MathLoose.abs_long.x ∈ tblG ∧ Cond.initialized "java/lang/Math" ∈ tblG ∧ Cond.code Lib.MathLoose.abs_long.x Lib.MathLoose.abs_long.code 2 (some .long) ∈ tblG := ⟨tblG_at 596 (by decide +kernel) rfl, tblG_at 93 (by decide +kernel) rfl, tblG_at 597 (by decide +kernel) rfl⟩

theorem copy_w : Cond.native arraycopyName ∈ tblG ∧ Cond.static arraycopyName ∈ tblG ∧ Cond.initialized "java/lang/System" ∈ tblG := ⟨tblG_at 501 (by decide +kernel) rfl, tblG_at 500 (by decide +kernel) rfl, tblG_at 91 (by decide +kernel) rfl⟩
def wr (μ : Mem) (c : Nat) (k z : Int) : Mem := fun c' k' => if c' = c ∧ k' = k then z else μ c' k'
def wa (μ : Mem) (c : Nat) (f : Int → Int) : Mem := fun c' => if c' = c then f else μ c'
/-- the cells of F out of ν, the others out of μ -/
def mg (F : List Nat) (ν μ : Mem) : Mem := fun c => if c ∈ F then ν c else μ c
theorem wr_same {μ : Mem} {c : Nat} {k z : Int} : wr μ c k z c k = z := by simp [wr]
theorem wr_nc {μ : Mem} {c c' : Nat} {k z : Int} (h : c' ≠ c) : wr μ c k z c' = μ c' := by funext k'; simp [wr, h]
theorem wr_c {μ : Mem} {c : Nat} {k k' z : Int} : wr μ c k z c k' = if k' = k then z else μ c k' := by simp [wr]
theorem wr_f {μ : Mem} {c : Nat} {k z : Int} : wr μ c k z c = fun k' => if k' = k then z else μ c k' := by funext k'; simp [wr]
theorem wa_c {μ : Mem} {c : Nat} {f : Int → Int} : wa μ c f c = f := by simp [wa]
theorem wa_nc {μ : Mem} {c c' : Nat} {f : Int → Int} (h : c' ≠ c) : wa μ c f c' = μ c' := by simp [wa, h]
theorem mg_in {F : List Nat} {ν μ : Mem} {c : Nat} (h : c ∈ F) : mg F ν μ c = ν c := by simp [mg, h]
theorem mg_out {F : List Nat} {ν μ : Mem} {c : Nat} (h : c ∉ F) : mg F ν μ c = μ c := by simp [mg, h]
theorem mg_of {F : List Nat} {ν μ : Mem} (h : ∀ c, c ∉ F → ν c = μ c) : ν = mg F ν μ := by
  funext c
  by_cases hc : c ∈ F
  · rw [mg_in hc]
  · rw [mg_out hc, h c hc]
def mentions (id k : Nat) (t : Nat × Nat) : Bool := if t.1 < 3 then id == k else (fl t.2).any (fun q => decide (q.1 < 2) && q.2 == id)
def indp (id b : Nat) : Bool := lay.zipIdx.all (fun q => q.2 == b || !mentions id q.2 q.1)
def sole (id ci k : Nat) : Bool := (fl ci).zipIdx.all (fun q => q.2 == k || !(decide (q.1.1 < 2) && q.1.2 == id))
theorem fvv_other {ad : Nat → Nat} {μ : Mem} {id : Nat} {j z : Int} {q : Nat × Nat} (h : (decide (q.1 < 2) && q.2 == id) = false) : fvv ad (wr μ id j z) q = fvv ad μ q := by
  obtain ⟨a, b⟩ := q
  match a, h with
  | 0, h =>
    have : b ≠ id := by simpa using h
    simp [fvv, wr_nc this]
  | 1, h =>
    have : b ≠ id := by simpa using h
    simp [fvv, wr_nc this]
  | a + 2, h => rfl
theorem cell_other {G : Geo} {μ : Mem} {id k : Nat} {j z : Int} {t : Nat × Nat} (h : mentions id k t = false) : cellOf G (wr μ id j z) k t = cellOf G μ k t := by
  obtain ⟨a, b⟩ := t
  match a, h with
  | 0, h =>
    have : k ≠ id := fun q => by subst q; simp [mentions] at h
    simp [cellOf, wr_nc this]
  | 1, h =>
    have : k ≠ id := fun q => by subst q; simp [mentions] at h
    simp [cellOf, wr_nc this]
  | 2, h =>
    have : k ≠ id := fun q => by subst q; simp [mentions] at h
    simp [cellOf, wr_nc this]
  | a + 3, h =>
    simp only [cellOf]
    congr 2
    refine List.map_congr_left fun q hq => fvv_other ?_
    have h0 : ¬ (a + 3 < 3) := by omega
    have h1 : (fl b).any (fun q => decide (q.1 < 2) && q.2 == id) = false := by simpa only [mentions, if_neg h0] using h
    have h2 := List.any_eq_false.mp h1 q hq
    simpa using h2
theorem indp_at {id b k : Nat} {t : Nat × Nat} (h : indp id b = true) (hk : lay[k]? = some t) (hb : k ≠ b) : mentions id k t = false := by
  have h1 := List.all_eq_true.mp h (t, k) (List.mk_mem_zipIdx_iff_getElem?.mpr hk)
  simpa [hb] using h1
/-- the world behind one write -/
theorem wo_wr {G : Geo} {μ : Mem} {id b : Nat} {j z : Int} {t : Nat × Nat} {e : va_E} (hb : lay[b]? = some t) (hi : indp id b = true) (he : e = cellOf G (wr μ id j z) b t) : (wo G μ).set b (G.2.1 b, e) = wo G (wr μ id j z) := by
  subst he
  apply List.ext_getElem?
  intro k
  by_cases hkb : k = b
  · subst hkb
    rw [wo_at hb, List.getElem?_set_self']
    rw [wo_at hb]; rfl
  · rw [List.getElem?_set_ne (Ne.symm hkb)]
    unfold wo
    rw [List.getElem?_mapIdx, List.getElem?_mapIdx]
    cases ht : lay[k]? with
    | none => rfl
    | some u =>
      simp only [Option.map_some]
      rw [cell_other (indp_at hi ht hkb)]
theorem wo_obj {G : Geo} {μ : Mem} {b ci : Nat} (hb : lay[b]? = some (3, ci)) : (wo G μ)[b]? = some (G.2.1 b, .inr (ci, (fl ci).map (fvv G.2.1 μ))) := by
  rw [wo_at hb]
  rfl
def vof (μ : Mem) (q : Nat × Nat) : AV := match q.1 with
  | 0 => .inl (μ q.2 0)
  | 1 => .inr (.inl (μ q.2 0))
  | _ => .inr (.inr q.2)
theorem cv_vof {ad : Nat → Nat} {μ : Mem} {q : Nat × Nat} : cv ad (vof μ q) = fvv ad μ q := by
  obtain ⟨a, b⟩ := q
  match a with
  | 0 => rfl
  | 1 => rfl
  | a + 2 => rfl
theorem z_get {K : MK} {pc : Nat} {L : List (Option AV)} {st : List AV} {μ : Mem} {post : Option AV → Mem → Prop} {own C : String} {T : u_T} {N ci idx k b : Nat} {q : Nat × Nat} (d : decode K.2.1 pc = .ok (.getfield idx, 3)) (ho : K.1.cls = own) (hin : ∀ w ∈ u_ws C T N, w ∈ tblG) (hlink : Cond.fieldLink own idx C (T k).2.1 (T k).2.2.1 ∈ tblG) (hb : lay[b]? = some (3, ci)) (hc : classes[ci]? = some (C, T, N)) (hk : k < N) (hC : (T k).1 = C) (hq : (fl ci)[k]? = some q) (kk : AW K (pc + 3) L (vof μ q :: st) μ post) : AW K pc L (.inr (.inr b) :: st) μ post := by
  intro G p l e s m args below meth c C H locs ls hP hS hl
  have hts := C.2.2.2.2.2.2.1
  have he := wo_obj (G := G) (μ := μ) hb
  refine va_get (D := G.1) (cl := classes) (v := fvv G.2.1 μ q) C.1 C.2.1 hts hin (ho ▸ C.2.2.2.2.1) C.2.2.2.2.2.2.2.1 hP b he hc k hk (hts _ hlink) (fun x hx => by rw [hC] at hx; exact hx) (by rw [List.getElem?_map, hq]; rfl) d (W.st ?_ (kk G p l e s m args below meth c C H locs ls hP hS hl))
  simp only [List.map_cons, cv_vof]
theorem z_put {K : MK} {pc : Nat} {L : List (Option AV)} {st : List AV} {μ : Mem} {post : Option AV → Mem → Prop} {own C : String} {T : u_T} {N ci idx k b id tg : Nat} {v : AV} {z : Int} (ty0 : Nat → FieldType) {ty : FieldType} (d : decode K.2.1 pc = .ok (.putfield idx, 3)) (ho : K.1.cls = own) (hin : ∀ w ∈ u_ws C T N, w ∈ tblG) (hty : ∀ k, k < N → parseFieldDescriptor (T k).2.2.1 = some (ty0 k)) (hnm : ∀ a, a < N → ∀ b, b < N → a ≠ b → (T a).2.1 ≠ (T b).2.1) (hlink : Cond.fieldLink own idx C (T k).2.1 (T k).2.2.1 ∈ tblG) (hb : lay[b]? = some (3, ci)) (hc : classes[ci]? = some (C, T, N)) (hk : k < N) (hC : (T k).1 = C) (hfin : (T k).2.2.2 = false) (hd : parseFieldDescriptor (T k).2.2.1 = some ty) (hq : (fl ci)[k]? = some (tg, id)) (hv : ∀ ad, cv ad v = fvv ad (wr μ id 0 z) (tg, id)) (hn : ∀ ad, narrow ty (cv ad v) = cv ad v) (hfit : ∀ ad, fits ty (cv ad v) = true) (hi : indp id b = true) (hs : sole id ci k = true)
    (kk : AW K (pc + 3) L st (wr μ id 0 z) post) : AW K pc L (v :: .inr (.inr b) :: st) μ post := by
  intro G p l e s m args below meth c C H locs ls hP hS hl
  have hts := C.2.2.2.2.2.2.1
  have he := wo_obj (G := G) (μ := μ) hb
  refine va_put (D := G.1) (cl := classes) (v := cv G.2.1 v) C.1 C.2.1 hts hin ty0 hty hnm (ho ▸ C.2.2.2.2.1) C.2.2.2.2.2.2.2.1 hP (wo_D C.2.2.2.2.2.2.2.2.2.2) hS b he hc k hk (hts _ hlink) (fun x hx => by rw [hC] at hx; exact hx) hfin hd (hn _) (hfit _) (by rw [List.length_map]; exact (List.getElem?_eq_some_iff.mp hq).1) d (fun H1 locs1 hP1 _ hS1 => ?_)
  refine kk G p l e s m args below meth c C H1 locs1 ls ?_ hS1 hl
  rw [← wo_wr (e := .inr (ci, ((fl ci).map (fvv G.2.1 μ)).set k (cv G.2.1 v))) hb hi ?_]
  · exact hP1
  · show _ = Sum.inr (ci, (fl ci).map (fvv G.2.1 (wr μ id 0 z)))
    refine congrArg (fun x => (Sum.inr (ci, x) : va_E)) ?_
    apply List.ext_getElem?
    intro j
    by_cases hjk : j = k
    · subst hjk
      rw [List.getElem?_set_self', List.getElem?_map, List.getElem?_map, hq]
      simp [hv]
    · rw [List.getElem?_set_ne (Ne.symm hjk), List.getElem?_map, List.getElem?_map]
      cases hj : (fl ci)[j]? with
      | none => rfl
      | some u =>
        have h1 := List.all_eq_true.mp hs (u, j) (List.mk_mem_zipIdx_iff_getElem?.mpr hj)
        simp only [Option.map_some]
        rw [fvv_other (by
          cases hw : (decide (u.1 < 2) && u.2 == id) with
          | false => rfl
          | true =>
            dsimp only at h1
            rw [hw] at h1
            simp [hjk] at h1)]
theorem clamp_cast {i : Int} (h0 : 0 ≤ i) (h : i < 2147483648) : (((Int32.ofInt i).toNatClampNeg : Nat) : Int) = i := by
  rw [i32_clamp h0 h]; omega
theorem lay_small {b tg n : Nat} (h : lay[b]? = some (tg, n)) : n < 2147483648 := by
  have h1 : lay.all (fun q => decide (q.2 < 2147483648)) = true := by decide +kernel
  simpa using List.all_eq_true.mp h1 _ (List.mem_of_getElem? h)

theorem z_iaload {K : MK} {pc : Nat} {L : List (Option AV)} {st : List AV} {μ : Mem} {post : Option AV → Mem → Prop} {b n : Nat} {i : Int} (d : decode K.2.1 pc = .ok (.iaload, 1)) (hb : lay[b]? = some (0, n)) (h0 : 0 ≤ i) (h1 : i < n) (kk : AW K (pc + 1) L (.inl (μ b i) :: st) μ post) : AW K pc L (.inl i :: .inr (.inr b) :: st) μ post := by
  intro G p l e s m args below meth c C H locs ls hP hS hl
  have hn := lay_small hb
  refine va_iald (D := G.1) (cl := classes) C.1 C.2.1 C.2.2.2.2.2.2.2.1 hP b 0 (wo_at hb) rfl (i32_in h0 h1 hn) d (W.st ?_ (kk G p l e s m args below meth c C H locs ls hP hS hl))
  simp only [List.map_cons, cv, clamp_cast h0 (by omega : i < 2147483648)]

theorem z_laload {K : MK} {pc : Nat} {L : List (Option AV)} {st : List AV} {μ : Mem} {post : Option AV → Mem → Prop} {b n : Nat} {i : Int} (d : decode K.2.1 pc = .ok (.laload, 1)) (hb : lay[b]? = some (1, n)) (h0 : 0 ≤ i) (h1 : i < n) (kk : AW K (pc + 1) L (.inr (.inl (μ b i)) :: st) μ post) : AW K pc L (.inl i :: .inr (.inr b) :: st) μ post := by
  intro G p l e s m args below meth c C H locs ls hP hS hl
  have hn := lay_small hb
  refine va_lald (D := G.1) (cl := classes) C.1 C.2.1 C.2.2.2.2.2.2.2.1 hP b 1 (wo_at hb) rfl (i32_in h0 h1 hn) d (W.st ?_ (kk G p l e s m args below meth c C H locs ls hP hS hl))
  simp only [List.map_cons, cv, clamp_cast h0 (by omega : i < 2147483648)]

theorem z_zaload {K : MK} {pc : Nat} {L : List (Option AV)} {st : List AV} {μ : Mem} {post : Option AV → Mem → Prop} {b n : Nat} {i : Int} (d : decode K.2.1 pc = .ok (.baload, 1)) (hb : lay[b]? = some (2, n)) (h0 : 0 ≤ i) (h1 : i < n) (kk : AW K (pc + 1) L (.inl (μ b i) :: st) μ post) : AW K pc L (.inl i :: .inr (.inr b) :: st) μ post := by
  intro G p l e s m args below meth c C H locs ls hP hS hl
  have hn := lay_small hb
  refine va_zald (D := G.1) (cl := classes) C.1 C.2.1 C.2.2.2.2.2.2.2.1 hP b 2 (wo_at hb) rfl (i32_in h0 h1 hn) d (W.st ?_ (kk G p l e s m args below meth c C H locs ls hP hS hl))
  simp only [List.map_cons, cv, clamp_cast h0 (by omega : i < 2147483648)]

theorem z_iastore {K : MK} {pc : Nat} {L : List (Option AV)} {st : List AV} {μ : Mem} {post : Option AV → Mem → Prop} {b n : Nat} {i z : Int} (d : decode K.2.1 pc = .ok (.iastore, 1)) (hb : lay[b]? = some (0, n)) (hi : indp b b = true) (h0 : 0 ≤ i) (h1 : i < n) (kk : AW K (pc + 1) L st (wr μ b i z) post) : AW K pc L (.inl z :: .inl i :: .inr (.inr b) :: st) μ post := by
  intro G p l e s m args below meth c C H locs ls hP hS hl
  have hn := lay_small hb
  refine va_iast (D := G.1) (cl := classes) C.1 C.2.1 C.2.2.2.2.2.2.2.1 hP (wo_D C.2.2.2.2.2.2.2.2.2.2) hS b 0 (wo_at hb) rfl (i32_in h0 h1 hn) d (fun H1 locs1 hP1 _ hS1 => ?_)
  refine kk G p l e s m args below meth c C H1 locs1 ls ?_ hS1 hl
  rw [← wo_wr hb hi rfl]
  have hE : ∀ j : Nat, wr μ b i z b j = if j = (Int32.ofInt i).toNatClampNeg then z else μ b j := by
    intro j
    rw [wr_c]
    have hc := clamp_cast h0 (by omega : i < 2147483648)
    by_cases hj : j = (Int32.ofInt i).toNatClampNeg
    · rw [if_pos hj, if_pos (by rw [hj]; exact hc)]
    · rw [if_neg hj, if_neg (fun q => hj (by omega))]
  have hF : cellOf G (wr μ b i z) b (0, n) = .inl (G.2.2.1, n, Sum.inl (fun j => Int32.ofInt (wr μ b i z b j))) := rfl
  rw [hF]
  rw [show (fun j : Nat => Int32.ofInt (wr μ b i z b j)) = upd (fun j : Nat => Int32.ofInt (μ b j)) (Int32.ofInt i).toNatClampNeg (Int32.ofInt z) from funext fun j => by rw [hE]; unfold upd; split <;> rfl]
  exact hP1

theorem z_lastore {K : MK} {pc : Nat} {L : List (Option AV)} {st : List AV} {μ : Mem} {post : Option AV → Mem → Prop} {b n : Nat} {i z : Int} (d : decode K.2.1 pc = .ok (.lastore, 1)) (hb : lay[b]? = some (1, n)) (hi : indp b b = true) (h0 : 0 ≤ i) (h1 : i < n) (kk : AW K (pc + 1) L st (wr μ b i z) post) : AW K pc L (.inr (.inl z) :: .inl i :: .inr (.inr b) :: st) μ post := by
  intro G p l e s m args below meth c C H locs ls hP hS hl
  have hn := lay_small hb
  refine va_last (D := G.1) (cl := classes) C.1 C.2.1 C.2.2.2.2.2.2.2.1 hP (wo_D C.2.2.2.2.2.2.2.2.2.2) hS b 1 (wo_at hb) rfl (i32_in h0 h1 hn) d (fun H1 locs1 hP1 _ hS1 => ?_)
  refine kk G p l e s m args below meth c C H1 locs1 ls ?_ hS1 hl
  rw [← wo_wr hb hi rfl]
  have hE : ∀ j : Nat, wr μ b i z b j = if j = (Int32.ofInt i).toNatClampNeg then z else μ b j := by
    intro j
    rw [wr_c]
    have hc := clamp_cast h0 (by omega : i < 2147483648)
    by_cases hj : j = (Int32.ofInt i).toNatClampNeg
    · rw [if_pos hj, if_pos (by rw [hj]; exact hc)]
    · rw [if_neg hj, if_neg (fun q => hj (by omega))]
  have hF : cellOf G (wr μ b i z) b (1, n) = .inl (G.2.2.2.1, n, Sum.inr (Sum.inl (fun j => Int64.ofInt (wr μ b i z b j)))) := rfl
  rw [hF]
  rw [show (fun j : Nat => Int64.ofInt (wr μ b i z b j)) = vp_updL (fun j : Nat => Int64.ofInt (μ b j)) (Int32.ofInt i).toNatClampNeg (Int64.ofInt z) from funext fun j => by rw [hE]; unfold vp_updL; split <;> rfl]
  exact hP1

theorem z_zastore {K : MK} {pc : Nat} {L : List (Option AV)} {st : List AV} {μ : Mem} {post : Option AV → Mem → Prop} {b n : Nat} {i z : Int} (d : decode K.2.1 pc = .ok (.bastore, 1)) (hb : lay[b]? = some (2, n)) (hi : indp b b = true) (h0 : 0 ≤ i) (h1 : i < n) (hz : z = 0 ∨ z = 1) (kk : AW K (pc + 1) L st (wr μ b i z) post) : AW K pc L (.inl z :: .inl i :: .inr (.inr b) :: st) μ post := by
  intro G p l e s m args below meth c C H locs ls hP hS hl
  have hn := lay_small hb
  refine va_zast (D := G.1) (cl := classes) C.1 C.2.1 C.2.2.2.2.2.2.2.1 hP (wo_D C.2.2.2.2.2.2.2.2.2.2) hS b 2 (wo_at hb) rfl (i32_in h0 h1 hn) d (fun H1 locs1 hP1 _ hS1 => ?_)
  refine kk G p l e s m args below meth c C H1 locs1 ls ?_ hS1 hl
  rw [← wo_wr hb hi rfl]
  have hE : ∀ j : Nat, wr μ b i z b j = if j = (Int32.ofInt i).toNatClampNeg then z else μ b j := by
    intro j
    rw [wr_c]
    have hc := clamp_cast h0 (by omega : i < 2147483648)
    by_cases hj : j = (Int32.ofInt i).toNatClampNeg
    · rw [if_pos hj, if_pos (by rw [hj]; exact hc)]
    · rw [if_neg hj, if_neg (fun q => hj (by omega))]
  have hF : cellOf G (wr μ b i z) b (2, n) = .inl (G.2.2.2.2, n, Sum.inl (fun j => Int32.ofInt (wr μ b i z b j))) := rfl
  rw [hF]
  rw [show (fun j : Nat => Int32.ofInt (wr μ b i z b j)) = upd (fun j : Nat => Int32.ofInt (μ b j)) (Int32.ofInt i).toNatClampNeg (vp_nar .boolean (Int32.ofInt z)) from funext fun j => by rw [hE, show vp_nar .boolean (Int32.ofInt z) = Int32.ofInt z from (by rcases hz with rfl | rfl <;> decide)]; unfold upd; split <;> rfl]
  exact hP1

theorem z_alen0 {K : MK} {pc : Nat} {L : List (Option AV)} {st : List AV} {μ : Mem} {post : Option AV → Mem → Prop} {b n : Nat} (d : decode K.2.1 pc = .ok (.arraylength, 1)) (hb : lay[b]? = some (0, n)) (kk : AW K (pc + 1) L (.inl n :: st) μ post) : AW K pc L (.inr (.inr b) :: st) μ post := by
  intro G p l e s m args below meth c C H locs ls hP hS hl
  exact va_alen (D := G.1) (cl := classes) (v := Int32.ofInt n) C.1 C.2.1 C.2.2.2.2.2.2.2.1 hP b 0 (wo_at hb) rfl (Int32.ofInt_eq_ofNat.symm) d (kk G p l e s m args below meth c C H locs ls hP hS hl)

theorem z_alen1 {K : MK} {pc : Nat} {L : List (Option AV)} {st : List AV} {μ : Mem} {post : Option AV → Mem → Prop} {b n : Nat} (d : decode K.2.1 pc = .ok (.arraylength, 1)) (hb : lay[b]? = some (1, n)) (kk : AW K (pc + 1) L (.inl n :: st) μ post) : AW K pc L (.inr (.inr b) :: st) μ post := by
  intro G p l e s m args below meth c C H locs ls hP hS hl
  exact va_alen (D := G.1) (cl := classes) (v := Int32.ofInt n) C.1 C.2.1 C.2.2.2.2.2.2.2.1 hP b 1 (wo_at hb) rfl (Int32.ofInt_eq_ofNat.symm) d (kk G p l e s m args below meth c C H locs ls hP hS hl)

theorem z_getOWED {K : MK} {pc : Nat} {L : List (Option AV)} {st : List AV} {μ : Mem} {post : Option AV → Mem → Prop} {own : String} {idx : Nat} (d : decode K.2.1 pc = .ok (.getstatic idx, 3)) (ho : K.1.cls = own) (hlink : Cond.fieldLink own idx "LaughsLast$Chances" "OWED" "[J" ∈ tblG) (kk : AW K (pc + 3) L (.inr (.inr 64) :: st) μ post) : AW K pc L st μ post := by
  intro G p l e s m args below meth c C H locs ls hP hS hl
  exact va_gets C.1 C.2.1 (C.2.2.2.2.2.2.2.2.2.1).1.1 hS (ho ▸ C.2.2.2.2.1) (C.2.2.2.2.2.2.1 _ hlink) (fun _ h => h) d (kk G p l e s m args below meth c C H locs ls hP hS hl)
theorem z_laOWED {K : MK} {pc : Nat} {L : List (Option AV)} {st : List AV} {μ : Mem} {post : Option AV → Mem → Prop} {i : Int} (d : decode K.2.1 pc = .ok (.laload, 1)) (h0 : 0 ≤ i) (h1 : i < 5) (kk : AW K (pc + 1) L (.inr (.inl (owI i)) :: st) μ post) : AW K pc L (.inl i :: .inr (.inr 64) :: st) μ post := by
  intro G p l e s m args below meth c C H locs ls hP hS hl
  refine va_tl C.1 C.2.1 (C.2.2.2.2.2.2.2.2.2.1).1.2 hS (v := .long (Int64.ofInt (owI i))) (i32_in h0 (n := 5) h1 (by decide)) ?_ d (kk G p l e s m args below meth c C H locs ls hP hS hl)
  simp only [clamp_cast h0 (by omega : i < 2147483648)]

theorem z_getCOSTS {K : MK} {pc : Nat} {L : List (Option AV)} {st : List AV} {μ : Mem} {post : Option AV → Mem → Prop} {own : String} {idx : Nat} (d : decode K.2.1 pc = .ok (.getstatic idx, 3)) (ho : K.1.cls = own) (hlink : Cond.fieldLink own idx "LaughsLast$Chances" "COSTS" "[J" ∈ tblG) (kk : AW K (pc + 3) L (.inr (.inr 65) :: st) μ post) : AW K pc L st μ post := by
  intro G p l e s m args below meth c C H locs ls hP hS hl
  exact va_gets C.1 C.2.1 (C.2.2.2.2.2.2.2.2.2.1).2.1 hS (ho ▸ C.2.2.2.2.1) (C.2.2.2.2.2.2.1 _ hlink) (fun _ h => h) d (kk G p l e s m args below meth c C H locs ls hP hS hl)
theorem z_laCOSTS {K : MK} {pc : Nat} {L : List (Option AV)} {st : List AV} {μ : Mem} {post : Option AV → Mem → Prop} {i : Int} (d : decode K.2.1 pc = .ok (.laload, 1)) (h0 : 0 ≤ i) (h1 : i < 5) (kk : AW K (pc + 1) L (.inr (.inl (coI i)) :: st) μ post) : AW K pc L (.inl i :: .inr (.inr 65) :: st) μ post := by
  intro G p l e s m args below meth c C H locs ls hP hS hl
  refine va_tl C.1 C.2.1 (C.2.2.2.2.2.2.2.2.2.1).2.2 hS (v := .long (Int64.ofInt (coI i))) (i32_in h0 (n := 5) h1 (by decide)) ?_ d (kk G p l e s m args below meth c C H locs ls hP hS hl)
  simp only [clamp_cast h0 (by omega : i < 2147483648)]

theorem s_ireturn {K : MK} {pc : Nat} {L : List (Option AV)} {μ : Mem} {P : Int → Mem → Prop} {z : Int} (d : decode K.2.1 pc = .ok (.ireturn, 1)) (hr : K.2.2.2.1 = some .int) (h : P z μ) : AW K pc L [.inl z] μ (pI P) := by
  intro G p l e s m args below meth c C H locs ls hP hS hl
  exact W.iret (v := Int32.ofInt z) C.1 C.2.1 (C.2.2.1.trans hr) (fun t ht hW => ⟨⟨some (.inl z), μ, rfl, ⟨z, rfl, h⟩, by rw [ht]; exact hP⟩, hS.F ht⟩) hS.2.2 d C.2.2.2.2.2.1
theorem s_zreturn {K : MK} {pc : Nat} {L : List (Option AV)} {μ : Mem} {P : Int → Mem → Prop} {z : Int} (d : decode K.2.1 pc = .ok (.ireturn, 1)) (hr : K.2.2.2.1 = some .boolean) (hz : z = 0 ∨ z = 1) (h : P z μ) : AW K pc L [.inl z] μ (pI P) := by
  intro G p l e s m args below meth c C H locs ls hP hS hl
  exact W.zret (v := Int32.ofInt z) C.1 C.2.1 (C.2.2.1.trans hr) (by rcases hz with rfl | rfl <;> decide) (fun t ht hW => ⟨⟨some (.inl z), μ, rfl, ⟨z, rfl, h⟩, by rw [ht]; exact hP⟩, hS.F ht⟩) hS.2.2 d C.2.2.2.2.2.1
theorem s_lreturn {K : MK} {pc : Nat} {L : List (Option AV)} {μ : Mem} {P : Int → Mem → Prop} {z : Int} (d : decode K.2.1 pc = .ok (.lreturn, 1)) (hr : K.2.2.2.1 = some .long) (h : P z μ) : AW K pc L [.inr (.inl z)] μ (pL P) := by
  intro G p l e s m args below meth c C H locs ls hP hS hl
  exact W.lret (v := Int64.ofInt z) C.1 C.2.1 (C.2.2.1.trans hr) (fun t ht hW => ⟨⟨some (.inr (.inl z)), μ, rfl, ⟨z, rfl, h⟩, by rw [ht]; exact hP⟩, hS.F ht⟩) hS.2.2 d C.2.2.2.2.2.1
theorem s_areturn {K : MK} {pc : Nat} {L : List (Option AV)} {μ : Mem} {P : Nat → Mem → Prop} {z : Nat} {n : String} (d : decode K.2.1 pc = .ok (.areturn, 1)) (hr : K.2.2.2.1 = some (.object n)) (h : P z μ) : AW K pc L [.inr (.inr z)] μ (pR P) := by
  intro G p l e s m args below meth c C H locs ls hP hS hl
  exact W.aret (v := .ref (G.2.1 z)) C.1 C.2.1 (C.2.2.1.trans hr) (Or.inl ⟨n, rfl⟩) (Or.inr ⟨_, rfl⟩) (fun t ht hW => ⟨⟨some (.inr (.inr z)), μ, rfl, ⟨z, rfl, h⟩, by rw [ht]; exact hP⟩, hS.F ht⟩) hS.2.2 d C.2.2.2.2.2.1
theorem s_return {K : MK} {pc : Nat} {L : List (Option AV)} {μ : Mem} {P : Mem → Prop} (d : decode K.2.1 pc = .ok (.return_, 1)) (hr : K.2.2.2.1 = none) (h : P μ) : AW K pc L [] μ (pV P) := by
  intro G p l e s m args below meth c C H locs ls hP hS hl
  exact W.vret C.1 C.2.1 (C.2.2.1.trans hr) (fun t ht hW => ⟨⟨none, μ, rfl, ⟨rfl, h⟩, by rw [ht]; exact hP⟩, hS.F ht⟩) hS.2.2 d C.2.2.2.2.2.1

/-- what every call of a method takes from the tables: its code, that its class is there, how many arguments -/
def OKm (K : MK) (n : Nat) : Prop := Cond.code K.1 K.2.1 K.2.2.1 K.2.2.2.1 ∈ tblG ∧ Cond.initialized K.1.cls ∈ tblG ∧ (K.1.cls ≠ "java/lang/invoke/MethodHandle" ∧ K.1.cls ≠ "java/lang/invoke/VarHandle" ∧ (parseMethodDescriptor K.1.desc).map (fun d => d.parameters.length) = some n) ∧ K.2.2.2.2.cells = 0 ∧ K.2.2.2.2.slots = 0
def OKv (K : MK) (n : Nat) : Prop := OKm K n ∧ Cond.instanceMethod K.1 ∈ tblG ∧ Cond.selects K.1.cls K.1 K.1 ∈ tblG ∧ ∃ (ci : Nat) (T : u_T) (N b : Nat), classes[ci]? = some (K.1.cls, T, N) ∧ lay[b]? = some (3, ci)
def OKs (K : MK) (n : Nat) : Prop := OKm K n ∧ Cond.static K.1 ∈ tblG
def roomy (K Ky : MK) : Prop := Ky.2.2.2.2.frames + 1 ≤ K.2.2.2.2.frames ∧ 8 + (Ky.2.2.1 + 11) + Ky.2.2.2.2.locals ≤ K.2.2.2.2.locals
def rcons (r : Option AV) (st : List AV) : List AV := match r with
  | none => st
  | some v => v :: st
/-- behind a call -/
theorem call_back {K : MK} {pc : Nat} {L : List (Option AV)} {st : List AV} {post : Option AV → Mem → Prop} {postY : Option AV → Mem → Prop} {G : Geo} {p : Program} {l : Launch} {e : Env} {s : State} {m : MethodId} {args : Array Value} {below : List Frame} {meth : Method} {c : Code} (C : Cx K G p s m args meth c) {H : Heap} {locs : List Loc} {ls : Array Slot} (hS : va_S (zA G) s.heap H locs) (hl : LH G.2.1 K.2.2.1 ls L) {st0 : List Value} {a : Array Value}
    (hr : va_Run p l e K.2.2.2.2 s m args below meth c H locs 0 0 0 0 (F0 m pc ls st0) (st.map (cv G.2.1)) (QQ G postY a) (zA G)) (k : ∀ r ν, postY r ν → AW K (pc + 3) L (rcons r st) ν post) :
    W p l e K.2.2.2.2 s m args below meth c H locs 0 0 (MQ below (QQ G post) args s 0 0 (zA G)) (F0 m pc ls st0) := by
  intro T hT X
  obtain ⟨v, st₀, t, T', Lx, h0, X', hLx, e1, e2, ⟨⟨r, ν, hv, hp, hPn⟩, hz, hk⟩, go⟩ := hr T hT X
  cases hv
  rw [h0] at hz hk
  have hS1 : va_S (zA G) s.heap T'.heap (locs ++ Lx) := ⟨Nat.le_trans hS.1 (by rw [e1]; exact hz), fun q h1 h2 => by rw [e1, hk q (Nat.lt_of_lt_of_le h1 hS.1) h2]; exact hS.2.1 q h1 h2, fun q hq => by
      rcases List.mem_append.mp hq with h | h
      · exact hS.2.2 q h
      · exact hLx q h⟩
  obtain ⟨t2, a1, b1⟩ := k r ν hp G p l e s m args below meth c C T'.heap (locs ++ Lx) ls (by rw [e1]; exact hPn) hS1 hl T' rfl X'
  refine ⟨t2, go t2 ?_, b1⟩
  cases r with
  | none => exact a1
  | some v => exact a1
theorem pre_call {K : MK} {G : Geo} {μ : Mem} {p : Program} {s : State} {m : MethodId} {args : Array Value} {meth : Method} {c : Code} (C : Cx K G p s m args meth c) {H : Heap} {locs : List Loc} (hP : va_P G.1 classes (wo G μ) H) (hS : va_S (zA G) s.heap H locs) {U : State} (hU : U.heap = H) (hW : s.WarmedH U.vm) : ZW G μ U := by
  obtain ⟨-, -, -, -, -, -, -, hK, hN, hZ, hI⟩ := C
  refine ⟨by rw [hU]; exact hP, hK.moved hW.alike, fun w hw => ?_, ?_, hI⟩
  · have h1 := hN w hw
    obtain ⟨a, i, x, h, rfl⟩ := nest_form w hw
    exact va_Nw.warmM hW h1
  · rw [hU]
    exact (hZ.moved hW.alike).kept hS.2.1
theorem blind_call {G : Geo} {μ : Mem} {av : List Value} : FrameBlind (va_Pc av (fun U => ZW G μ U)) := by
  intro a U g mk h
  obtain ⟨h1, h2, h3, h4, h5, h6⟩ := h
  exact ⟨h1, h2, va_K.moved (u := U) (U := U.calling g mk a) (Vm.Alike.refl U.vm) h3, fun w hw => va_Nw.same (u := U) (nest_tab w hw) rfl (h4 w hw), h5.moved (Vm.Alike.refl U.vm), h6⟩
theorem sum_cat {ad : Nat → Nat} {st : List AV} : ((st.map (cv ad)).map fun v => v.category).sum = (st.map avc).sum := by
  rw [List.map_map]
  congr 1
  exact List.map_congr_left fun v _ => cv_cat ad v
theorem z_callV {K : MK} {pc : Nat} {L : List (Option AV)} {st : List AV} {μ : Mem} {post : Option AV → Mem → Prop} {Ky : MK} {own : String} {idx b : Nat} {As : List AV} {postY : Option AV → Mem → Prop} (d : decode K.2.1 pc = .ok (.invokevirtual idx, 3)) (ho : K.1.cls = own) (hln : Cond.methodLink own idx Ky.1 ∈ tblG) (hok : OKv Ky As.length) (hcl : ∃ (ci : Nat) (T : u_T) (N : Nat), classes[ci]? = some (Ky.1.cls, T, N) ∧ lay[b]? = some (3, ci)) (hro : roomy K Ky) (hst : (st.map avc).sum ≤ 8)
    (hM : Mc Ky (.inr (.inr b) :: As) μ postY) (k : ∀ r ν, postY r ν → AW K (pc + 3) L (rcons r st) ν post) : AW K pc L (As.reverse ++ .inr (.inr b) :: st) μ post := by
  intro G p l e s m args below meth c C H locs ls hP hS hl
  obtain ⟨⟨h1, h2, h3, h4, h5⟩, h6, h7, -⟩ := hok
  obtain ⟨ci, T, N, hc, hb⟩ := hcl
  have hts := C.2.2.2.2.2.2.1
  have he := wo_obj (G := G) (μ := μ) hb
  have hcw : CallW K.2.2.2.2 s args own Ky.1.cls idx Ky.1 Ky.2.1 Ky.2.2.1 Ky.2.2.2.1 (wsK Ky) Ky.2.2.2.2 0 0 As.length := ⟨callB_of As.length hts (wsK_good h1) rfl h4 h5 (hts _ h2) (hts _ hln) h3 hro, hts _ h6, hts _ h7⟩
  refine call_back C hS hl (va_runV (As := As.map (cv G.2.1)) (b := G.2.1 b) ⟨C.1, C.2.1, C.2.2.2.1, ho ▸ C.2.2.2.2.1, hts⟩ (hM l G) hcw ⟨blind_call, va_recv C.2.2.2.2.2.2.2.1 hP hc he, fun U hU hW => ⟨rfl, pre_call C hP hS hU hW⟩⟩ rfl (by rw [List.length_map]) hl.1 ?_ (lv_room (by rw [sum_cat]; exact hst)) d ⟨Nat.zero_le _, Nat.zero_le _⟩) k
  simp only [List.map_append, List.map_reverse, List.map_cons, cv]
theorem z_callS {K : MK} {pc : Nat} {L : List (Option AV)} {st : List AV} {μ : Mem} {post : Option AV → Mem → Prop} {Ky : MK} {own : String} {idx : Nat} {As : List AV} {postY : Option AV → Mem → Prop} (d : decode K.2.1 pc = .ok (.invokestatic idx, 3)) (ho : K.1.cls = own) (hln : Cond.methodLink own idx Ky.1 ∈ tblG) (hok : OKs Ky As.length) (hro : roomy K Ky) (hst : (st.map avc).sum ≤ 8)
    (hM : Mc Ky As μ postY) (k : ∀ r ν, postY r ν → AW K (pc + 3) L (rcons r st) ν post) : AW K pc L (As.reverse ++ st) μ post := by
  intro G p l e s m args below meth c C H locs ls hP hS hl
  obtain ⟨⟨h1, h2, h3, h4, h5⟩, h6⟩ := hok
  have hts := C.2.2.2.2.2.2.1
  refine call_back C hS hl (va_runS (As := As.map (cv G.2.1)) (n := As.length) (index := idx) ⟨C.1, C.2.1, C.2.2.2.1, ho ▸ C.2.2.2.2.1, hts⟩ (hM l G) ⟨callB_of As.length hts (wsK_good h1) rfl h4 h5 (hts _ h2) (hts _ hln) h3 hro, hts _ h6⟩ ⟨blind_call, fun U hU hW => ⟨rfl, pre_call C hP hS hU hW⟩⟩ rfl (by rw [List.length_map]) hl.1 ?_ (lv_room (by rw [sum_cat]; exact hst)) d ⟨Nat.zero_le _, Nat.zero_le _⟩) k
  simp only [List.map_append, List.map_reverse]
theorem z_callSN {K : MK} {pc : Nat} {L : List (Option AV)} {st : List AV} {μ : Mem} {post : Option AV → Mem → Prop} {Ky : MK} {own host : String} {idx : Nat} {As : List AV} {postY : Option AV → Mem → Prop} (d : decode K.2.1 pc = .ok (.invokestatic idx, 3)) (ho : K.1.cls = own) (hln : Cond.methodLinkNest own idx Ky.1 host ∈ nestW) (hok : OKs Ky As.length) (hro : roomy K Ky) (hst : (st.map avc).sum ≤ 8)
    (hM : Mc Ky As μ postY) (k : ∀ r ν, postY r ν → AW K (pc + 3) L (rcons r st) ν post) : AW K pc L (As.reverse ++ st) μ post := by
  intro G p l e s m args below meth c C H locs ls hP hS hl
  obtain ⟨⟨h1, h2, h3, h4, h5⟩, h6⟩ := hok
  have hts := C.2.2.2.2.2.2.1
  refine call_back C hS hl (va_runSN (As := As.map (cv G.2.1)) (n := As.length) (index := idx) ⟨C.1, C.2.1, C.2.2.2.1, ho ▸ C.2.2.2.2.1, hts⟩ (hM l G) ⟨va_cnB As.length hts (wsK_good h1) rfl h4 h5 (C.2.2.2.2.2.2.2.2.1 _ hln) (hts _ h2) h3 hro, hts _ h6, trivial⟩ ⟨blind_call, fun U hU hW => ⟨rfl, pre_call C hP hS hU hW⟩⟩ rfl (by rw [List.length_map]) hl.1 ?_ (lv_room (by rw [sum_cat]; exact hst)) d ⟨Nat.zero_le _, Nat.zero_le _⟩) k
  simp only [List.map_append, List.map_reverse]

theorem z_min {K : MK} {pc : Nat} {L : List (Option AV)} {st : List AV} {μ : Mem} {post : Option AV → Mem → Prop} {own : String} {idx : Nat} {x y : Int} (d : decode K.2.1 pc = .ok (.invokestatic idx, 3)) (ho : K.1.cls = own) (hln : Cond.methodLink own idx Lib.Math.min.name ∈ tblG) (hrf : 1 ≤ K.2.2.2.2.frames) (hrl : (st.map avc).sum + 13 ≤ K.2.2.2.2.locals) (hx : -2147483648 ≤ x ∧ x < 2147483648) (hy : -2147483648 ≤ y ∧ y < 2147483648) (k : AW K (pc + 3) L (.inl (min x y) :: st) μ post) : AW K pc L (.inl y :: .inl x :: st) μ post := by
  intro G p l e s m args below meth c C H locs ls hP hS hl
  have hts := C.2.2.2.2.2.2.1
  refine va_mmin C.1 C.2.1 (C.2.2.2.1.trans hl.1.symm) (ho ▸ C.2.2.2.2.1) (hts _ hln) (hts _ min_w.1) (hts _ min_w.2.1) (hts _ min_w.2.2) hrf (by rw [sum_cat]; exact hrl) (Nat.zero_le _) (Nat.zero_le _) d (W.st ?_ (k G p l e s m args below meth c C H locs ls hP hS hl))
  simp only [List.map_cons, cv, i32_lt hy hx]
  congr 2
  by_cases h : y < x
  · rw [if_pos h, Int.min_eq_right (by omega)]
  · rw [if_neg h, Int.min_eq_left (by omega)]
theorem z_absL {K : MK} {pc : Nat} {L : List (Option AV)} {st : List AV} {μ : Mem} {post : Option AV → Mem → Prop} {own : String} {idx : Nat} {x : Int} (d : decode K.2.1 pc = .ok (.invokestatic idx, 3)) (ho : K.1.cls = own) (hln : Cond.methodLink own idx Lib.MathLoose.abs_long.x ∈ tblG) (hrf : 1 ≤ K.2.2.2.2.frames) (hrl : (st.map avc).sum + 13 ≤ K.2.2.2.2.locals) (hx : -9223372036854775808 ≤ x ∧ x < 9223372036854775808) (k : AW K (pc + 3) L (.inr (.inl (x.natAbs : Int)) :: st) μ post) : AW K pc L (.inr (.inl x) :: st) μ post := by
  intro G p l e s m args below meth c C H locs ls hP hS hl
  have hts := C.2.2.2.2.2.2.1
  refine va_mabs_long C.1 C.2.1 (C.2.2.2.1.trans hl.1.symm) (ho ▸ C.2.2.2.2.1) (hts _ hln) (hts _ abs_w.1) (hts _ abs_w.2.1) (hts _ abs_w.2.2) hrf (by rw [sum_cat]; exact hrl) (Nat.zero_le _) (Nat.zero_le _) d (W.st ?_ (k G p l e s m args below meth c C H locs ls hP hS hl))
  simp only [List.map_cons, cv]
  congr 2
  have h0 := i64_lt (x := 0) (y := x) (by omega) hx
  rw [show Int64.ofInt 0 = 0 from rfl] at h0
  by_cases h : 0 < x
  · rw [if_pos (h0.mpr h), show ((x.natAbs : Int)) = x by omega]
  · rw [if_neg (fun q => h (h0.mp q)), show ((x.natAbs : Int)) = -x by omega, Int64.ofInt_neg]
def cpy (f g : Int → Int) (sp dp n : Int) : Int → Int := fun k => if dp ≤ k ∧ k < dp + n then f (sp + (k - dp)) else g k
theorem cell_otherA {G : Geo} {μ : Mem} {id k : Nat} {f : Int → Int} {t : Nat × Nat} (h : mentions id k t = false) : cellOf G (wa μ id f) k t = cellOf G μ k t := by
  obtain ⟨a, b⟩ := t
  match a, h with
  | 0, h =>
    have : k ≠ id := fun q => by subst q; simp [mentions] at h
    simp [cellOf, wa_nc this]
  | 1, h =>
    have : k ≠ id := fun q => by subst q; simp [mentions] at h
    simp [cellOf, wa_nc this]
  | 2, h =>
    have : k ≠ id := fun q => by subst q; simp [mentions] at h
    simp [cellOf, wa_nc this]
  | a + 3, h =>
    simp only [cellOf]
    congr 2
    refine List.map_congr_left fun q hq => ?_
    have h0 : ¬ (a + 3 < 3) := by omega
    have h1 : (fl b).any (fun q => decide (q.1 < 2) && q.2 == id) = false := by simpa only [mentions, if_neg h0] using h
    have h2 := List.any_eq_false.mp h1 q hq
    obtain ⟨a, b⟩ := q
    match a, h2 with
    | 0, h2 =>
      have : b ≠ id := by simpa using h2
      simp [fvv, wa_nc this]
    | 1, h2 =>
      have : b ≠ id := by simpa using h2
      simp [fvv, wa_nc this]
    | a + 2, h2 => rfl
theorem wo_wa {G : Geo} {μ : Mem} {id b : Nat} {f : Int → Int} {t : Nat × Nat} {e : va_E} (hb : lay[b]? = some t) (hi : indp id b = true) (he : e = cellOf G (wa μ id f) b t) : (wo G μ).set b (G.2.1 b, e) = wo G (wa μ id f) := by
  subst he
  apply List.ext_getElem?
  intro k
  by_cases hkb : k = b
  · subst hkb
    rw [wo_at hb, List.getElem?_set_self']
    rw [wo_at hb]; rfl
  · rw [List.getElem?_set_ne (Ne.symm hkb)]
    unfold wo
    rw [List.getElem?_mapIdx, List.getElem?_mapIdx]
    cases ht : lay[k]? with
    | none => rfl
    | some u =>
      simp only [Option.map_some]
      rw [cell_otherA (indp_at hi ht hkb)]
theorem z_copy {K : MK} {pc : Nat} {L : List (Option AV)} {st : List AV} {μ : Mem} {post : Option AV → Mem → Prop} {own : String} {idx b0 b1 n0 n1 : Nat} {sp dp n : Int} (d : decode K.2.1 pc = .ok (.invokestatic idx, 3)) (ho : K.1.cls = own) (hln : Cond.methodLink own idx arraycopyName ∈ tblG) (hb0 : lay[b0]? = some (0, n0)) (hb1 : lay[b1]? = some (0, n1)) (hi : indp b1 b1 = true) (hrf : 1 ≤ K.2.2.2.2.frames) (hrl : (st.map avc).sum + 18 ≤ K.2.2.2.2.locals) (h1 : 0 ≤ sp) (h2 : 0 ≤ dp) (h3 : 0 ≤ n) (h4 : sp + n ≤ n0) (h5 : dp + n ≤ n1) (k : AW K (pc + 3) L st (wa μ b1 (cpy (μ b0) (μ b1) sp dp n)) post) : AW K pc L (.inl n :: .inl dp :: .inr (.inr b1) :: .inl sp :: .inr (.inr b0) :: st) μ post := by
  intro G p l e s m args below meth c C H locs ls hP hS hl
  have hts := C.2.2.2.2.2.2.1
  have hn0 := lay_small hb0
  have hn1 := lay_small hb1
  have nn : ∀ z : Int, 0 ≤ z → z < 2147483648 → ¬ Int32.ofInt z < 0 := by
    intro z a b
    rw [← i32_zero, i32_lt ⟨by omega, b⟩ ⟨by omega, by omega⟩]
    omega
  refine va_copyi (D := G.1) (cl := classes) C.1 C.2.1 (C.2.2.2.1.trans hl.1.symm) (ho ▸ C.2.2.2.2.1) (hts _ hln) (hts _ copy_w.1) (hts _ copy_w.2.1) (hts _ copy_w.2.2) C.2.2.2.2.2.2.2.1 hP (wo_D C.2.2.2.2.2.2.2.2.2.2) hS b0 b1 0 0 (wo_at hb0) (wo_at hb1) rfl rfl rfl (nn _ h1 (by omega)) (nn _ h2 (by omega)) (nn _ h3 (by omega)) ?_ ?_ (fun _ _ => rfl) hrf (by rw [sum_cat]; exact hrl) d (fun H1 locs1 hP1 _ hS1 => ?_)
  · rw [i32_clamp h1 (by omega), i32_clamp h3 (by omega)]; omega
  · rw [i32_clamp h2 (by omega), i32_clamp h3 (by omega)]; omega
  · refine k G p l e s m args below meth c C H1 locs1 ls ?_ hS1 hl
    rw [← wo_wa hb1 hi rfl]
    have hF : cellOf G (wa μ b1 (cpy (μ b0) (μ b1) sp dp n)) b1 (0, n1) = .inl (G.2.2.1, n1, Sum.inl (fun j => Int32.ofInt (wa μ b1 (cpy (μ b0) (μ b1) sp dp n) b1 j))) := rfl
    rw [hF, wa_c]
    rw [show (fun j : Nat => Int32.ofInt (cpy (μ b0) (μ b1) sp dp n j)) = va_cpy (fun j : Nat => Int32.ofInt (μ b0 j)) (fun j : Nat => Int32.ofInt (μ b1 j)) (Int32.ofInt sp).toNatClampNeg (Int32.ofInt dp).toNatClampNeg (Int32.ofInt n).toNatClampNeg from funext fun j => by
      rw [i32_clamp h1 (by omega), i32_clamp h2 (by omega), i32_clamp h3 (by omega)]
      unfold va_cpy cpy
      by_cases hj : dp.toNat ≤ j ∧ j < dp.toNat + n.toNat
      · rw [if_pos hj, if_pos (by omega)]
        congr 2
        omega
      · rw [if_neg hj, if_neg (by omega)]]
    exact hP1
