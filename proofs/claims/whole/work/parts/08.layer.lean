/-! ===== the abstract machine: memory by numbers, values as whole numbers ===== -/
abbrev Mem : Type := Nat → Int → Int
abbrev AV : Type := Int ⊕ (Int ⊕ Nat)
abbrev MK : Type := MethodName × ByteArray × Nat × Option FieldType × Room
abbrev Geo : Type := va_G × (Nat → Nat) × (ClassId × ClassId × ClassId)
def cv (ad : Nat → Nat) (v : AV) : Value := match v with
  | .inl z => .int (Int32.ofInt z)
  | .inr (.inl z) => .long (Int64.ofInt z)
  | .inr (.inr k) => .ref (ad k)
def avc (v : AV) : Nat := match v with
  | .inl _ => 1
  | .inr (.inl _) => 2
  | .inr (.inr _) => 1
theorem cv_cat (ad : Nat → Nat) (v : AV) : (cv ad v).category = avc v := by rcases v with z | z | k <;> rfl
abbrev classes : List vw_C := [(RX0, TX0, 7), (RX1, TX1, 13), (RX2, TX2, 1), (RX3, TX3, 9), (RX4, TX4, 11), (RX5, TX5, 6), (RX6, TX6, 2), (RX7, TX7, 4), (RX8, TX8, 11), (RX9, TX9, 40)]
def fvv (ad : Nat → Nat) (μ : Mem) (q : Nat × Nat) : Value := match q.1 with
  | 0 => .int (Int32.ofInt (μ q.2 0))
  | 1 => .long (Int64.ofInt (μ q.2 0))
  | _ => .ref (ad q.2)
def cellOf (G : Geo) (μ : Mem) (k : Nat) (t : Nat × Nat) : va_E := match t.1 with
  | 0 => .inl (G.2.2.1, t.2, .inl (fun j => Int32.ofInt (μ k j)))
  | 1 => .inl (G.2.2.2.1, t.2, .inr (.inl (fun j => Int64.ofInt (μ k j))))
  | 2 => .inl (G.2.2.2.2, t.2, .inl (fun j => Int32.ofInt (μ k j)))
  | _ => .inr (t.2, (fl t.2).map (fvv G.2.1 μ))
def wo (G : Geo) (μ : Mem) : va_W := lay.mapIdx (fun k t => (G.2.1 k, cellOf G μ k t))
theorem wo_at {G : Geo} {μ : Mem} {k : Nat} {t : Nat × Nat} (h : lay[k]? = some t) : (wo G μ)[k]? = some (G.2.1 k, cellOf G μ k t) := by
  unfold wo
  rw [List.getElem?_mapIdx, h]
  rfl
theorem wo_at' {G : Geo} {μ : Mem} {k : Nat} {q : Nat × va_E} (h : (wo G μ)[k]? = some q) : ∃ t, lay[k]? = some t ∧ q = (G.2.1 k, cellOf G μ k t) := by
  unfold wo at h
  rw [List.getElem?_mapIdx] at h
  cases ht : lay[k]? with
  | none => rw [ht] at h; cases h
  | some t => rw [ht] at h; exact ⟨t, rfl, (Option.some.inj h).symm⟩
def zA (G : Geo) : Nat → Prop := fun q => ∃ k, k < 64 ∧ q = G.2.1 k
def tysG (G : Geo) : List (ClassId × FieldType) := [(G.2.2.1, .int), (G.2.2.2.1, .long), (G.2.2.2.2, .boolean)]
def gInj (G : Geo) : Prop := ∀ i j : Nat, i < 64 → j < 64 → G.2.1 i = G.2.1 j → i = j
theorem lay_len : lay.length = 64 := by decide +kernel
theorem lay_lt {k : Nat} {t : Nat × Nat} (h : lay[k]? = some t) : k < 64 := by
  rw [← lay_len]; exact (List.getElem?_eq_some_iff.mp h).1
theorem wo_D {G : Geo} {μ : Mem} (h : gInj G) : va_D (zA G) (wo G μ) := by
  refine ⟨fun i j p q hi hj hpq => ?_, fun k q hk => ?_⟩
  · obtain ⟨t, h1, rfl⟩ := wo_at' hi
    obtain ⟨u, h2, rfl⟩ := wo_at' hj
    exact h i j (lay_lt h1) (lay_lt h2) hpq
  · obtain ⟨t, h1, rfl⟩ := wo_at' hk
    exact ⟨k, lay_lt h1, rfl⟩
/-- the static tables: 3072 and 6144, to the power of 0 to 4 -/
def owI (z : Int) : Int := if z = 0 then 1 else if z = 1 then 3072 else if z = 2 then 9437184 else if z = 3 then 28991029248 else 89060441849856
def coI (z : Int) : Int := if z = 0 then 1 else if z = 1 then 6144 else if z = 2 then 37748736 else if z = 3 then 231928233984 else 1424967069597696
def ZS (G : Geo) (U : State) (H : Heap) : Prop :=
  (va_Z "LaughsLast$Chances" "OWED" "[J" (.ref (G.2.1 64)) (zA G) U H ∧ va_T .long (G.2.1 64) 5 (fun j => .long (Int64.ofInt (owI j))) (zA G) U H) ∧
  (va_Z "LaughsLast$Chances" "COSTS" "[J" (.ref (G.2.1 65)) (zA G) U H ∧ va_T .long (G.2.1 65) 5 (fun j => .long (Int64.ofInt (coI j))) (zA G) U H)
theorem ZS.moved {G : Geo} {u U : State} {H : Heap} (hvm : u.vm.Alike U.vm) (h : ZS G u H) : ZS G U H :=
  ⟨⟨va_Z.moved hvm h.1.1, va_T.moved hvm h.1.2⟩, ⟨va_Z.moved hvm h.2.1, va_T.moved hvm h.2.2⟩⟩
theorem ZS.kept {G : Geo} {U : State} {H H1 : Heap} (h : ZS G U H) (hq : ∀ a : Nat, a < H.size → ¬ zA G a → H1[a]? = H[a]?) : ZS G U H1 :=
  ⟨⟨h.1.1.kept hq, h.1.2.kept hq⟩, ⟨h.2.1.kept hq, h.2.2.kept hq⟩⟩
/-- words of calls between nest mates -/
def NW (U : State) : Prop := ∀ w ∈ nestW, va_Nw w U
def tblG : List Cond := lw_tbl.filter goodWord
theorem tblG_at {w : Cond} (i : Nat) (h : lw_tbl[i]? = some w) (hg : goodWord w = true) : w ∈ tblG := List.mem_filter.mpr ⟨List.mem_of_getElem? h, hg⟩
def wsK (K : MK) : List Cond := Cond.code K.1 K.2.1 K.2.2.1 K.2.2.2.1 :: tblG
theorem wsK_good {K : MK} (h : Cond.code K.1 K.2.1 K.2.2.1 K.2.2.2.1 ∈ tblG) : GoodIn tblG (wsK K) := by
  intro w hw
  rcases List.mem_cons.mp hw with rfl | hw
  · exact ⟨h, good_of_word (List.mem_filter.mp h).2⟩
  · exact ⟨hw, good_of_word (List.mem_filter.mp hw).2⟩
theorem tblG_good {w : Cond} (h : w ∈ tblG) : GoodIn tblG [w] := by
  intro v hv
  rw [List.mem_singleton] at hv
  subst hv
  exact ⟨h, good_of_word (List.mem_filter.mp h).2⟩
/-- the world at a method's start -/
def ZW (G : Geo) (μ : Mem) (U : State) : Prop := va_P G.1 classes (wo G μ) U.heap ∧ va_K G.1 classes (tysG G) U ∧ NW U ∧ ZS G U U.heap ∧ gInj G
def QQ (G : Geo) (post : Option AV → Mem → Prop) : Array Value → State → Outcome → State → Prop := fun _ st oc t => (∃ (r : Option AV) (μ' : Mem), oc = .returned (r.map (cv G.2.1)) ∧ post r μ' ∧ va_P G.1 classes (wo G μ') t.heap) ∧ va_F (zA G) st t
/-- a method's contract -/
def Mc (K : MK) (av : List AV) (μ : Mem) (post : Option AV → Mem → Prop) : Prop := ∀ (l : Launch) (G : Geo), Met l K.1 (wsK K) K.2.2.2.2 (va_Pc (av.map (cv G.2.1)) (fun U => ZW G μ U)) (QQ G post) 0 0 (zA G)
/-- what stays, inside a method -/
def Cx (K : MK) (G : Geo) (p : Program) (s : State) (m : MethodId) (args : Array Value) (meth : Method) (c : Code) : Prop :=
  p.tables.exec = Jvm.exec ∧ c.code = K.2.1 ∧ meth.sig.returnType = K.2.2.2.1 ∧ c.maxLocals = K.2.2.1 ∧ s.vm.findClass K.1.cls = some m.cls ∧ meth.locks = false ∧ (∀ w ∈ tblG, w.before args s = true) ∧ va_K G.1 classes (tysG G) s ∧ NW s ∧ ZS G s s.heap ∧ gInj G
/-- the locals that are known -/
def LH (ad : Nat → Nat) (n : Nat) (ls : Array Slot) (L : List (Option AV)) : Prop := ls.size = n ∧ lv_wf ls ∧ ∀ (i : Nat) (v : AV), L[i]? = some (some v) → ls[i]? = some (.val (cv ad v))
/-- from this point on the method comes to an end that has 'post' -/
def AW (K : MK) (pc : Nat) (L : List (Option AV)) (st : List AV) (μ : Mem) (post : Option AV → Mem → Prop) : Prop :=
  ∀ (G : Geo) (p : Program) (l : Launch) (e : Env) (s : State) (m : MethodId) (args : Array Value) (below : List Frame) (meth : Method) (c : Code), Cx K G p s m args meth c →
  ∀ (H : Heap) (locs : List Loc) (ls : Array Slot), va_P G.1 classes (wo G μ) H → va_S (zA G) s.heap H locs → LH G.2.1 K.2.2.1 ls L →
  W p l e K.2.2.2.2 s m args below meth c H locs 0 0 (MQ below (QQ G post) args s 0 0 (zA G)) (F0 m pc ls (st.map (cv G.2.1)))
def pI (P : Int → Mem → Prop) : Option AV → Mem → Prop := fun r μ => ∃ z, r = some (.inl z) ∧ P z μ
def pL (P : Int → Mem → Prop) : Option AV → Mem → Prop := fun r μ => ∃ z, r = some (.inr (.inl z)) ∧ P z μ
def pR (P : Nat → Mem → Prop) : Option AV → Mem → Prop := fun r μ => ∃ k, r = some (.inr (.inr k)) ∧ P k μ
def pV (P : Mem → Prop) : Option AV → Mem → Prop := fun r μ => r = none ∧ P μ
/-- the locals with which a method begins -/
def L0 : Nat → List AV → List (Option AV)
  | n, [] => List.replicate n none
  | n, v :: vs => match v with
    | .inr (.inl _) => some v :: none :: L0 (n - 2) vs
    | _ => some v :: L0 (n - 1) vs
theorem L0_at (ad : Nat → Nat) : ∀ (vs : List AV) (n i b : Nat) (v : AV), (L0 n vs)[i]? = some (some v) → (b + i, cv ad v) ∈ lv_args b (vs.map (cv ad))
  | [], n, i, b, v, h => by
    simp only [L0, List.getElem?_replicate] at h
    split at h <;> simp at h
  | .inl z :: vs, n, 0, b, v, h => by
    simp only [L0, List.getElem?_cons_zero, Option.some.injEq] at h
    subst h
    exact List.mem_cons_self
  | .inl z :: vs, n, i + 1, b, v, h => by
    simp only [L0, List.getElem?_cons_succ] at h
    have h1 := L0_at ad vs (n - 1) i (b + 1) v h
    rw [show b + (i + 1) = b + 1 + i by omega]
    exact List.mem_cons_of_mem _ h1
  | .inr (.inr z) :: vs, n, 0, b, v, h => by
    simp only [L0, List.getElem?_cons_zero, Option.some.injEq] at h
    subst h
    exact List.mem_cons_self
  | .inr (.inr z) :: vs, n, i + 1, b, v, h => by
    simp only [L0, List.getElem?_cons_succ] at h
    have h1 := L0_at ad vs (n - 1) i (b + 1) v h
    rw [show b + (i + 1) = b + 1 + i by omega]
    exact List.mem_cons_of_mem _ h1
  | .inr (.inl z) :: vs, n, 0, b, v, h => by
    simp only [L0, List.getElem?_cons_zero, Option.some.injEq] at h
    subst h
    exact List.mem_cons_self
  | .inr (.inl z) :: vs, n, 1, b, v, h => by
    simp [L0] at h
  | .inr (.inl z) :: vs, n, i + 2, b, v, h => by
    simp only [L0, List.getElem?_cons_succ] at h
    have h1 := L0_at ad vs (n - 2) i (b + 2) v h
    rw [show b + (i + 2) = b + 2 + i by omega]
    exact List.mem_cons_of_mem _ h1
/-- a contract, by a walk from the method's entry -/
theorem Mc_of {K : MK} {av : List AV} {μ : Mem} {post : Option AV → Mem → Prop} (hy : plainName K.1.cls = true) (hn : ∀ ad : Nat → Nat, (lg_sl (av.map (cv ad))).length ≤ K.2.2.1) (k : AW K 0 (L0 K.2.2.1 av) [] μ post) : Mc K av μ post := by
  intro l G
  refine Met.ofW (cc := K.2.1) (maxL := K.2.2.1) (ret := K.2.2.2.1) hy rfl ?_
  intro p e s m args below meth c s₁ B hml hv
  obtain ⟨rfl, hP, hK, hN, hZ, hI⟩ := hv
  have hts0 := atoms_spec (ws := wsK K) B.pre
  have hown : s.vm.findClass K.1.cls = some m.cls := findClass_of_methodNamed B.named
  rw [lg_entry_eq]
  have hl := lv_entry (av.map (cv G.2.1)) (n := K.2.2.1) (hn G.2.1)
  refine k G p l e s m _ below meth c ⟨B.exec, B.bytes, B.returns, hml, hown, B.notSynchronized, fun w hw => hts0 w (List.mem_cons_of_mem _ hw), hK, hN, hZ, hI⟩ s.heap [] _ hP va_S.rf ⟨hl.1, hl.2.1, fun i v hi => ?_⟩
  have h1 := L0_at G.2.1 av K.2.2.1 i 0 v hi
  rw [Nat.zero_add] at h1
  exact hl.2.2 _ h1
theorem W.st {p : Program} {l : Launch} {e : Env} {R : Room} {s : State} {m : MethodId} {args : Array Value} {below : List Frame} {meth : Method} {c : Code} {H : Heap} {locs : List Loc} {cells slots : Nat} {Q : State → Prop} {pc : Nat} {ls : Array Slot} {a b : List Value} (h : a = b) (k : W p l e R s m args below meth c H locs cells slots Q (F0 m pc ls a)) : W p l e R s m args below meth c H locs cells slots Q (F0 m pc ls b) := h ▸ k
/-- a value known by another name -/
theorem s_valI {K : MK} {pc : Nat} {L : List (Option AV)} {st : List AV} {μ : Mem} {post : Option AV → Mem → Prop} {x y : Int} (h : x = y) (k : AW K pc L (.inl y :: st) μ post) : AW K pc L (.inl x :: st) μ post := h ▸ k
theorem s_valL {K : MK} {pc : Nat} {L : List (Option AV)} {st : List AV} {μ : Mem} {post : Option AV → Mem → Prop} {x y : Int} (h : x = y) (k : AW K pc L (.inr (.inl y) :: st) μ post) : AW K pc L (.inr (.inl x) :: st) μ post := h ▸ k
theorem s_mem {K : MK} {pc : Nat} {L : List (Option AV)} {st : List AV} {μ : Mem} {post : Option AV → Mem → Prop} {ν : Mem} (h : μ = ν) (k : AW K pc L st ν post) : AW K pc L st μ post := h ▸ k
/-- a weaker end -/
theorem AW.mono {K : MK} {pc : Nat} {L : List (Option AV)} {st : List AV} {μ : Mem} {post : Option AV → Mem → Prop} {post' : Option AV → Mem → Prop} (k : AW K pc L st μ post) (h : ∀ r ν, post r ν → post' r ν) : AW K pc L st μ post' := by
  intro G p l e s m args below meth c C H locs ls hP hS hl T hT X
  obtain ⟨t, h1, o, h2, h3, ⟨⟨r, ν, h4, h5, h6⟩, h7⟩, h8⟩ := k G p l e s m args below meth c C H locs ls hP hS hl T hT X
  exact ⟨t, h1, o, h2, h3, ⟨⟨r, ν, h4, h _ _ h5, h6⟩, h7⟩, h8⟩
theorem Mc.mono {K : MK} {av : List AV} {μ : Mem} {post post' : Option AV → Mem → Prop} (h : Mc K av μ post) (hp : ∀ r ν, post r ν → post' r ν) : Mc K av μ post' := by
  intro l G p e h1 h2 h3 s m args below h4 h5 h6 h7
  obtain ⟨k, o, a1, a2, a3, ⟨⟨⟨r, ν, b1, b2, b3⟩, b4⟩, b5⟩⟩ := h l G p e h1 h2 h3 s m args below h4 h5 h6 h7
  exact ⟨k, o, a1, a2, a3, ⟨⟨⟨r, ν, b1, hp _ _ b2, b3⟩, b4⟩, b5⟩⟩

theorem s_iconst_m1 {K : MK} {pc : Nat} {L : List (Option AV)} {st : List AV} {μ : Mem} {post : Option AV → Mem → Prop} (d : decode K.2.1 pc = .ok (.iconst (-1), 1)) (k : AW K (pc + 1) L (.inl (-1) :: st) μ post) : AW K pc L st μ post := by
  intro G p l e s m args below meth c C H locs ls hP hS hl
  exact lv_iconst (v := Int32.ofInt (-1)) C.1 C.2.1 d rfl (k G p l e s m args below meth c C H locs ls hP hS hl)

theorem s_iconst_0 {K : MK} {pc : Nat} {L : List (Option AV)} {st : List AV} {μ : Mem} {post : Option AV → Mem → Prop} (d : decode K.2.1 pc = .ok (.iconst (0), 1)) (k : AW K (pc + 1) L (.inl (0) :: st) μ post) : AW K pc L st μ post := by
  intro G p l e s m args below meth c C H locs ls hP hS hl
  exact lv_iconst (v := Int32.ofInt (0)) C.1 C.2.1 d rfl (k G p l e s m args below meth c C H locs ls hP hS hl)

theorem s_iconst_1 {K : MK} {pc : Nat} {L : List (Option AV)} {st : List AV} {μ : Mem} {post : Option AV → Mem → Prop} (d : decode K.2.1 pc = .ok (.iconst (1), 1)) (k : AW K (pc + 1) L (.inl (1) :: st) μ post) : AW K pc L st μ post := by
  intro G p l e s m args below meth c C H locs ls hP hS hl
  exact lv_iconst (v := Int32.ofInt (1)) C.1 C.2.1 d rfl (k G p l e s m args below meth c C H locs ls hP hS hl)

theorem s_iconst_2 {K : MK} {pc : Nat} {L : List (Option AV)} {st : List AV} {μ : Mem} {post : Option AV → Mem → Prop} (d : decode K.2.1 pc = .ok (.iconst (2), 1)) (k : AW K (pc + 1) L (.inl (2) :: st) μ post) : AW K pc L st μ post := by
  intro G p l e s m args below meth c C H locs ls hP hS hl
  exact lv_iconst (v := Int32.ofInt (2)) C.1 C.2.1 d rfl (k G p l e s m args below meth c C H locs ls hP hS hl)

theorem s_iconst_3 {K : MK} {pc : Nat} {L : List (Option AV)} {st : List AV} {μ : Mem} {post : Option AV → Mem → Prop} (d : decode K.2.1 pc = .ok (.iconst (3), 1)) (k : AW K (pc + 1) L (.inl (3) :: st) μ post) : AW K pc L st μ post := by
  intro G p l e s m args below meth c C H locs ls hP hS hl
  exact lv_iconst (v := Int32.ofInt (3)) C.1 C.2.1 d rfl (k G p l e s m args below meth c C H locs ls hP hS hl)

theorem s_iconst_4 {K : MK} {pc : Nat} {L : List (Option AV)} {st : List AV} {μ : Mem} {post : Option AV → Mem → Prop} (d : decode K.2.1 pc = .ok (.iconst (4), 1)) (k : AW K (pc + 1) L (.inl (4) :: st) μ post) : AW K pc L st μ post := by
  intro G p l e s m args below meth c C H locs ls hP hS hl
  exact lv_iconst (v := Int32.ofInt (4)) C.1 C.2.1 d rfl (k G p l e s m args below meth c C H locs ls hP hS hl)

theorem s_iconst_5 {K : MK} {pc : Nat} {L : List (Option AV)} {st : List AV} {μ : Mem} {post : Option AV → Mem → Prop} (d : decode K.2.1 pc = .ok (.iconst (5), 1)) (k : AW K (pc + 1) L (.inl (5) :: st) μ post) : AW K pc L st μ post := by
  intro G p l e s m args below meth c C H locs ls hP hS hl
  exact lv_iconst (v := Int32.ofInt (5)) C.1 C.2.1 d rfl (k G p l e s m args below meth c C H locs ls hP hS hl)

theorem s_bipush {K : MK} {pc : Nat} {L : List (Option AV)} {st : List AV} {μ : Mem} {post : Option AV → Mem → Prop} {n z : Int} (d : decode K.2.1 pc = .ok (.bipush n, 2)) (hz : (Int8.ofInt n).toInt = z) (k : AW K (pc + 2) L (.inl z :: st) μ post) : AW K pc L st μ post := by
  intro G p l e s m args below meth c C H locs ls hP hS hl
  exact lv_bipush (v := Int32.ofInt z) C.1 C.2.1 d (by rw [← hz]; exact (Int32.ofInt_int8ToInt _).symm) (k G p l e s m args below meth c C H locs ls hP hS hl)

theorem s_sipush {K : MK} {pc : Nat} {L : List (Option AV)} {st : List AV} {μ : Mem} {post : Option AV → Mem → Prop} {n z : Int} (d : decode K.2.1 pc = .ok (.sipush n, 3)) (hz : (Int16.ofInt n).toInt = z) (k : AW K (pc + 3) L (.inl z :: st) μ post) : AW K pc L st μ post := by
  intro G p l e s m args below meth c C H locs ls hP hS hl
  exact lv_sipush (v := Int32.ofInt z) C.1 C.2.1 d (by rw [← hz]; exact (Int32.ofInt_int16ToInt _).symm) (k G p l e s m args below meth c C H locs ls hP hS hl)

theorem s_lconst_0 {K : MK} {pc : Nat} {L : List (Option AV)} {st : List AV} {μ : Mem} {post : Option AV → Mem → Prop} (d : decode K.2.1 pc = .ok (.lconst 0, 1)) (k : AW K (pc + 1) L (.inr (.inl 0) :: st) μ post) : AW K pc L st μ post := by
  intro G p l e s m args below meth c C H locs ls hP hS hl
  exact lv_lconst (v := Int64.ofInt 0) C.1 C.2.1 d rfl (k G p l e s m args below meth c C H locs ls hP hS hl)

theorem s_lconst_1 {K : MK} {pc : Nat} {L : List (Option AV)} {st : List AV} {μ : Mem} {post : Option AV → Mem → Prop} (d : decode K.2.1 pc = .ok (.lconst 1, 1)) (k : AW K (pc + 1) L (.inr (.inl 1) :: st) μ post) : AW K pc L st μ post := by
  intro G p l e s m args below meth c C H locs ls hP hS hl
  exact lv_lconst (v := Int64.ofInt 1) C.1 C.2.1 d rfl (k G p l e s m args below meth c C H locs ls hP hS hl)

theorem s_ldc {K : MK} {pc : Nat} {L : List (Option AV)} {st : List AV} {μ : Mem} {post : Option AV → Mem → Prop} {own : String} {index : Nat} {z : Int} (d : decode K.2.1 pc = .ok (.ldc index, 2)) (ho : K.1.cls = own) (hc : Cond.constant own index (Int32.ofInt z) ∈ tblG) (k : AW K (pc + 2) L (.inl z :: st) μ post) : AW K pc L st μ post := by
  intro G p l e s m args below meth c C H locs ls hP hS hl
  exact lv_ldc (v := Int32.ofInt z) C.1 C.2.1 (ho ▸ C.2.2.2.2.1) (C.2.2.2.2.2.2.1 _ hc) d (k G p l e s m args below meth c C H locs ls hP hS hl)

theorem s_ldc_w {K : MK} {pc : Nat} {L : List (Option AV)} {st : List AV} {μ : Mem} {post : Option AV → Mem → Prop} {own : String} {index : Nat} {z : Int} (d : decode K.2.1 pc = .ok (.ldc_w index, 3)) (ho : K.1.cls = own) (hc : Cond.constant own index (Int32.ofInt z) ∈ tblG) (k : AW K (pc + 3) L (.inl z :: st) μ post) : AW K pc L st μ post := by
  intro G p l e s m args below meth c C H locs ls hP hS hl
  exact lv_ldcw (v := Int32.ofInt z) C.1 C.2.1 (ho ▸ C.2.2.2.2.1) (C.2.2.2.2.2.2.1 _ hc) d (k G p l e s m args below meth c C H locs ls hP hS hl)

theorem s_ldc2_w {K : MK} {pc : Nat} {L : List (Option AV)} {st : List AV} {μ : Mem} {post : Option AV → Mem → Prop} {own : String} {index : Nat} {z : Int} (d : decode K.2.1 pc = .ok (.ldc2_w index, 3)) (ho : K.1.cls = own) (hc : Cond.constantLong own index (Int64.ofInt z) ∈ tblG) (k : AW K (pc + 3) L (.inr (.inl z) :: st) μ post) : AW K pc L st μ post := by
  intro G p l e s m args below meth c C H locs ls hP hS hl
  exact lv_ldc2 (v := Int64.ofInt z) C.1 C.2.1 (ho ▸ C.2.2.2.2.1) (C.2.2.2.2.2.2.1 _ hc) d (k G p l e s m args below meth c C H locs ls hP hS hl)

theorem s_iadd {K : MK} {pc : Nat} {L : List (Option AV)} {st : List AV} {μ : Mem} {post : Option AV → Mem → Prop} {x y : Int} (d : decode K.2.1 pc = .ok (.iadd, 1)) (k : AW K (pc + 1) L (.inl (x + y) :: st) μ post) : AW K pc L (.inl y :: .inl x :: st) μ post := by
  intro G p l e s m args below meth c C H locs ls hP hS hl
  refine lv_iadd C.1 C.2.1 d (W.st (?_) (k G p l e s m args below meth c C H locs ls hP hS hl))
  simp only [List.map_cons, cv]
  rw [Int32.ofInt_add]

theorem s_isub {K : MK} {pc : Nat} {L : List (Option AV)} {st : List AV} {μ : Mem} {post : Option AV → Mem → Prop} {x y : Int} (d : decode K.2.1 pc = .ok (.isub, 1)) (k : AW K (pc + 1) L (.inl (x - y) :: st) μ post) : AW K pc L (.inl y :: .inl x :: st) μ post := by
  intro G p l e s m args below meth c C H locs ls hP hS hl
  refine lv_isub C.1 C.2.1 d (W.st (?_) (k G p l e s m args below meth c C H locs ls hP hS hl))
  simp only [List.map_cons, cv]
  rw [Int32.ofInt_sub]

theorem s_imul {K : MK} {pc : Nat} {L : List (Option AV)} {st : List AV} {μ : Mem} {post : Option AV → Mem → Prop} {x y : Int} (d : decode K.2.1 pc = .ok (.imul, 1)) (k : AW K (pc + 1) L (.inl (x * y) :: st) μ post) : AW K pc L (.inl y :: .inl x :: st) μ post := by
  intro G p l e s m args below meth c C H locs ls hP hS hl
  refine lv_imul C.1 C.2.1 d (W.st (?_) (k G p l e s m args below meth c C H locs ls hP hS hl))
  simp only [List.map_cons, cv]
  rw [Int32.ofInt_mul]

theorem s_ladd {K : MK} {pc : Nat} {L : List (Option AV)} {st : List AV} {μ : Mem} {post : Option AV → Mem → Prop} {x y : Int} (d : decode K.2.1 pc = .ok (.ladd, 1)) (k : AW K (pc + 1) L (.inr (.inl (x + y)) :: st) μ post) : AW K pc L (.inr (.inl y) :: .inr (.inl x) :: st) μ post := by
  intro G p l e s m args below meth c C H locs ls hP hS hl
  refine lv_ladd C.1 C.2.1 d (W.st (?_) (k G p l e s m args below meth c C H locs ls hP hS hl))
  simp only [List.map_cons, cv]
  rw [Int64.ofInt_add]

theorem s_lsub {K : MK} {pc : Nat} {L : List (Option AV)} {st : List AV} {μ : Mem} {post : Option AV → Mem → Prop} {x y : Int} (d : decode K.2.1 pc = .ok (.lsub, 1)) (k : AW K (pc + 1) L (.inr (.inl (x - y)) :: st) μ post) : AW K pc L (.inr (.inl y) :: .inr (.inl x) :: st) μ post := by
  intro G p l e s m args below meth c C H locs ls hP hS hl
  refine lv_lsub C.1 C.2.1 d (W.st (?_) (k G p l e s m args below meth c C H locs ls hP hS hl))
  simp only [List.map_cons, cv]
  rw [Int64.ofInt_sub]

theorem s_lmul {K : MK} {pc : Nat} {L : List (Option AV)} {st : List AV} {μ : Mem} {post : Option AV → Mem → Prop} {x y : Int} (d : decode K.2.1 pc = .ok (.lmul, 1)) (k : AW K (pc + 1) L (.inr (.inl (x * y)) :: st) μ post) : AW K pc L (.inr (.inl y) :: .inr (.inl x) :: st) μ post := by
  intro G p l e s m args below meth c C H locs ls hP hS hl
  refine lv_lmul C.1 C.2.1 d (W.st (?_) (k G p l e s m args below meth c C H locs ls hP hS hl))
  simp only [List.map_cons, cv]
  rw [Int64.ofInt_mul]

theorem i32_toInt {x : Int} (h : -2147483648 ≤ x ∧ x < 2147483648) : (Int32.ofInt x).toInt = x := Int32.toInt_ofInt_of_le (by omega) (by omega)
theorem i64_toInt {x : Int} (h : -9223372036854775808 ≤ x ∧ x < 9223372036854775808) : (Int64.ofInt x).toInt = x := Int64.toInt_ofInt_of_le (by omega) (by omega)
theorem i32_lt {x y : Int} (hx : -2147483648 ≤ x ∧ x < 2147483648) (hy : -2147483648 ≤ y ∧ y < 2147483648) : Int32.ofInt x < Int32.ofInt y ↔ x < y := by
  rw [Int32.lt_iff_toInt_lt, i32_toInt hx, i32_toInt hy]
theorem i32_le {x y : Int} (hx : -2147483648 ≤ x ∧ x < 2147483648) (hy : -2147483648 ≤ y ∧ y < 2147483648) : Int32.ofInt x ≤ Int32.ofInt y ↔ x ≤ y := by
  rw [Int32.le_iff_toInt_le, i32_toInt hx, i32_toInt hy]
theorem i32_eq {x y : Int} (hx : -2147483648 ≤ x ∧ x < 2147483648) (hy : -2147483648 ≤ y ∧ y < 2147483648) : Int32.ofInt x = Int32.ofInt y ↔ x = y := by
  rw [← Int32.toInt_inj, i32_toInt hx, i32_toInt hy]
theorem i64_lt {x y : Int} (hx : -9223372036854775808 ≤ x ∧ x < 9223372036854775808) (hy : -9223372036854775808 ≤ y ∧ y < 9223372036854775808) : Int64.ofInt x < Int64.ofInt y ↔ x < y := by
  rw [Int64.lt_iff_toInt_lt, i64_toInt hx, i64_toInt hy]
theorem i64_eq {x y : Int} (hx : -9223372036854775808 ≤ x ∧ x < 9223372036854775808) (hy : -9223372036854775808 ≤ y ∧ y < 9223372036854775808) : Int64.ofInt x = Int64.ofInt y ↔ x = y := by
  rw [← Int64.toInt_inj, i64_toInt hx, i64_toInt hy]
theorem i32_zero : Int32.ofInt 0 = 0 := rfl
theorem i32_clamp {x : Int} (h0 : 0 ≤ x) (h : x < 2147483648) : (Int32.ofInt x).toNatClampNeg = x.toNat := by
  rw [← Int32.toNat_toInt, i32_toInt ⟨by omega, h⟩]
theorem i32_in {x : Int} {n : Nat} (h0 : 0 ≤ x) (h : x < n) (hn : n < 2147483648) : vp_in (Int32.ofInt x) n := by
  rw [vp_in_iff, i32_toInt ⟨by omega, by omega⟩]
  exact ⟨h0, h⟩
theorem tdiv_in {x y B : Int} (hx : -B ≤ x ∧ x < B) (hy : 0 < y) : -B ≤ x.tdiv y ∧ x.tdiv y < B := by
  have h1 : (x.tdiv y).natAbs ≤ x.natAbs := by rw [Int.natAbs_tdiv]; exact Nat.div_le_self _ _
  by_cases h : 0 ≤ x
  · have h2 := Int.tdiv_nonneg h (Int.le_of_lt hy)
    omega
  · have h2 := Int.tdiv_nonneg (a := -x) (b := y) (by omega) (Int.le_of_lt hy)
    rw [Int.neg_tdiv] at h2
    omega
theorem i32_tdiv {x y : Int} (hx : -2147483648 ≤ x ∧ x < 2147483648) (hy : 0 < y ∧ y < 2147483648) : Int32.ofInt x / Int32.ofInt y = Int32.ofInt (x.tdiv y) := by
  rw [← Int32.toInt_inj, Int32.toInt_div_of_ne_right _ _ (by
    intro h
    have h1 := congrArg Int32.toInt h
    rw [i32_toInt ⟨by omega, hy.2⟩] at h1
    have h2 : (-1 : Int32).toInt = -1 := by decide
    omega), i32_toInt hx, i32_toInt ⟨by omega, hy.2⟩, i32_toInt]
  exact tdiv_in hx hy.1
theorem i64_tdiv {x y : Int} (hx : -9223372036854775808 ≤ x ∧ x < 9223372036854775808) (hy : 0 < y ∧ y < 9223372036854775808) : Int64.ofInt x / Int64.ofInt y = Int64.ofInt (x.tdiv y) := by
  rw [← Int64.toInt_inj, Int64.toInt_div_of_ne_right _ _ (by
    intro h
    have h1 := congrArg Int64.toInt h
    rw [i64_toInt ⟨by omega, hy.2⟩] at h1
    have h2 : (-1 : Int64).toInt = -1 := by decide
    omega), i64_toInt hx, i64_toInt ⟨by omega, hy.2⟩, i64_toInt]
  exact tdiv_in hx hy.1
theorem tmod_eq (x y : Int) : x - x.tdiv y * y = x.tmod y := by
  have := Int.tmod_def x y
  rw [this, Int.mul_comm]

theorem s_idiv {K : MK} {pc : Nat} {L : List (Option AV)} {st : List AV} {μ : Mem} {post : Option AV → Mem → Prop} {x y : Int} (d : decode K.2.1 pc = .ok (.idiv, 1)) (hx : -2147483648 ≤ x ∧ x < 2147483648) (hy : 0 < y ∧ y < 2147483648) (k : AW K (pc + 1) L (.inl (x.tdiv y) :: st) μ post) : AW K pc L (.inl y :: .inl x :: st) μ post := by
  intro G p l e s m args below meth c C H locs ls hP hS hl
  refine lv_idiv C.1 C.2.1 d (by rw [← i32_zero, i32_eq ⟨by omega, by omega⟩ ⟨by omega, by omega⟩]; omega) (W.st (?_) (k G p l e s m args below meth c C H locs ls hP hS hl))
  simp only [List.map_cons, cv]
  rw [i32_tdiv hx hy]

theorem s_ldiv {K : MK} {pc : Nat} {L : List (Option AV)} {st : List AV} {μ : Mem} {post : Option AV → Mem → Prop} {x y : Int} (d : decode K.2.1 pc = .ok (.ldiv, 1)) (hx : -9223372036854775808 ≤ x ∧ x < 9223372036854775808) (hy : 0 < y ∧ y < 9223372036854775808) (k : AW K (pc + 1) L (.inr (.inl (x.tdiv y)) :: st) μ post) : AW K pc L (.inr (.inl y) :: .inr (.inl x) :: st) μ post := by
  intro G p l e s m args below meth c C H locs ls hP hS hl
  refine lv_ldiv C.1 C.2.1 d (by rw [show (0 : Int64) = Int64.ofInt 0 from rfl, i64_eq ⟨by omega, by omega⟩ ⟨by omega, by omega⟩]; omega) (W.st (?_) (k G p l e s m args below meth c C H locs ls hP hS hl))
  simp only [List.map_cons, cv]
  rw [i64_tdiv hx hy]

theorem s_irem {K : MK} {pc : Nat} {L : List (Option AV)} {st : List AV} {μ : Mem} {post : Option AV → Mem → Prop} {x y : Int} (d : decode K.2.1 pc = .ok (.irem, 1)) (hx : -2147483648 ≤ x ∧ x < 2147483648) (hy : 0 < y ∧ y < 2147483648) (k : AW K (pc + 1) L (.inl (x.tmod y) :: st) μ post) : AW K pc L (.inl y :: .inl x :: st) μ post := by
  intro G p l e s m args below meth c C H locs ls hP hS hl
  refine lv_irem C.1 C.2.1 d (by rw [← i32_zero, i32_eq ⟨by omega, by omega⟩ ⟨by omega, by omega⟩]; omega) (W.st (?_) (k G p l e s m args below meth c C H locs ls hP hS hl))
  simp only [List.map_cons, cv]
  rw [← tmod_eq, Int32.ofInt_sub, Int32.ofInt_mul, i32_tdiv hx hy]

theorem s_lrem {K : MK} {pc : Nat} {L : List (Option AV)} {st : List AV} {μ : Mem} {post : Option AV → Mem → Prop} {x y : Int} (d : decode K.2.1 pc = .ok (.lrem, 1)) (hx : -9223372036854775808 ≤ x ∧ x < 9223372036854775808) (hy : 0 < y ∧ y < 9223372036854775808) (k : AW K (pc + 1) L (.inr (.inl (x.tmod y)) :: st) μ post) : AW K pc L (.inr (.inl y) :: .inr (.inl x) :: st) μ post := by
  intro G p l e s m args below meth c C H locs ls hP hS hl
  refine lv_lrem C.1 C.2.1 d (by rw [show (0 : Int64) = Int64.ofInt 0 from rfl, i64_eq ⟨by omega, by omega⟩ ⟨by omega, by omega⟩]; omega) (W.st (?_) (k G p l e s m args below meth c C H locs ls hP hS hl))
  simp only [List.map_cons, cv]
  rw [← tmod_eq, Int64.ofInt_sub, Int64.ofInt_mul, i64_tdiv hx hy]

theorem s_lneg {K : MK} {pc : Nat} {L : List (Option AV)} {st : List AV} {μ : Mem} {post : Option AV → Mem → Prop} {x : Int} (d : decode K.2.1 pc = .ok (.lneg, 1)) (k : AW K (pc + 1) L (.inr (.inl (-x)) :: st) μ post) : AW K pc L (.inr (.inl x) :: st) μ post := by
  intro G p l e s m args below meth c C H locs ls hP hS hl
  refine lv_lneg C.1 C.2.1 d (W.st (?_) (k G p l e s m args below meth c C H locs ls hP hS hl))
  simp only [List.map_cons, cv]
  rw [Int64.ofInt_neg]

theorem s_i2l {K : MK} {pc : Nat} {L : List (Option AV)} {st : List AV} {μ : Mem} {post : Option AV → Mem → Prop} {x : Int} (d : decode K.2.1 pc = .ok (.i2l, 1)) (hx : -2147483648 ≤ x ∧ x < 2147483648) (k : AW K (pc + 1) L (.inr (.inl x) :: st) μ post) : AW K pc L (.inl x :: st) μ post := by
  intro G p l e s m args below meth c C H locs ls hP hS hl
  exact lv_i2l (v := Int64.ofInt x) C.1 C.2.1 d (by rw [← Int64.ofInt_int32ToInt, i32_toInt hx]) (k G p l e s m args below meth c C H locs ls hP hS hl)

theorem s_i2b {K : MK} {pc : Nat} {L : List (Option AV)} {st : List AV} {μ : Mem} {post : Option AV → Mem → Prop} {x : Int} (d : decode K.2.1 pc = .ok (.i2b, 1)) (k : AW K (pc + 1) L (.inl ((Int32.ofInt x).toInt8.toInt) :: st) μ post) : AW K pc L (.inl x :: st) μ post := by
  intro G p l e s m args below meth c C H locs ls hP hS hl
  exact lv_i2b (v := Int32.ofInt ((Int32.ofInt x).toInt8.toInt)) C.1 C.2.1 d (Int32.ofInt_int8ToInt _).symm (k G p l e s m args below meth c C H locs ls hP hS hl)

theorem s_i2s {K : MK} {pc : Nat} {L : List (Option AV)} {st : List AV} {μ : Mem} {post : Option AV → Mem → Prop} {x : Int} (d : decode K.2.1 pc = .ok (.i2s, 1)) (k : AW K (pc + 1) L (.inl ((Int32.ofInt x).toInt16.toInt) :: st) μ post) : AW K pc L (.inl x :: st) μ post := by
  intro G p l e s m args below meth c C H locs ls hP hS hl
  exact lv_i2s (v := Int32.ofInt ((Int32.ofInt x).toInt16.toInt)) C.1 C.2.1 d (Int32.ofInt_int16ToInt _).symm (k G p l e s m args below meth c C H locs ls hP hS hl)

def andI (x y : Int) : Int := (Int32.ofInt x &&& Int32.ofInt y).toInt
def orI (x y : Int) : Int := (Int32.ofInt x ||| Int32.ofInt y).toInt
def xorI (x y : Int) : Int := (Int32.ofInt x ^^^ Int32.ofInt y).toInt
def shlI (x y : Int) : Int := (Int32.ofInt x <<< (Int32.ofInt y &&& 31)).toInt
def shrI (x y : Int) : Int := (Int32.ofInt x >>> (Int32.ofInt y &&& 31)).toInt
def ushrI (x y : Int) : Int := ((Int32.ofInt x).toUInt32 >>> ((Int32.ofInt y).toUInt32 &&& Int32.toUInt32 31)).toInt32.toInt
def shlL (x y : Int) : Int := (Int64.ofInt x <<< ((Int32.ofInt y).toInt64 &&& 63)).toInt
def shrL (x y : Int) : Int := (Int64.ofInt x >>> ((Int32.ofInt y).toInt64 &&& 63)).toInt

theorem s_iand {K : MK} {pc : Nat} {L : List (Option AV)} {st : List AV} {μ : Mem} {post : Option AV → Mem → Prop} {x y : Int} (d : decode K.2.1 pc = .ok (.iand, 1)) (k : AW K (pc + 1) L (.inl (andI x y) :: st) μ post) : AW K pc L (.inl y :: .inl x :: st) μ post := by
  intro G p l e s m args below meth c C H locs ls hP hS hl
  refine lv_iand C.1 C.2.1 d (W.st (?_) (k G p l e s m args below meth c C H locs ls hP hS hl))
  simp only [List.map_cons, cv, andI, Int32.ofInt_toInt]

theorem s_ior {K : MK} {pc : Nat} {L : List (Option AV)} {st : List AV} {μ : Mem} {post : Option AV → Mem → Prop} {x y : Int} (d : decode K.2.1 pc = .ok (.ior, 1)) (k : AW K (pc + 1) L (.inl (orI x y) :: st) μ post) : AW K pc L (.inl y :: .inl x :: st) μ post := by
  intro G p l e s m args below meth c C H locs ls hP hS hl
  refine lv_ior C.1 C.2.1 d (W.st (?_) (k G p l e s m args below meth c C H locs ls hP hS hl))
  simp only [List.map_cons, cv, orI, Int32.ofInt_toInt]

theorem s_ixor {K : MK} {pc : Nat} {L : List (Option AV)} {st : List AV} {μ : Mem} {post : Option AV → Mem → Prop} {x y : Int} (d : decode K.2.1 pc = .ok (.ixor, 1)) (k : AW K (pc + 1) L (.inl (xorI x y) :: st) μ post) : AW K pc L (.inl y :: .inl x :: st) μ post := by
  intro G p l e s m args below meth c C H locs ls hP hS hl
  refine lv_ixor C.1 C.2.1 d (W.st (?_) (k G p l e s m args below meth c C H locs ls hP hS hl))
  simp only [List.map_cons, cv, xorI, Int32.ofInt_toInt]

theorem s_ishl {K : MK} {pc : Nat} {L : List (Option AV)} {st : List AV} {μ : Mem} {post : Option AV → Mem → Prop} {x y : Int} (d : decode K.2.1 pc = .ok (.ishl, 1)) (k : AW K (pc + 1) L (.inl (shlI x y) :: st) μ post) : AW K pc L (.inl y :: .inl x :: st) μ post := by
  intro G p l e s m args below meth c C H locs ls hP hS hl
  refine lv_ishl C.1 C.2.1 d (W.st (?_) (k G p l e s m args below meth c C H locs ls hP hS hl))
  simp only [List.map_cons, cv, shlI, Int32.ofInt_toInt]

theorem s_ishr {K : MK} {pc : Nat} {L : List (Option AV)} {st : List AV} {μ : Mem} {post : Option AV → Mem → Prop} {x y : Int} (d : decode K.2.1 pc = .ok (.ishr, 1)) (k : AW K (pc + 1) L (.inl (shrI x y) :: st) μ post) : AW K pc L (.inl y :: .inl x :: st) μ post := by
  intro G p l e s m args below meth c C H locs ls hP hS hl
  refine lv_ishr C.1 C.2.1 d (W.st (?_) (k G p l e s m args below meth c C H locs ls hP hS hl))
  simp only [List.map_cons, cv, shrI, Int32.ofInt_toInt]

theorem s_iushr {K : MK} {pc : Nat} {L : List (Option AV)} {st : List AV} {μ : Mem} {post : Option AV → Mem → Prop} {x y : Int} (d : decode K.2.1 pc = .ok (.iushr, 1)) (k : AW K (pc + 1) L (.inl (ushrI x y) :: st) μ post) : AW K pc L (.inl y :: .inl x :: st) μ post := by
  intro G p l e s m args below meth c C H locs ls hP hS hl
  exact lv_iushr (v := Int32.ofInt (ushrI x y)) C.1 C.2.1 d (by rw [ushrI, Int32.ofInt_toInt]) (k G p l e s m args below meth c C H locs ls hP hS hl)

theorem s_lshl {K : MK} {pc : Nat} {L : List (Option AV)} {st : List AV} {μ : Mem} {post : Option AV → Mem → Prop} {x y : Int} (d : decode K.2.1 pc = .ok (.lshl, 1)) (k : AW K (pc + 1) L (.inr (.inl (shlL x y)) :: st) μ post) : AW K pc L (.inl y :: .inr (.inl x) :: st) μ post := by
  intro G p l e s m args below meth c C H locs ls hP hS hl
  exact lv_lshl (v := Int64.ofInt (shlL x y)) C.1 C.2.1 d (by rw [shlL, Int64.ofInt_toInt]) (k G p l e s m args below meth c C H locs ls hP hS hl)

theorem s_lshr {K : MK} {pc : Nat} {L : List (Option AV)} {st : List AV} {μ : Mem} {post : Option AV → Mem → Prop} {x y : Int} (d : decode K.2.1 pc = .ok (.lshr, 1)) (k : AW K (pc + 1) L (.inr (.inl (shrL x y)) :: st) μ post) : AW K pc L (.inl y :: .inr (.inl x) :: st) μ post := by
  intro G p l e s m args below meth c C H locs ls hP hS hl
  exact lv_lshr (v := Int64.ofInt (shrL x y)) C.1 C.2.1 d (by rw [shrL, Int64.ofInt_toInt]) (k G p l e s m args below meth c C H locs ls hP hS hl)

theorem s_dup {K : MK} {pc : Nat} {L : List (Option AV)} {st : List AV} {μ : Mem} {post : Option AV → Mem → Prop} {v : AV} (d : decode K.2.1 pc = .ok (.dup, 1)) (hv : avc v = 1) (k : AW K (pc + 1) L (v :: v :: st) μ post) : AW K pc L (v :: st) μ post := by
  intro G p l e s m args below meth c C H locs ls hP hS hl
  exact lv_dup C.1 C.2.1 d (by rw [cv_cat, hv]) (k G p l e s m args below meth c C H locs ls hP hS hl)

theorem s_dup2 {K : MK} {pc : Nat} {L : List (Option AV)} {st : List AV} {μ : Mem} {post : Option AV → Mem → Prop} {v w : AV} (d : decode K.2.1 pc = .ok (.dup2, 1)) (hv : avc v = 1) (hw : avc w = 1) (k : AW K (pc + 1) L (v :: w :: v :: w :: st) μ post) : AW K pc L (v :: w :: st) μ post := by
  intro G p l e s m args below meth c C H locs ls hP hS hl
  exact lv_dup2_11 C.1 C.2.1 d (by rw [cv_cat, hv]) (by rw [cv_cat, hw]) (k G p l e s m args below meth c C H locs ls hP hS hl)

theorem s_pop {K : MK} {pc : Nat} {L : List (Option AV)} {st : List AV} {μ : Mem} {post : Option AV → Mem → Prop} {v : AV} (d : decode K.2.1 pc = .ok (.pop, 1)) (hv : avc v = 1) (k : AW K (pc + 1) L st μ post) : AW K pc L (v :: st) μ post := by
  intro G p l e s m args below meth c C H locs ls hP hS hl
  exact lv_pop C.1 C.2.1 d (by rw [cv_cat, hv]) (k G p l e s m args below meth c C H locs ls hP hS hl)

theorem s_icmp_eq {K : MK} {pc : Nat} {L : List (Option AV)} {st : List AV} {μ : Mem} {post : Option AV → Mem → Prop} {x y : Int} {off : Int} (tgt : Nat) (d : decode K.2.1 pc = .ok (.if_icmp .eq off, 3)) (ht : (pc : Int) + off = (tgt : Int)) (hx : -2147483648 ≤ x ∧ x < 2147483648) (hy : -2147483648 ≤ y ∧ y < 2147483648) (k1 : x = y → AW K tgt L st μ post) (k2 : x ≠ y → AW K (pc + 3) L st μ post) : AW K pc L (.inl y :: .inl x :: st) μ post := by
  intro G p l e s m args below meth c C H locs ls hP hS hl
  have eqv := i32_eq hx hy
  refine lv_icmp_eq C.1 C.2.1 d ht (fun h => k1 ?_ G p l e s m args below meth c C H locs ls hP hS hl) (fun h => k2 ?_ G p l e s m args below meth c C H locs ls hP hS hl)
  · first | exact eqv.mp h | exact fun q => h (eqv.mpr q)
  · first | exact Int.not_lt.mp (fun q => h (eqv.mpr q)) | exact Int.not_le.mp (fun q => h (eqv.mpr q)) | exact fun q => h (eqv.mpr q) | exact eqv.mp h

theorem s_if_eq {K : MK} {pc : Nat} {L : List (Option AV)} {st : List AV} {μ : Mem} {post : Option AV → Mem → Prop} {x : Int} {off : Int} (tgt : Nat) (d : decode K.2.1 pc = .ok (.ifCond .eq off, 3)) (ht : (pc : Int) + off = (tgt : Int)) (hx : -2147483648 ≤ x ∧ x < 2147483648) (k1 : x = 0 → AW K tgt L st μ post) (k2 : x ≠ 0 → AW K (pc + 3) L st μ post) : AW K pc L (.inl x :: st) μ post := by
  intro G p l e s m args below meth c C H locs ls hP hS hl
  have hy : -2147483648 ≤ (0 : Int) ∧ (0 : Int) < 2147483648 := by omega
  have eqv := i32_eq hx hy
  rw [i32_zero] at eqv
  refine lv_if_eq C.1 C.2.1 d ht (fun h => k1 ?_ G p l e s m args below meth c C H locs ls hP hS hl) (fun h => k2 ?_ G p l e s m args below meth c C H locs ls hP hS hl)
  · first | exact eqv.mp h | exact fun q => h (eqv.mpr q)
  · first | exact Int.not_lt.mp (fun q => h (eqv.mpr q)) | exact Int.not_le.mp (fun q => h (eqv.mpr q)) | exact fun q => h (eqv.mpr q) | exact eqv.mp h

theorem s_icmp_ne {K : MK} {pc : Nat} {L : List (Option AV)} {st : List AV} {μ : Mem} {post : Option AV → Mem → Prop} {x y : Int} {off : Int} (tgt : Nat) (d : decode K.2.1 pc = .ok (.if_icmp .ne off, 3)) (ht : (pc : Int) + off = (tgt : Int)) (hx : -2147483648 ≤ x ∧ x < 2147483648) (hy : -2147483648 ≤ y ∧ y < 2147483648) (k1 : x ≠ y → AW K tgt L st μ post) (k2 : x = y → AW K (pc + 3) L st μ post) : AW K pc L (.inl y :: .inl x :: st) μ post := by
  intro G p l e s m args below meth c C H locs ls hP hS hl
  have eqv := i32_eq hx hy
  refine lv_icmp_ne C.1 C.2.1 d ht (fun h => k1 ?_ G p l e s m args below meth c C H locs ls hP hS hl) (fun h => k2 ?_ G p l e s m args below meth c C H locs ls hP hS hl)
  · first | exact eqv.mp h | exact fun q => h (eqv.mpr q)
  · first | exact Int.not_lt.mp (fun q => h (eqv.mpr q)) | exact Int.not_le.mp (fun q => h (eqv.mpr q)) | exact fun q => h (eqv.mpr q) | exact eqv.mp h

theorem s_if_ne {K : MK} {pc : Nat} {L : List (Option AV)} {st : List AV} {μ : Mem} {post : Option AV → Mem → Prop} {x : Int} {off : Int} (tgt : Nat) (d : decode K.2.1 pc = .ok (.ifCond .ne off, 3)) (ht : (pc : Int) + off = (tgt : Int)) (hx : -2147483648 ≤ x ∧ x < 2147483648) (k1 : x ≠ 0 → AW K tgt L st μ post) (k2 : x = 0 → AW K (pc + 3) L st μ post) : AW K pc L (.inl x :: st) μ post := by
  intro G p l e s m args below meth c C H locs ls hP hS hl
  have hy : -2147483648 ≤ (0 : Int) ∧ (0 : Int) < 2147483648 := by omega
  have eqv := i32_eq hx hy
  rw [i32_zero] at eqv
  refine lv_if_ne C.1 C.2.1 d ht (fun h => k1 ?_ G p l e s m args below meth c C H locs ls hP hS hl) (fun h => k2 ?_ G p l e s m args below meth c C H locs ls hP hS hl)
  · first | exact eqv.mp h | exact fun q => h (eqv.mpr q)
  · first | exact Int.not_lt.mp (fun q => h (eqv.mpr q)) | exact Int.not_le.mp (fun q => h (eqv.mpr q)) | exact fun q => h (eqv.mpr q) | exact eqv.mp h

theorem s_icmp_lt {K : MK} {pc : Nat} {L : List (Option AV)} {st : List AV} {μ : Mem} {post : Option AV → Mem → Prop} {x y : Int} {off : Int} (tgt : Nat) (d : decode K.2.1 pc = .ok (.if_icmp .lt off, 3)) (ht : (pc : Int) + off = (tgt : Int)) (hx : -2147483648 ≤ x ∧ x < 2147483648) (hy : -2147483648 ≤ y ∧ y < 2147483648) (k1 : x < y → AW K tgt L st μ post) (k2 : y ≤ x → AW K (pc + 3) L st μ post) : AW K pc L (.inl y :: .inl x :: st) μ post := by
  intro G p l e s m args below meth c C H locs ls hP hS hl
  have eqv := i32_lt hx hy
  refine lv_icmp_lt C.1 C.2.1 d ht (fun h => k1 ?_ G p l e s m args below meth c C H locs ls hP hS hl) (fun h => k2 ?_ G p l e s m args below meth c C H locs ls hP hS hl)
  · first | exact eqv.mp h | exact fun q => h (eqv.mpr q)
  · first | exact Int.not_lt.mp (fun q => h (eqv.mpr q)) | exact Int.not_le.mp (fun q => h (eqv.mpr q)) | exact fun q => h (eqv.mpr q) | exact eqv.mp h

theorem s_if_lt {K : MK} {pc : Nat} {L : List (Option AV)} {st : List AV} {μ : Mem} {post : Option AV → Mem → Prop} {x : Int} {off : Int} (tgt : Nat) (d : decode K.2.1 pc = .ok (.ifCond .lt off, 3)) (ht : (pc : Int) + off = (tgt : Int)) (hx : -2147483648 ≤ x ∧ x < 2147483648) (k1 : x < 0 → AW K tgt L st μ post) (k2 : 0 ≤ x → AW K (pc + 3) L st μ post) : AW K pc L (.inl x :: st) μ post := by
  intro G p l e s m args below meth c C H locs ls hP hS hl
  have hy : -2147483648 ≤ (0 : Int) ∧ (0 : Int) < 2147483648 := by omega
  have eqv := i32_lt hx hy
  rw [i32_zero] at eqv
  refine lv_if_lt C.1 C.2.1 d ht (fun h => k1 ?_ G p l e s m args below meth c C H locs ls hP hS hl) (fun h => k2 ?_ G p l e s m args below meth c C H locs ls hP hS hl)
  · first | exact eqv.mp h | exact fun q => h (eqv.mpr q)
  · first | exact Int.not_lt.mp (fun q => h (eqv.mpr q)) | exact Int.not_le.mp (fun q => h (eqv.mpr q)) | exact fun q => h (eqv.mpr q) | exact eqv.mp h

theorem s_icmp_ge {K : MK} {pc : Nat} {L : List (Option AV)} {st : List AV} {μ : Mem} {post : Option AV → Mem → Prop} {x y : Int} {off : Int} (tgt : Nat) (d : decode K.2.1 pc = .ok (.if_icmp .ge off, 3)) (ht : (pc : Int) + off = (tgt : Int)) (hx : -2147483648 ≤ x ∧ x < 2147483648) (hy : -2147483648 ≤ y ∧ y < 2147483648) (k1 : y ≤ x → AW K tgt L st μ post) (k2 : x < y → AW K (pc + 3) L st μ post) : AW K pc L (.inl y :: .inl x :: st) μ post := by
  intro G p l e s m args below meth c C H locs ls hP hS hl
  have eqv := i32_le hy hx
  refine lv_icmp_ge C.1 C.2.1 d ht (fun h => k1 ?_ G p l e s m args below meth c C H locs ls hP hS hl) (fun h => k2 ?_ G p l e s m args below meth c C H locs ls hP hS hl)
  · first | exact eqv.mp h | exact fun q => h (eqv.mpr q)
  · first | exact Int.not_lt.mp (fun q => h (eqv.mpr q)) | exact Int.not_le.mp (fun q => h (eqv.mpr q)) | exact fun q => h (eqv.mpr q) | exact eqv.mp h

theorem s_if_ge {K : MK} {pc : Nat} {L : List (Option AV)} {st : List AV} {μ : Mem} {post : Option AV → Mem → Prop} {x : Int} {off : Int} (tgt : Nat) (d : decode K.2.1 pc = .ok (.ifCond .ge off, 3)) (ht : (pc : Int) + off = (tgt : Int)) (hx : -2147483648 ≤ x ∧ x < 2147483648) (k1 : 0 ≤ x → AW K tgt L st μ post) (k2 : x < 0 → AW K (pc + 3) L st μ post) : AW K pc L (.inl x :: st) μ post := by
  intro G p l e s m args below meth c C H locs ls hP hS hl
  have hy : -2147483648 ≤ (0 : Int) ∧ (0 : Int) < 2147483648 := by omega
  have eqv := i32_le hy hx
  rw [i32_zero] at eqv
  refine lv_if_ge C.1 C.2.1 d ht (fun h => k1 ?_ G p l e s m args below meth c C H locs ls hP hS hl) (fun h => k2 ?_ G p l e s m args below meth c C H locs ls hP hS hl)
  · first | exact eqv.mp h | exact fun q => h (eqv.mpr q)
  · first | exact Int.not_lt.mp (fun q => h (eqv.mpr q)) | exact Int.not_le.mp (fun q => h (eqv.mpr q)) | exact fun q => h (eqv.mpr q) | exact eqv.mp h

theorem s_icmp_gt {K : MK} {pc : Nat} {L : List (Option AV)} {st : List AV} {μ : Mem} {post : Option AV → Mem → Prop} {x y : Int} {off : Int} (tgt : Nat) (d : decode K.2.1 pc = .ok (.if_icmp .gt off, 3)) (ht : (pc : Int) + off = (tgt : Int)) (hx : -2147483648 ≤ x ∧ x < 2147483648) (hy : -2147483648 ≤ y ∧ y < 2147483648) (k1 : y < x → AW K tgt L st μ post) (k2 : x ≤ y → AW K (pc + 3) L st μ post) : AW K pc L (.inl y :: .inl x :: st) μ post := by
  intro G p l e s m args below meth c C H locs ls hP hS hl
  have eqv := i32_lt hy hx
  refine lv_icmp_gt C.1 C.2.1 d ht (fun h => k1 ?_ G p l e s m args below meth c C H locs ls hP hS hl) (fun h => k2 ?_ G p l e s m args below meth c C H locs ls hP hS hl)
  · first | exact eqv.mp h | exact fun q => h (eqv.mpr q)
  · first | exact Int.not_lt.mp (fun q => h (eqv.mpr q)) | exact Int.not_le.mp (fun q => h (eqv.mpr q)) | exact fun q => h (eqv.mpr q) | exact eqv.mp h

theorem s_if_gt {K : MK} {pc : Nat} {L : List (Option AV)} {st : List AV} {μ : Mem} {post : Option AV → Mem → Prop} {x : Int} {off : Int} (tgt : Nat) (d : decode K.2.1 pc = .ok (.ifCond .gt off, 3)) (ht : (pc : Int) + off = (tgt : Int)) (hx : -2147483648 ≤ x ∧ x < 2147483648) (k1 : 0 < x → AW K tgt L st μ post) (k2 : x ≤ 0 → AW K (pc + 3) L st μ post) : AW K pc L (.inl x :: st) μ post := by
  intro G p l e s m args below meth c C H locs ls hP hS hl
  have hy : -2147483648 ≤ (0 : Int) ∧ (0 : Int) < 2147483648 := by omega
  have eqv := i32_lt hy hx
  rw [i32_zero] at eqv
  refine lv_if_gt C.1 C.2.1 d ht (fun h => k1 ?_ G p l e s m args below meth c C H locs ls hP hS hl) (fun h => k2 ?_ G p l e s m args below meth c C H locs ls hP hS hl)
  · first | exact eqv.mp h | exact fun q => h (eqv.mpr q)
  · first | exact Int.not_lt.mp (fun q => h (eqv.mpr q)) | exact Int.not_le.mp (fun q => h (eqv.mpr q)) | exact fun q => h (eqv.mpr q) | exact eqv.mp h

theorem s_icmp_le {K : MK} {pc : Nat} {L : List (Option AV)} {st : List AV} {μ : Mem} {post : Option AV → Mem → Prop} {x y : Int} {off : Int} (tgt : Nat) (d : decode K.2.1 pc = .ok (.if_icmp .le off, 3)) (ht : (pc : Int) + off = (tgt : Int)) (hx : -2147483648 ≤ x ∧ x < 2147483648) (hy : -2147483648 ≤ y ∧ y < 2147483648) (k1 : x ≤ y → AW K tgt L st μ post) (k2 : y < x → AW K (pc + 3) L st μ post) : AW K pc L (.inl y :: .inl x :: st) μ post := by
  intro G p l e s m args below meth c C H locs ls hP hS hl
  have eqv := i32_le hx hy
  refine lv_icmp_le C.1 C.2.1 d ht (fun h => k1 ?_ G p l e s m args below meth c C H locs ls hP hS hl) (fun h => k2 ?_ G p l e s m args below meth c C H locs ls hP hS hl)
  · first | exact eqv.mp h | exact fun q => h (eqv.mpr q)
  · first | exact Int.not_lt.mp (fun q => h (eqv.mpr q)) | exact Int.not_le.mp (fun q => h (eqv.mpr q)) | exact fun q => h (eqv.mpr q) | exact eqv.mp h

theorem s_if_le {K : MK} {pc : Nat} {L : List (Option AV)} {st : List AV} {μ : Mem} {post : Option AV → Mem → Prop} {x : Int} {off : Int} (tgt : Nat) (d : decode K.2.1 pc = .ok (.ifCond .le off, 3)) (ht : (pc : Int) + off = (tgt : Int)) (hx : -2147483648 ≤ x ∧ x < 2147483648) (k1 : x ≤ 0 → AW K tgt L st μ post) (k2 : 0 < x → AW K (pc + 3) L st μ post) : AW K pc L (.inl x :: st) μ post := by
  intro G p l e s m args below meth c C H locs ls hP hS hl
  have hy : -2147483648 ≤ (0 : Int) ∧ (0 : Int) < 2147483648 := by omega
  have eqv := i32_le hx hy
  rw [i32_zero] at eqv
  refine lv_if_le C.1 C.2.1 d ht (fun h => k1 ?_ G p l e s m args below meth c C H locs ls hP hS hl) (fun h => k2 ?_ G p l e s m args below meth c C H locs ls hP hS hl)
  · first | exact eqv.mp h | exact fun q => h (eqv.mpr q)
  · first | exact Int.not_lt.mp (fun q => h (eqv.mpr q)) | exact Int.not_le.mp (fun q => h (eqv.mpr q)) | exact fun q => h (eqv.mpr q) | exact eqv.mp h

theorem s_goto {K : MK} {pc : Nat} {L : List (Option AV)} {st : List AV} {μ : Mem} {post : Option AV → Mem → Prop} {off : Int} (tgt : Nat) (d : decode K.2.1 pc = .ok (.goto off, 3)) (ht : (pc : Int) + off = (tgt : Int)) (k : AW K tgt L st μ post) : AW K pc L st μ post := by
  intro G p l e s m args below meth c C H locs ls hP hS hl
  exact lv_goto C.1 C.2.1 d ht (k G p l e s m args below meth c C H locs ls hP hS hl)

def cmpI (x y : Int) : Int := if y < x then 1 else if x = y then 0 else -1
theorem s_lcmp {K : MK} {pc : Nat} {L : List (Option AV)} {st : List AV} {μ : Mem} {post : Option AV → Mem → Prop} {x y : Int} (d : decode K.2.1 pc = .ok (.lcmp, 1)) (hx : -9223372036854775808 ≤ x ∧ x < 9223372036854775808) (hy : -9223372036854775808 ≤ y ∧ y < 9223372036854775808) (k : AW K (pc + 1) L (.inl (cmpI x y) :: st) μ post) : AW K pc L (.inr (.inl y) :: .inr (.inl x) :: st) μ post := by
  intro G p l e s m args below meth c C H locs ls hP hS hl
  refine W.lcmp C.1 C.2.1 d (W.st (?_) (k G p l e s m args below meth c C H locs ls hP hS hl))
  simp only [List.map_cons, cv, cmpI, lg_cmp, i64_lt hy hx, i64_eq hx hy]
  congr 1
  split
  · rfl
  · split <;> rfl

theorem s_tableOut {K : MK} {pc : Nat} {L : List (Option AV)} {st : List AV} {μ : Mem} {post : Option AV → Mem → Prop} {x dflt lo hi : Int} {offs : Array Int} {len : Nat} (tgt : Nat) (d : decode K.2.1 pc = .ok (.tableswitch dflt lo hi offs, len)) (hx : -2147483648 ≤ x ∧ x < 2147483648) (h : x < lo ∨ hi < x) (ht : (pc : Int) + dflt = (tgt : Int)) (k : AW K tgt L st μ post) : AW K pc L (.inl x :: st) μ post := by
  intro G p l e s m args below meth c C H locs ls hP hS hl
  exact lv_tableOut C.1 C.2.1 d (by rw [i32_toInt hx]; exact h) ht (k G p l e s m args below meth c C H locs ls hP hS hl)

theorem s_tableIn {K : MK} {pc : Nat} {L : List (Option AV)} {st : List AV} {μ : Mem} {post : Option AV → Mem → Prop} {x dflt lo hi off : Int} {offs : Array Int} {len : Nat} (tgt : Nat) (d : decode K.2.1 pc = .ok (.tableswitch dflt lo hi offs, len)) (hx : -2147483648 ≤ x ∧ x < 2147483648) (h1 : lo ≤ x) (h2 : x ≤ hi) (ho : offs[(x - lo).toNat]? = some off) (ht : (pc : Int) + off = (tgt : Int)) (k : AW K tgt L st μ post) : AW K pc L (.inl x :: st) μ post := by
  intro G p l e s m args below meth c C H locs ls hP hS hl
  exact lv_tableIn C.1 C.2.1 d (by rw [i32_toInt hx]; omega) (by rw [i32_toInt hx]; omega) (by rw [i32_toInt hx]; exact ho) ht (k G p l e s m args below meth c C H locs ls hP hS hl)

theorem s_lookup {K : MK} {pc : Nat} {L : List (Option AV)} {st : List AV} {μ : Mem} {post : Option AV → Mem → Prop} {x dflt off : Int} {ps : Array (Int × Int)} {len : Nat} (tgt : Nat) (d : decode K.2.1 pc = .ok (.lookupswitch dflt ps, len)) (hx : -2147483648 ≤ x ∧ x < 2147483648) (hp : (ps.toList.zip (ps.toList.drop 1)).all (fun (a, next) => a.1 < next.1) = true) (ho : Op.lookupswitch.offset ps.toList dflt x = off) (ht : (pc : Int) + off = (tgt : Int)) (k : AW K tgt L st μ post) : AW K pc L (.inl x :: st) μ post := by
  intro G p l e s m args below meth c C H locs ls hP hS hl
  exact lv_lookup C.1 C.2.1 d hp (by rw [i32_toInt hx]; exact ho) ht (k G p l e s m args below meth c C H locs ls hP hS hl)
