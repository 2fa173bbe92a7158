/-! THE PURE WALK: a memory of Ints by cell and slot, a fixed layout of cells, and the machine's rows over them -/
abbrev Mem : Type := Nat → Int → Int
abbrev PD : Type := Nat × Nat × List Nat
abbrev CX : Type := Program × Launch × Env × Room × State × MethodId × Array Value × List Frame × Method × Code × (Nat → Prop)
abbrev KX : Type := va_G × (ClassId × ClassId × ClassId × ClassId) × (Nat → Nat)
def iV (z : Int) : Value := .int (Int32.ofInt z)
def rV (K : KX) (k : Nat) : Value := .ref (K.2.2 k)
def fV (K : KX) (m : Int → Int) (j : Nat) (c : Nat) : Value := match c with
  | 0 => iV (m (j : Int))
  | 1 => .null
  | t + 2 => rV K t
def cE (K : KX) (d : PD) (m : Int → Int) : va_E := match d.1 with
  | 0 => .inr (d.2.1, d.2.2.mapIdx (fun j c => fV K m j c))
  | 1 => .inl (K.2.1.1, d.2.1, .inl (fun j => Int32.ofInt (m (j : Int))))
  | 2 => .inl (K.2.1.2.1, d.2.1, .inl (fun j => Int32.ofInt (m (j : Int))))
  | 3 => .inl (K.2.1.2.2.1, d.2.1, .inl (fun j => Int32.ofInt (m (j : Int))))
  | _ => .inl (K.2.1.2.2.2, d.2.1, .inr (.inl (fun j => Int64.ofInt (m (j : Int)))))
def wld (K : KX) (lay : List PD) (M : Mem) : va_W := lay.mapIdx (fun k d => (K.2.2 k, cE K d (M k)))
def tysK (K : KX) : List (ClassId × FieldType) := [(K.2.1.1, .int), (K.2.1.2.1, .byte), (K.2.1.2.2.1, .boolean), (K.2.1.2.2.2, .long)]
def up2 (M : Mem) (k : Nat) (j z : Int) : Mem := fun a b => if a = k ∧ b = j then z else M a b
def injK (K : KX) (lay : List PD) : Prop := ∀ i j : Nat, i < lay.length → j < lay.length → K.2.2 i = K.2.2 j → i = j
def AK (K : KX) (lay : List PD) (sz : Nat) : Nat → Prop := fun q => (∃ k : Nat, k < lay.length ∧ q = K.2.2 k) ∨ sz ≤ q
def rmD (d : Nat) : Room := { frames := d, cells := 0, slots := 0, locals := 64 * d }
theorem wld_get {K : KX} {lay : List PD} {M : Mem} {k : Nat} {d : PD} (h : lay[k]? = some d) : (wld K lay M)[k]? = some (K.2.2 k, cE K d (M k)) := by
  unfold wld
  rw [List.getElem?_mapIdx, h]
  rfl
theorem wld_len {K : KX} {lay : List PD} {M : Mem} : (wld K lay M).length = lay.length := by
  unfold wld
  rw [List.length_mapIdx]
theorem up2_ne {M : Mem} {k a : Nat} {j z : Int} (h : a ≠ k) : up2 M k j z a = M a := by
  funext b
  simp [up2, h]
theorem up2_eq {M : Mem} {k : Nat} {j z : Int} : up2 M k j z k = fun b => if b = j then z else M k b := by
  funext b
  simp [up2]
theorem wld_set {K : KX} {lay : List PD} {M M' : Mem} {k : Nat} {d : PD} (h : lay[k]? = some d) (ho : ∀ a, a ≠ k → M' a = M a) : (wld K lay M).set k (K.2.2 k, cE K d (M' k)) = wld K lay M' := by
  apply List.ext_getElem?
  intro i
  rw [List.getElem?_set]
  have hk : k < lay.length := (List.getElem?_eq_some_iff.mp h).1
  by_cases hi : k = i
  · subst hi
    rw [if_pos rfl, if_pos (by rw [wld_len]; exact hk), wld_get h]
  · rw [if_neg hi]
    unfold wld
    rw [List.getElem?_mapIdx, List.getElem?_mapIdx, ho i (fun e => hi e.symm)]
theorem wld_D {K : KX} {lay : List PD} {M : Mem} {A : Nat → Prop} (hi : injK K lay) (hA : ∀ k, k < lay.length → A (K.2.2 k)) : va_D A (wld K lay M) := by
  have key : ∀ (i : Nat) (p : Nat × va_E), (wld K lay M)[i]? = some p → i < lay.length ∧ p.1 = K.2.2 i := by
    intro i p h
    have h1 := (List.getElem?_eq_some_iff.mp h).1
    rw [wld_len] at h1
    unfold wld at h
    rw [List.getElem?_mapIdx, List.getElem?_eq_getElem h1] at h
    cases h
    exact ⟨h1, rfl⟩
  refine ⟨fun i j p q hp hq e => ?_, fun k q hq => ?_⟩
  · obtain ⟨h1, h2⟩ := key i p hp
    obtain ⟨h3, h4⟩ := key j q hq
    exact hi i j h1 h3 (by rw [← h2, ← h4, e])
  · obtain ⟨h1, h2⟩ := key k q hq
    rw [h2]
    exact hA k h1
/-! locals -/
def lvl : Nat → List (Option Value) → List (Nat × Value)
  | _, [] => []
  | i, none :: r => lvl (i + 1) r
  | i, some v :: r => (i, v) :: lvl (i + 1) r
theorem lvl_mem : ∀ (L : List (Option Value)) (i j : Nat) (v : Value), (j, v) ∈ lvl i L ↔ ∃ k, j = i + k ∧ L[k]? = some (some v) := by
  intro L
  induction L with
  | nil => intro i j v; simp [lvl]
  | cons x r ih =>
    intro i j v
    cases x with
    | none =>
      rw [lvl, ih]
      constructor
      · rintro ⟨k, h1, h2⟩
        exact ⟨k + 1, by omega, by simpa using h2⟩
      · rintro ⟨k, h1, h2⟩
        cases k with
        | zero => simp at h2
        | succ k => exact ⟨k, by omega, by simpa using h2⟩
    | some w =>
      rw [lvl, List.mem_cons, ih]
      constructor
      · rintro (h | ⟨k, h1, h2⟩)
        · cases h
          exact ⟨0, by omega, by simp⟩
        · exact ⟨k + 1, by omega, by simpa using h2⟩
      · rintro ⟨k, h1, h2⟩
        cases k with
        | zero =>
          simp at h2
          subst h2
          left
          rw [h1]
          rfl
        | succ k => exact Or.inr ⟨k, by omega, by simpa using h2⟩
def LV (ls : Array Slot) (nL : Nat) (L : List (Option Value)) : Prop := lv_has ls nL (lvl 0 L) ∧ ∀ v, some v ∈ L → v.category = 1
theorem LV.at {ls : Array Slot} {nL : Nat} {L : List (Option Value)} (h : LV ls nL L) {i : Nat} {v : Value} (hi : L[i]? = some (some v)) : ls[i]? = some (.val v) :=
  h.1.2.2 (i, v) ((lvl_mem L 0 i v).mpr ⟨i, by omega, hi⟩)
theorem LV.set {ls' : Array Slot} {nL : Nat} {L : List (Option Value)} {i : Nat} {v : Value} (hc : v.category = 1) (hL : ∀ v, some v ∈ L → v.category = 1)
    (h : lv_has ls' nL ((i, v) :: (lvl 0 L).filter (fun q => !(q.1 == i) && !(q.1 + 1 == i && q.2.category == 2)))) : LV ls' nL (L.set i (some v)) := by
  refine ⟨⟨h.1, h.2.1, ?_⟩, ?_⟩
  · rintro ⟨j, w⟩ hq
    obtain ⟨k, hk, hw⟩ := (lvl_mem _ 0 j w).mp hq
    have hjk : j = k := by omega
    subst hjk
    rw [List.getElem?_set] at hw
    by_cases hi : i = j
    · subst hi
      rw [if_pos rfl] at hw
      by_cases hl : i < L.length
      · rw [if_pos hl] at hw
        cases hw
        exact h.2.2 (i, v) List.mem_cons_self
      · rw [if_neg hl] at hw
        cases hw
    · rw [if_neg hi] at hw
      refine h.2.2 (j, w) (List.mem_cons_of_mem _ (List.mem_filter.mpr ⟨(lvl_mem L 0 j w).mpr ⟨j, by omega, hw⟩, ?_⟩))
      have hcw : w.category = 1 := hL w (List.mem_of_getElem? hw)
      simp [hcw]
      omega
  · intro w hw
    rcases List.mem_or_eq_of_mem_set hw with h1 | h1
    · exact hL w h1
    · cases h1
      exact hc
/-! the judgement -/
def PW (X : CX) (K : KX) (lay : List PD) (nL : Nat) (cs : Nat × Nat) (Z : State → Prop) (pc : Nat) (L : List (Option Value)) (st : List Value) (M : Mem) : Prop := match X with
  | (p, l, e, R, s, m, args, below, meth, c, A) => ∀ (H : Heap) (locs : List Loc) (ls : Array Slot), va_P K.1 vwCl (wld K lay M) H → va_S A s.heap H locs → LV ls nL L → W p l e R s m args below meth c H locs cs.1 cs.2 Z (F0 m pc ls st)
def CXok (X : CX) (K : KX) (lay : List PD) (cc : ByteArray) (own : String) (nL : Nat) (ret : Option FieldType) (d : Nat) : Prop := match X with
  | (p, _, _, R, s, m, args, _, meth, c, A) => p.tables.exec = Jvm.exec ∧ c.code = cc ∧ c.maxLocals = nL ∧ s.vm.findClass own = some m.cls ∧ (∀ w ∈ wsL_law0, w.before args s = true) ∧ va_K K.1 vwCl (tysK K) s ∧ injK K lay ∧ (∀ k, k < lay.length → A (K.2.2 k)) ∧ (∀ q, s.heap.size ≤ q → A q) ∧ meth.locks = false ∧ meth.sig.returnType = ret ∧ d ≤ R.frames ∧ 64 * d ≤ R.locals
def QQ (K : KX) (lay : List PD) (A : Nat → Prop) (Q : Option Value → Mem → Prop) : Array Value → State → Outcome → State → Prop := fun _ st oc t => (∃ (v : Option Value) (M' : Mem), oc = .returned v ∧ Q v M' ∧ va_P K.1 vwCl (wld K lay M') t.heap ∧ va_K K.1 vwCl (tysK K) t) ∧ va_F A st t
def ZM (X : CX) (K : KX) (lay : List PD) (Q : Option Value → Mem → Prop) : State → Prop := match X with
  | (_, _, _, _, s, _, args, below, _, _, A) => MQ below (QQ K lay A Q) args s 0 0 A
abbrev lOf (X : CX) : Launch := X.2.1
def MC (l : Launch) (K : KX) (lay : List PD) (y : MethodName) (cc : ByteArray) (nL : Nat) (ret : Option FieldType) (d : Nat) (av : List Value) (M : Mem) (Q : Option Value → Mem → Prop) : Prop :=
  ∀ sz : Nat, Met l y (.code y cc nL ret :: wsL_law0) (rmD d) (va_Pc av (fun U => U.heap.size = sz ∧ va_P K.1 vwCl (wld K lay M) U.heap ∧ va_K K.1 vwCl (tysK K) U ∧ injK K lay)) (QQ K lay (AK K lay sz) Q) 0 0 (AK K lay sz)
def LV0 (av : List Value) (n : Nat) : List (Option Value) := av.map some ++ List.replicate (n - av.length) none
theorem lvl_args : ∀ (av : List Value) (i : Nat), (∀ v ∈ av, v.category = 1) → lv_args i av = lvl i (av.map some) := by
  intro av
  induction av with
  | nil => intro i _; rfl
  | cons v r ih =>
    intro i h
    have hc := h v List.mem_cons_self
    have h2 := ih (i + 1) (fun w hw => h w (List.mem_cons_of_mem _ hw))
    simp only [List.map_cons, lvl, lv_args, hc]
    rw [if_neg (by decide), h2]
theorem lvl_pad : ∀ (L : List (Option Value)) (i n : Nat), lvl i (L ++ List.replicate n none) = lvl i L := by
  intro L
  induction L with
  | nil =>
    intro i n
    induction n generalizing i with
    | zero => rfl
    | succ n ih =>
      show lvl (i + 1) ([] ++ List.replicate n none) = []
      exact ih (i + 1)
  | cons x r ih =>
    intro i n
    cases x with
    | none => exact ih (i + 1) n
    | some v =>
      show (i, v) :: lvl (i + 1) (r ++ List.replicate n none) = (i, v) :: lvl (i + 1) r
      rw [ih]
theorem lg_sl_len1 : ∀ (av : List Value), (∀ v ∈ av, v.category = 1) → (lg_sl av).length = av.length := by
  intro av h
  have := lvl_args av 0 h
  induction av with
  | nil => rfl
  | cons v r ih =>
    have hc := h v List.mem_cons_self
    have h2 := ih (fun w hw => h w (List.mem_cons_of_mem _ hw)) (lvl_args r 0 (fun w hw => h w (List.mem_cons_of_mem _ hw)))
    simp [lg_sl, hc] at h2 ⊢
    omega
theorem mc_intro {l : Launch} {K : KX} {lay : List PD} {y : MethodName} {cc : ByteArray} {nL : Nat} {ret : Option FieldType} {d : Nat} {av : List Value} {M : Mem} {Q : Option Value → Mem → Prop} (hy : plainName y.cls = true) (hc : ∀ v ∈ av, v.category = 1) (hn : av.length ≤ nL)
    (body : ∀ X : CX, lOf X = l → CXok X K lay cc y.cls nL ret d → PW X K lay nL (0, 0) (ZM X K lay Q) 0 (LV0 av nL) [] M) : MC l K lay y cc nL ret d av M Q := by
  intro sz
  refine Met.ofW (cc := cc) (maxL := nL) (ret := ret) hy rfl ?_
  intro p e s m args below meth c s₁ B hml hv
  obtain ⟨rfl, hsz, hP, hK, hinj⟩ := hv
  subst hsz
  have hts := atoms_spec (ws := .code y cc nL ret :: wsL_law0) B.pre
  have C : CXok (p, l, e, rmD d, s, m, av.toArray, below, meth, c, AK K lay s.heap.size) K lay cc y.cls nL ret d :=
    ⟨B.exec, B.bytes, hml, findClass_of_methodNamed B.named, fun w hw => hts w (List.mem_cons_of_mem _ hw), hK, hinj, fun k hk => Or.inl ⟨k, hk, rfl⟩, fun q h => Or.inr h, B.notSynchronized, B.returns, Nat.le_refl _, Nat.le_refl _⟩
  have hl := lv_entry av (n := nL) (by rw [lg_sl_len1 av hc]; exact hn)
  rw [lg_entry_eq]
  refine body _ rfl C s.heap [] _ hP va_S.rf ⟨?_, ?_⟩
  · rw [LV0, lvl_pad, ← lvl_args av 0 hc]
    exact hl
  · intro v hv
    rcases List.mem_append.mp hv with h1 | h1
    · obtain ⟨w, hw, e1⟩ := List.mem_map.mp h1
      cases e1
      exact hc v hw
    · have := List.eq_of_mem_replicate h1
      cases this
