/-! caches that don't see a rule that has changed -/
def AgS (c d : Cfg) : Prop := kN c = kN d ∧ kSw c = kSw d ∧ kGp c = kGp d ∧ kC c = kC d ∧ kW c = kW d ∧ kL c = kL d ∧ kWl c = kWl d ∧ kP c = kP d
def AgM (c d : Cfg) : Prop := kN c = kN d ∧ kDr c = kDr d ∧ kC c = kC d ∧ kW c = kW d ∧ kL c = kL d ∧ kWl c = kWl d ∧ kP c = kP d
def AgK (c d : Cfg) : Prop := kN c = kN d ∧ kSw c = kSw d ∧ kC c = kC d ∧ kW c = kW d ∧ kL c = kL d ∧ kWl c = kWl d
def AgT (c d : Cfg) : Prop := kN c = kN d ∧ kSw c = kSw d ∧ kC c = kC d ∧ kT c = kT d ∧ kX c = kX d ∧ kXs c = kXs d
theorem ag_Dw {c d : Cfg} (h1 : kC c = kC d) (h2 : kSw c = kSw d) (h3 : kL c = kL d) (h4 : kWl c = kWl d) : Dw c = Dw d := by
  funext x w
  unfold Dw
  rw [h1, h2, h3, h4]
theorem ag_rwX {c d : Cfg} (h1 : kN c = kN d) (h3 : kL c = kL d) : rwX c = rwX d := by
  funext k i
  unfold rwX
  rw [h1, h3]
theorem ag_nK {c d : Cfg} (h1 : kN c = kN d) (h3 : kL c = kL d) : nK c = nK d := by
  unfold nK
  rw [h1, h3]
theorem ag_nrB {c d : Cfg} (h1 : kP c = kP d) (h3 : kW c = kW d) : nrB c = nrB d := by
  unfold nrB
  rw [h1, h3]
theorem ag_cdK {c d : Cfg} (h : AgS c d) : cdK c = cdK d := by
  obtain ⟨a1, a2, a3, a4, a5, a6, a7, a8⟩ := h
  funext k
  have e1 := ag_Dw a4 a2 a6 a7
  have e2 := ag_rwX a1 a6
  have key : ∀ (x : Int → Int) (n : Nat), cdN c x n = cdN d x n := by
    intro x n
    induction n with
    | zero => rfl
    | succ n ih => rw [cdN, cdN, ih, a8, a3, e1]
  unfold cdK cdI
  rw [a5, e2, key]
theorem ag_rdK {c d : Cfg} (h : AgS c d) : rdK c = rdK d := by
  obtain ⟨a1, a2, a3, a4, a5, a6, a7, a8⟩ := h
  funext k
  unfold rdK rdI
  rw [ag_Dw a4 a2 a6 a7, ag_rwX a1 a6, a5, a8]
theorem ag_suK {c d : Cfg} (h : AgS c d) : suK c = suK d := by
  obtain ⟨a1, a2, a3, a4, a5, a6, a7, a8⟩ := h
  funext k
  unfold suK suI
  rw [ag_Dw a4 a2 a6 a7, ag_rwX a1 a6, a5, a8]
theorem ag_Seen {c d : Cfg} (h : AgS c d) : SeenOK c = SeenOK d := by
  obtain ⟨a1, a2, a3, a4, a5, a6, a7, a8⟩ := h
  funext z p n
  unfold SeenOK
  rw [ag_rwX a1 a6, a6]
theorem SvR_ag {c d : Cfg} {M : Mem} (h : AgS c d) (q : SvR c M) : SvR d M := by
  have e1 := ag_cdK h
  have e2 := ag_rdK h
  have e3 := ag_suK h
  have e4 := ag_Seen h
  obtain ⟨a1, a2, a3, a4, a5, a6, a7, a8⟩ := h
  unfold SvR SvOK at q ⊢
  rw [← e1, ← e2, ← e3, ← e4, ← ag_nrB a8 a5, ← ag_nK a1 a6, ← ag_rwX a1 a6, ← a6]
  exact q
theorem StR_ag {c d : Cfg} {M : Mem} (h : AgS c d) (q : StR c M) : StR d M := by
  have e1 := ag_cdK h
  obtain ⟨a1, a2, a3, a4, a5, a6, a7, a8⟩ := h
  have e5 : pkK c = pkK d := by
    funext k
    unfold pkK
    rw [ag_rwX a1 a6, a6]
  unfold StR KyOK at q ⊢
  rw [← e1, ← e5, ← ag_nrB a8 a5, ← ag_nK a1 a6, ← ag_rwX a1 a6, ← ag_Dw a4 a2 a6 a7, ← a5, ← a8]
  exact q
theorem ag_meS {c d : Cfg} (h : AgM c d) : meS c = meS d := by
  obtain ⟨a1, a2, a3, a4, a5, a6, a7⟩ := h
  funext n k
  unfold meS meX edW
  rw [a1, a2, a3, a4, a5, a6, a7]
theorem ag_Fst {c d : Cfg} (h : AgM c d) : Fst c = Fst d := by
  have e := ag_meS h
  obtain ⟨a1, a2, a3, a4, a5, a6, a7⟩ := h
  funext s k n b
  unfold Fst Bfr
  rw [e, a1]
theorem MdS_ag {c d : Cfg} {s ln : Int} {f : Int → Int} (h : AgM c d) (q : MdS c s ln f) : MdS d s ln f := by
  have e1 := ag_meS h
  have e2 := ag_Fst h
  unfold MdS at q ⊢
  rw [← e1, ← e2, ← h.1]
  exact q
theorem MdR_ag {c d : Cfg} {M : Mem} (h : AgM c d) (q : MdR c M) : MdR d M := by
  have e := ag_nrB (c := c) (d := d) h.2.2.2.2.2.2 h.2.2.2.1
  rcases q with ⟨a, b⟩ | ⟨a, b⟩
  · exact Or.inl ⟨by rw [← e]; exact a, b⟩
  · exact Or.inr ⟨by rw [← e]; exact a, MdS_ag h b⟩
theorem KnOK_ag {c d : Cfg} {M : Mem} (h : AgK c d) (q : KnOK c M) : KnOK d M := by
  obtain ⟨a1, a2, a3, a4, a5, a6⟩ := h
  unfold KnOK at q ⊢
  rw [← ag_nK a1 a5, ← a4, ← ag_rwX a1 a5, ← ag_Dw a3 a2 a5 a6]
  exact q
theorem ag_moK {c d : Cfg} (h : AgT c d) : moK c = moK d := by
  obtain ⟨a1, a2, a3, a4, a5, a6⟩ := h
  have e1 : ∀ x t n, pcD c x t n = pcD d x t n := by
    intro x t n
    funext i
    unfold pcD ptX
    rw [a2, a3, a5]
  have e2 : ∀ m t, nPc c m t = nPc d m t := by
    intro m t
    unfold nPc
    rw [a6]
  have e3 : ∀ x m, moT c x m = moT d x m := by
    intro x m
    funext t
    unfold moT
    rw [e1, e2]
  funext m k
  unfold moK moR
  rw [e3, a4, a1]
theorem okM_ag {c d : Cfg} {m : Int} (h : AgT c d) (q : okM c m) : okM d m := by
  obtain ⟨a1, a2, a3, a4, a5, a6⟩ := h
  unfold okM at q ⊢
  rw [← a4, ← a6]
  exact q
theorem MoC_ag {c d : Cfg} {M : Mem} (h : AgT c d) (q : MoC c M) : MoC d M := fun m m1 m2 => by
  rcases q m m1 m2 with a | ⟨a, b⟩
  · exact Or.inl a
  · refine Or.inr ⟨okM_ag h a, ?_⟩
    have e := ag_moK h
    unfold MoS at b ⊢
    rw [← e, ← h.1]
    exact b
/-- with no words -/
theorem meS_0 {c : Cfg} (h : kW c = 0) (n k : Int) : meS c n k = 0 := by
  unfold meS meX
  rw [h]
  rfl
theorem MdS_w0 {c d : Cfg} (hN : 2 ≤ kN c) (hM : 2 ≤ kN d) (h : kW c = 0) (h2 : kW d = 0) {s ln : Int} {f : Int → Int} (q : MdS c s ln f) : MdS d s ln f := by
  obtain ⟨n, b, ⟨⟨a1, a2, a3, a4⟩, g⟩, e1, e2, e3⟩ := q
  have p1 : (0 : Int) < kN c ^ (1 : Int).toNat := Int.pow_pos (by omega)
  have p2 : (0 : Int) < kN d ^ (1 : Int).toNat := Int.pow_pos (by omega)
  have g1 := g 1 0 ⟨Int.le_refl _, Int.le_refl _, p1, Or.inl (by decide)⟩
  rw [meS_0 h, meS_0 h] at g1
  have n1 : n = 1 := by omega
  have b1 : b = 0 := by omega
  subst n1
  subst b1
  refine ⟨1, 0, ⟨⟨Int.le_refl _, Int.le_refl _, p2, Or.inl (by decide)⟩, fun n' j hb => ?_⟩, by rw [meS_0 h2, e1, meS_0 h], e2, fun i q1 q2 => ?_⟩
  · rw [meS_0 h2, meS_0 h2]
    obtain ⟨z1, z2, -, -⟩ := hb
    omega
  · rw [e3 i q1 q2]
    unfold dg
    rw [Int.zero_ediv, Int.zero_ediv, Int.zero_emod, Int.zero_emod]
theorem nrB_w0 {c : Cfg} (h : kW c = 0) : nrB c = 0 := by
  unfold nrB
  rw [h]
  rfl
