/-! THE LAW's INVARIANT -/
def SvP (c : Cfg) (M : Mem) : Prop := M 21 0 = 0 ∨ (M 21 0 = 1 ∧ SvR c M)
def StP (c : Cfg) (M : Mem) : Prop := M 24 0 = 0 ∨ (M 24 0 = 1 ∧ StR c M)
def MdP (c : Cfg) (M : Mem) : Prop := M 29 0 = 0 ∨ (M 29 0 = 1 ∧ MdR c M)
def KnP (c : Cfg) (M : Mem) : Prop := M 43 13 = 0 ∨ (M 43 13 = 1 ∧ KnOK c M)
def KmP (c : Cfg) (M : Mem) : Prop := M 43 14 = 0 ∨ (M 43 14 = 1 ∧ MdS c (M 43 30) (M 43 29) (M 58))
def KoP (c : Cfg) (M : Mem) : Prop := M 43 15 = 0 ∨ ((1 ≤ M 43 15 ∧ M 43 15 ≤ 6) ∧ FM (fun _ => true) (moK c (M 43 15)) (kN c ^ (M 43 15).toNat) (M 43 32) ∧ M 43 33 = moK c (M 43 15) (M 43 32))
def InvC (M : Mem) : Prop := WfK (cf M) ∧ (0 ≤ M 3 0 ∧ M 3 0 ≤ 40) ∧ (∀ j, 0 ≤ j → j < M 3 0 → -128 ≤ M 5 j ∧ M 5 j ≤ 127) ∧ M 15 4 = 8 ∧ Z0a M ∧ SvP (cf M) M ∧ StP (cf M) M ∧ MdP (cf M) M ∧ M 37 4 = 120 ∧ Z0b M ∧ MoC (cf M) M
def InvR (M : Mem) : Prop := KnP (cfM M) M ∧ KmP (cfM M) M ∧ KoP (cfM M) M
def Link (M : Mem) : Prop := cfM M = cf M ∧ M 43 17 = M 3 0 ∧ ∀ j, 0 ≤ j → j < M 3 0 → M 49 j = M 5 j
def Inv (M : Mem) : Prop := InvC M ∧ InvR M ∧ Link M
theorem Inv_wm {M : Mem} (h : Inv M) : WfK (cfM M) := by rw [h.2.2.1]; exact h.1.1
theorem Inv_ts {M : Mem} (h : Inv M) : 0 ≤ M 43 17 ∧ M 43 17 ≤ 40 := by rw [h.2.2.2.1]; exact h.1.2.1
theorem Inv_tb {M : Mem} (h : Inv M) : ∀ j, 0 ≤ j → j < M 43 17 → -128 ≤ M 49 j ∧ M 49 j ≤ 127 := fun j q1 q2 => by
  rw [h.2.2.2.1] at q2
  rw [h.2.2.2.2 j q1 q2]
  exact h.1.2.2.1 j q1 q2
theorem kZa {M M' : Mem} (h1 : M' 17 = M 17) (h2 : M' 19 = M 19) (h3 : M' 20 = M 20) (h : Z0a M) : Z0a M' := by
  unfold Z0a at h ⊢
  rw [h1, h2, h3]
  exact h
theorem kSv {c : Cfg} {M M' : Mem} (h1 : M' 21 = M 21) (h2 : M' 22 = M 22) (h3 : M' 23 = M 23) (h : SvP c M) : SvP c M' := by
  rcases h with a | ⟨a, b⟩
  · exact Or.inl (by rw [h1]; exact a)
  · exact Or.inr ⟨by rw [h1]; exact a, SvR_c h1 h2 h3 b⟩
theorem kSt {c : Cfg} {M M' : Mem} (h1 : M' 24 = M 24) (h2 : M' 25 = M 25) (h3 : M' 26 = M 26) (h : StP c M) : StP c M' := by
  rcases h with a | ⟨a, b⟩
  · exact Or.inl (by rw [h1]; exact a)
  · exact Or.inr ⟨by rw [h1]; exact a, StR_c h1 h2 h3 b⟩
theorem kMd {c : Cfg} {M M' : Mem} (h1 : M' 29 = M 29) (h2 : M' 30 = M 30) (h : MdP c M) : MdP c M' := by
  rcases h with a | ⟨a, b⟩
  · exact Or.inl (by rw [h1]; exact a)
  · exact Or.inr ⟨by rw [h1]; exact a, MdR_c h1 h2 b⟩
theorem kKn {c : Cfg} {M M' : Mem} (h1 : M' 43 13 = M 43 13) (h2 : M' 52 = M 52) (h : KnP c M) : KnP c M' := by
  rcases h with a | ⟨a, b⟩
  · exact Or.inl (by rw [h1]; exact a)
  · exact Or.inr ⟨by rw [h1]; exact a, KnOK_c h2 b⟩
theorem kKm {c : Cfg} {M M' : Mem} (h1 : M' 43 14 = M 43 14) (h2 : M' 43 29 = M 43 29) (h3 : M' 43 30 = M 43 30) (h4 : M' 58 = M 58) (h : KmP c M) : KmP c M' := by
  unfold KmP at h ⊢
  rw [h1, h2, h3, h4]
  exact h
theorem kKo {c : Cfg} {M M' : Mem} (h1 : M' 43 15 = M 43 15) (h2 : M' 43 32 = M 43 32) (h3 : M' 43 33 = M 43 33) (h : KoP c M) : KoP c M' := by
  unfold KoP at h ⊢
  rw [h1, h2, h3]
  exact h
theorem cf_e {M M' : Mem} (h1 : M' 1 = M 1) (h2 : M' 2 = M 2) (h6 : M' 6 = M 6) (h7 : M' 7 = M 7) (h8 : M' 8 = M 8) (h9 : M' 9 = M 9) (h10 : M' 10 = M 10) (h11 : M' 11 = M 11) : cf M' = cf M := by
  unfold cf
  rw [h1, h2, h6, h7, h8, h9, h10, h11]
theorem InvC_lo {M M' : Mem} (lo : ∀ k, k < 43 → M' k = M k) (h : InvC M) : InvC M' := by
  have e := cf_e (lo 1 (by decide)) (lo 2 (by decide)) (lo 6 (by decide)) (lo 7 (by decide)) (lo 8 (by decide)) (lo 9 (by decide)) (lo 10 (by decide)) (lo 11 (by decide))
  obtain ⟨a1, a2, a3, a4, a5, a6, a7, a8, a9, a10, a11⟩ := h
  unfold InvC
  rw [e, lo 3 (by decide), lo 5 (by decide), lo 15 (by decide), lo 37 (by decide)]
  exact ⟨a1, a2, a3, a4, kZa (lo 17 (by decide)) (lo 19 (by decide)) (lo 20 (by decide)) a5, kSv (lo 21 (by decide)) (lo 22 (by decide)) (lo 23 (by decide)) a6, kSt (lo 24 (by decide)) (lo 25 (by decide)) (lo 26 (by decide)) a7, kMd (lo 29 (by decide)) (lo 30 (by decide)) a8, a9, Z0b_c (lo 39 (by decide)) (lo 41 (by decide)) (lo 42 (by decide)) a10, MoC_c (lo 34 (by decide)) (lo 35 (by decide)) a11⟩
theorem Inv_mk {M1 M2 : Mem} (lo : ∀ k, k < 43 → M2 k = M1 k) (h : InvC M1) (e : cfM M2 = cf M1) (t : M2 43 17 = M1 3 0) (b : ∀ j, 0 ≤ j → j < M1 3 0 → M2 49 j = M1 5 j) (k1 : KnP (cf M1) M2) (k2 : KmP (cf M1) M2) (k3 : KoP (cf M1) M2) : Inv M2 := by
  have e2 : cf M2 = cf M1 := cf_e (lo 1 (by decide)) (lo 2 (by decide)) (lo 6 (by decide)) (lo 7 (by decide)) (lo 8 (by decide)) (lo 9 (by decide)) (lo 10 (by decide)) (lo 11 (by decide))
  refine ⟨InvC_lo lo h, ?_, by rw [e, e2], by rw [t, lo 3 (by decide)], fun j q1 q2 => ?_⟩
  · unfold InvR
    rw [e]
    exact ⟨k1, k2, k3⟩
  · rw [lo 3 (by decide)] at q2
    rw [lo 5 (by decide)]
    exact b j q1 q2
/-- a call of the class that leaves rules, words and texts as they are -/
theorem InvC_q {M M' : Mem} (h : InvC M) (c : cf M' = cf M) (t : (M' 3 0 = M 3 0 ∧ M' 5 = M 5) ∨ M' 3 0 = 0) (i1 : M' 15 4 = 8) (i2 : Z0a M') (i3 : SvP (cf M) M') (i4 : StP (cf M) M') (i5 : MdP (cf M) M') (i6 : M' 37 4 = 120) (i7 : Z0b M') (i8 : MoC (cf M) M') : InvC M' := by
  obtain ⟨a1, a2, a3, -⟩ := h
  unfold InvC
  rw [c]
  refine ⟨a1, ?_, ?_, i1, i2, i3, i4, i5, i6, i7, i8⟩
  · rcases t with t | t
    · rw [t.1]; exact a2
    · omega
  · rcases t with t | t
    · rw [t.1, t.2]; exact a3
    · intro j q1 q2; omega
theorem Lk {M : Mem} (h : Inv M) : M 43 1 = M 1 0 ∧ M 43 3 = M 1 1 ∧ M 43 4 = M 1 2 ∧ M 43 5 = M 1 3 ∧ M 44 = M 2 ∧ M 43 6 = M 6 0 ∧ M 43 7 = M 6 1 ∧ M 45 = M 7 ∧ M 46 = M 8 ∧ M 43 10 = M 9 0 ∧ M 47 = M 10 ∧ M 48 = M 11 := by
  have e := h.2.2.1
  refine ⟨congrArg kN e, congrArg kSw e, congrArg kDr e, congrArg kGp e, congrArg kC e, congrArg kW e, congrArg kL e, congrArg kWl e, congrArg kP e, congrArg kT e, congrArg kX e, congrArg kXs e⟩
theorem allL_c {a b : Int → Int} {n s : Int} (h : ∀ j, 0 ≤ j → j < s → a j = b j) : allL a n s ↔ allL b n s := by
  unfold allL
  constructor
  · intro q j q1 q2; rw [← h j q1 q2]; exact q j q1 q2
  · intro q j q1 q2; rw [h j q1 q2]; exact q j q1 q2
theorem PEf_c {c : Cfg} (hW : WfK c) {s w r : Int} {a b : Int → Int} (hs : 0 ≤ s) (h : ∀ j, 0 ≤ j → j < s → a j = b j) (q : PEf c s a w r) : PEf c s b w r := by
  have hl := hW.2.2.2.2.2.2.1
  unfold PEf at q ⊢
  rw [← allL_c h, ← edW_congr (x := fun p => a p - 97) (x' := fun p => b p - 97) (n := s) (fun i q1 q2 => by rw [h i q1 q2]) s hs (Int.le_refl _) (kL c) hl.1]
  exact q
def PFr (c : Cfg) (s : Int) (a : Int → Int) (w r : Int) : Prop := ((allL a (kN c) s ∧ (0 ≤ w ∧ w < kW c) ∧ s = kL c) ∧ r = dst (kC c) (kSw c) (fun p => a p - 97) (fun p => kWl c (w * 7 + p)) (kL c)) ∨ (¬ (allL a (kN c) s ∧ (0 ≤ w ∧ w < kW c) ∧ s = kL c) ∧ r = -1)
theorem PFr_c {c : Cfg} {s w r r2 : Int} {a b : Int → Int} (h : ∀ j, 0 ≤ j → j < s → a j = b j) (q : PFr c s a w r) (q2 : PFr c s b w r2) (hl : 0 ≤ kL c) : r = r2 := by
  unfold PFr at q q2
  rw [← allL_c h] at q2
  rcases q with ⟨x, y⟩ | ⟨x, y⟩ <;> rcases q2 with ⟨z, u⟩ | ⟨z, u⟩
  · rw [y, u]
    exact dst_congr (n := kL c) (fun i q1 q2 => by rw [h i q1 (by rw [x.2.2]; exact q2)]) (fun _ _ _ => rfl) (fun _ _ _ => rfl) (kL c) hl (Int.le_refl _)
  · exact absurd x z
  · exact absurd z x
  · rw [y, u]
