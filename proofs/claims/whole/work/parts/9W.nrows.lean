/-! constructors: a layout that grows -/
def KL (D : va_G) (t : ClassId × ClassId × ClassId × ClassId) (as : List Nat) : KX := (D, t, fun k => as.getD k 0)
theorem pv_aload {X : CX} {K : KX} {lay : List PD} {cc : ByteArray} {own : String} {nL : Nat} {ret : Option FieldType} {d : Nat} {cs : Nat × Nat} {Z : State → Prop} {pc : Nat} {st : List Value} {M : Mem} (C : CXok X K lay cc own nL ret d) {L : List (Option Value)} {i : Fin 4} {b : Nat} (hi : L[i.val]? = some (some (Value.ref b))) (hd : decode cc pc = .ok (.aload_n i, 1)) (k : PW X K lay nL cs Z (pc + 1) L (Value.ref b :: st) M) : PW X K lay nL cs Z pc L st M := by
  obtain ⟨p, l, e, R, s, m, args, below, meth, c0, A⟩ := X
  obtain ⟨hx, hb, hml, hown, hts, hK, hinj, hAk, hA, hlk, hrt, hfr, hlo⟩ := C
  intro H locs ls hP hS hl
  exact lv_aload_n hx hb hd rfl (hl.at hi) (k H locs ls hP hS hl)
theorem pw_obj {X : CX} {K : KX} {lay : List PD} {cc : ByteArray} {own : String} {nL : Nat} {ret : Option FieldType} {d : Nat} {cs : Nat × Nat} {Z : State → Prop} {pc : Nat} {st : List Value} {M : Mem} (C : CXok X K lay cc own nL ret d) {L : List (Option Value)} {a idx : Nat} (h1 : Cond.methodLink own idx objectInit ∈ wsL_law0) (hd : decode cc pc = .ok (.invokespecial idx, 3)) (hst : (st.map fun v => v.category).sum ≤ 8) (hdd : 0 < d) (k : PW X K lay nL cs Z (pc + 3) L st M) : PW X K lay nL cs Z pc L (Value.ref a :: st) M := by
  obtain ⟨p, l, e, R, s, m, args, below, meth, c0, A⟩ := X
  obtain ⟨hx, hb, hml, hown, hts, hK, hinj, hAk, hA, hlk, hrt, hfr, hlo⟩ := C
  intro H locs ls hP hS hl
  refine W.objInit hx hb hown (hts _ h1) (hts _ im_objectInit) (hts _ cd_objectInit) rfl (by rw [hml]; exact hl.1.1) rfl hd ?_ ?_ ?_
  · omega
  · show 2 * 0 + _ + 12 ≤ R.locals
    omega
  · exact W.eq (g2 := F0 m (pc + 3) ls st) rfl (k H locs ls hP hS hl)
def okc (lay : List PD) : Bool := lay.all (fun d => d.2.2.all (fun c => decide (c < lay.length + 2)))
theorem KL_lt {D : va_G} {t : ClassId × ClassId × ClassId × ClassId} {as bs : List Nat} {k : Nat} (h : k < as.length) : (KL D t (as ++ bs)).2.2 k = (KL D t as).2.2 k := by
  show (as ++ bs).getD k 0 = as.getD k 0
  simp [List.getD, List.getElem?_append_left h]
theorem cE_more {D : va_G} {t : ClassId × ClassId × ClassId × ClassId} {as bs : List Nat} {d : PD} {m : Int → Int} (h : ∀ c ∈ d.2.2, c < as.length + 2) : cE (KL D t (as ++ bs)) d m = cE (KL D t as) d m := by
  obtain ⟨k, n, cs⟩ := d
  match k with
  | 0 =>
    show Sum.inr (n, cs.mapIdx _) = Sum.inr (n, cs.mapIdx _)
    congr 2
    apply List.ext_getElem?
    intro i
    rw [List.getElem?_mapIdx, List.getElem?_mapIdx]
    cases hc : cs[i]? with
    | none => rfl
    | some c =>
      have hm := h c (List.mem_of_getElem? hc)
      match c with
      | 0 => rfl
      | 1 => rfl
      | q + 2 =>
        show some (Value.ref _) = some (Value.ref _)
        rw [KL_lt (by omega)]
  | 1 => rfl
  | 2 => rfl
  | 3 => rfl
  | k + 4 => rfl
theorem wld_more {D : va_G} {t : ClassId × ClassId × ClassId × ClassId} {as bs : List Nat} {lay : List PD} {M : Mem} (hl : as.length = lay.length) (ho : okc lay = true) : wld (KL D t (as ++ bs)) lay M = wld (KL D t as) lay M := by
  apply List.ext_getElem?
  intro i
  unfold wld
  rw [List.getElem?_mapIdx, List.getElem?_mapIdx]
  cases hd : lay[i]? with
  | none => rfl
  | some d =>
    have hi : i < as.length := by rw [hl]; exact (List.getElem?_eq_some_iff.mp hd).1
    have h := List.all_eq_true.mp ho d (List.mem_of_getElem? hd)
    have h2 : ∀ c ∈ d.2.2, c < as.length + 2 := fun c hc => by
      have := List.all_eq_true.mp h c hc
      rw [hl]
      exact of_decide_eq_true this
    show some (_, _) = some (_, _)
    rw [KL_lt hi, cE_more h2]
theorem wld_snoc {D : va_G} {t : ClassId × ClassId × ClassId × ClassId} {as : List Nat} {q : Nat} {lay : List PD} {d : PD} {M : Mem} (hl : as.length = lay.length) (ho : okc lay = true) : wld (KL D t (as ++ [q])) (lay ++ [d]) M = wld (KL D t as) lay M ++ [(q, cE (KL D t (as ++ [q])) d (M lay.length))] := by
  have e : wld (KL D t (as ++ [q])) (lay ++ [d]) M = wld (KL D t (as ++ [q])) lay M ++ [(q, cE (KL D t (as ++ [q])) d (M lay.length))] := by
    unfold wld
    rw [List.mapIdx_append]
    congr 1
    show [((as ++ [q]).getD (0 + lay.length) 0, cE (KL D t (as ++ [q])) d (M (0 + lay.length)))] = _
    rw [Nat.zero_add, ← hl]
    simp [List.getD]
  rw [e, wld_more hl ho]
def dfl (codes : List Nat) : List Value := codes.map (fun c => if c = 0 then .int 0 else .null)
theorem cE_dfl {K : KX} {ci : Nat} {codes : List Nat} {m : Int → Int} (hc : codes.all (fun c => decide (c ≤ 1)) = true) (hm : ∀ j, m j = 0) : cE K (0, ci, codes) m = .inr (ci, dfl codes) := by
  show Sum.inr (ci, codes.mapIdx _) = _
  congr 2
  apply List.ext_getElem?
  intro i
  rw [List.getElem?_mapIdx, dfl, List.getElem?_map]
  cases h : codes[i]? with
  | none => rfl
  | some c =>
    have := of_decide_eq_true (List.all_eq_true.mp hc c (List.mem_of_getElem? h))
    match c with
    | 0 =>
      show some (iV (m _)) = some (.int 0)
      rw [hm]; rfl
    | 1 => rfl
    | c + 2 => omega
theorem D_inj {K : KX} {lay : List PD} {M : Mem} {A : Nat → Prop} (h : va_D A (wld K lay M)) : injK K lay ∧ ∀ k, k < lay.length → A (K.2.2 k) := by
  have key : ∀ k, k < lay.length → ∃ d, (wld K lay M)[k]? = some (K.2.2 k, d) := fun k hk => ⟨_, wld_get (List.getElem?_eq_getElem hk)⟩
  refine ⟨fun i j hi hj e => ?_, fun k hk => ?_⟩
  · obtain ⟨a, ha⟩ := key i hi
    obtain ⟨b, hb⟩ := key j hj
    exact h.1 i j _ _ ha hb e
  · obtain ⟨a, ha⟩ := key k hk
    exact h.2 k _ ha
/-- a new object: the next cell -/
theorem pw_newo {X : CX} {D : va_G} {t : ClassId × ClassId × ClassId × ClassId} {as : List Nat} {lay : List PD} {cc : ByteArray} {own : String} {nL : Nat} {ret : Option FieldType} {d : Nat} {cs : Nat × Nat} {Z : State → Prop} {pc : Nat} {st : List Value} {M : Mem} (C : CXok X (KL D t as) lay cc own nL ret d) {L : List (Option Value)} {ci idx N : Nat} {codes : List Nat} {Cn : String} {T : u_T} (hci : vwCl[ci]? = some (Cn, T, N)) (hin : ∀ w ∈ u_ws Cn T N, w ∈ wsL_law0) (ty : Nat → FieldType) (hty : ∀ k, k < N → parseFieldDescriptor (T k).2.2.1 = some (ty k)) (hl9 : as.length = lay.length) (ho : okc lay = true) (hc9 : codes.all (fun c => decide (c ≤ 1)) = true) (hm : ∀ j, M lay.length j = 0) (hfs : ∀ j, j < N → defaultValue (ty j) = vp_V (dfl codes) j)
    (h1 : Cond.classLink own idx Cn ∈ wsL_law0) (h2 : Cond.instantiable Cn N ∈ wsL_law0) (h3 : Cond.initialized Cn ∈ wsL_law0) (hcs : cs.1 + 1 ≤ X.2.2.2.1.cells ∧ cs.2 + N ≤ X.2.2.2.1.slots) (hd : decode cc pc = .ok (.new idx, 3))
    (kk : ∀ q : Nat, CXok X (KL D t (as ++ [q])) (lay ++ [(0, ci, codes)]) cc own nL ret d → PW X (KL D t (as ++ [q])) (lay ++ [(0, ci, codes)]) nL (cs.1 + 1, cs.2 + N) Z (pc + 3) L (Value.ref q :: st) M) : PW X (KL D t as) lay nL cs Z pc L st M := by
  obtain ⟨p, l, e, R, s, m, args, below, meth, c0, A⟩ := X
  obtain ⟨hx, hb, hml, hown, hts, hK, hinj, hAk, hA, hlk, hrt, hfr, hlo⟩ := C
  intro H locs ls hP hS hl
  refine va_new (D := D) (ci := ci) (fs := dfl codes) (C := Cn) (T := T) (N := N) hx hb hts hin ty hty hown (hts _ h1) (hts _ h2) (hts _ h3) hK hP (wld_D hinj hAk) hS hA hci hfs hcs.1 hcs.2 hd (fun q H1 hP1 hD1 hS1 => ?_)
  have e := wld_snoc (D := D) (t := t) (q := q) (d := (0, ci, codes)) (M := M) hl9 ho
  rw [cE_dfl hc9 hm] at e
  rw [← e] at hP1 hD1
  obtain ⟨i1, i2⟩ := D_inj hD1
  exact kk q ⟨hx, hb, hml, hown, hts, hK, i1, i2, hA, hlk, hrt, hfr, hlo⟩ H1 locs ls hP1 hS1 hl
theorem pw_newi {X : CX} {D : va_G} {t : ClassId × ClassId × ClassId × ClassId} {as : List Nat} {lay : List PD} {cc : ByteArray} {own : String} {nL : Nat} {ret : Option FieldType} {d : Nat} {cs : Nat × Nat} {Z : State → Prop} {pc : Nat} {st : List Value} {M : Mem} (C : CXok X (KL D t as) lay cc own nL ret d) {L : List (Option Value)} {n : Nat} (hl9 : as.length = lay.length) (ho : okc lay = true) (hm : ∀ j, M lay.length j = 0) (hn : n < 1000000) (h1 : Cond.arrayClass .int ∈ wsL_law0) (hcs : cs.1 + 1 ≤ X.2.2.2.1.cells ∧ cs.2 + n ≤ X.2.2.2.1.slots) (hd : decode cc pc = .ok (.newarray .int, 2))
    (kk : ∀ q : Nat, CXok X (KL D t (as ++ [q])) (lay ++ [(1, n, [])]) cc own nL ret d → PW X (KL D t (as ++ [q])) (lay ++ [(1, n, [])]) nL (cs.1 + 1, cs.2 + n) Z (pc + 2) L (Value.ref q :: st) M) : PW X (KL D t as) lay nL cs Z pc L (iV (n : Int) :: st) M := by
  obtain ⟨p, l, e, R, s, m, args, below, meth, c0, A⟩ := X
  obtain ⟨hx, hb, hml, hown, hts, hK, hinj, hAk, hA, hlk, hrt, hfr, hlo⟩ := C
  intro H locs ls hP hS hl
  have hlo9 : ¬ Int32.ofInt (n : Int) < 0 := by
    rw [Int32.lt_iff_toInt_lt, Int32.toInt_ofInt_of_le (by omega) (by omega)]
    simp
  refine va_newa (D := D) (atype := .int) (ty := .int) (a0 := (n, .inl (fun _ => (0 : Int32)))) (n := Int32.ofInt (n : Int)) (N' := n) hx hb (hts _ h1) rfl hK hP (wld_D hinj hAk) hS hA (fun cA => rfl) hlo9 (by rw [i32_clamp (by omega)]; omega) (by show n * 4 ≤ 536870912; omega) hcs.1 hcs.2 hd (fun q cA H1 hK1 hP1 hD1 hS1 => ?_)
  have hcA : cA = t.1 := by
    have q1 : va_RA s cA .int := (hK1.2 4 (cA, .int) rfl).2
    have q2 : va_RA s t.1 .int := (hK.2 0 (t.1, .int) rfl).2
    exact Option.some.inj (Eq.trans (Eq.symm q1) q2)
  subst hcA
  have e := wld_snoc (D := D) (t := t) (q := q) (d := (1, n, [])) (M := M) hl9 ho
  have e2 : cE (KL D t (as ++ [q])) (1, n, []) (M lay.length) = .inl (t.1, n, .inl (fun _ => (0 : Int32))) := by
    show Sum.inl (t.1, n, Sum.inl (fun j : Nat => Int32.ofInt (M lay.length (j : Int)))) = _
    simp only [hm]
    rfl
  rw [e2] at e
  rw [← e] at hP1 hD1
  obtain ⟨i1, i2⟩ := D_inj hD1
  exact kk q ⟨hx, hb, hml, hown, hts, hK, i1, i2, hA, hlk, hrt, hfr, hlo⟩ H1 locs ls hP1 hS1 hl
theorem pw_newb {X : CX} {D : va_G} {t : ClassId × ClassId × ClassId × ClassId} {as : List Nat} {lay : List PD} {cc : ByteArray} {own : String} {nL : Nat} {ret : Option FieldType} {d : Nat} {cs : Nat × Nat} {Z : State → Prop} {pc : Nat} {st : List Value} {M : Mem} (C : CXok X (KL D t as) lay cc own nL ret d) {L : List (Option Value)} {n : Nat} (hl9 : as.length = lay.length) (ho : okc lay = true) (hm : ∀ j, M lay.length j = 0) (hn : n < 1000000) (h1 : Cond.arrayClass .byte ∈ wsL_law0) (hcs : cs.1 + 1 ≤ X.2.2.2.1.cells ∧ cs.2 + n ≤ X.2.2.2.1.slots) (hd : decode cc pc = .ok (.newarray .byte, 2))
    (kk : ∀ q : Nat, CXok X (KL D t (as ++ [q])) (lay ++ [(2, n, [])]) cc own nL ret d → PW X (KL D t (as ++ [q])) (lay ++ [(2, n, [])]) nL (cs.1 + 1, cs.2 + n) Z (pc + 2) L (Value.ref q :: st) M) : PW X (KL D t as) lay nL cs Z pc L (iV (n : Int) :: st) M := by
  obtain ⟨p, l, e, R, s, m, args, below, meth, c0, A⟩ := X
  obtain ⟨hx, hb, hml, hown, hts, hK, hinj, hAk, hA, hlk, hrt, hfr, hlo⟩ := C
  intro H locs ls hP hS hl
  have hlo9 : ¬ Int32.ofInt (n : Int) < 0 := by
    rw [Int32.lt_iff_toInt_lt, Int32.toInt_ofInt_of_le (by omega) (by omega)]
    simp
  refine va_newa (D := D) (atype := .byte) (ty := .byte) (a0 := (n, .inl (fun _ => (0 : Int32)))) (n := Int32.ofInt (n : Int)) (N' := n) hx hb (hts _ h1) rfl hK hP (wld_D hinj hAk) hS hA (fun cA => rfl) hlo9 (by rw [i32_clamp (by omega)]; omega) (by show n * 1 ≤ 536870912; omega) hcs.1 hcs.2 hd (fun q cA H1 hK1 hP1 hD1 hS1 => ?_)
  have hcA : cA = t.2.1 := by
    have q1 : va_RA s cA .byte := (hK1.2 4 (cA, .byte) rfl).2
    have q2 : va_RA s t.2.1 .byte := (hK.2 1 (t.2.1, .byte) rfl).2
    exact Option.some.inj (Eq.trans (Eq.symm q1) q2)
  subst hcA
  have e := wld_snoc (D := D) (t := t) (q := q) (d := (2, n, [])) (M := M) hl9 ho
  have e2 : cE (KL D t (as ++ [q])) (2, n, []) (M lay.length) = .inl (t.2.1, n, .inl (fun _ => (0 : Int32))) := by
    show Sum.inl (t.2.1, n, Sum.inl (fun j : Nat => Int32.ofInt (M lay.length (j : Int)))) = _
    simp only [hm]
    rfl
  rw [e2] at e
  rw [← e] at hP1 hD1
  obtain ⟨i1, i2⟩ := D_inj hD1
  exact kk q ⟨hx, hb, hml, hown, hts, hK, i1, i2, hA, hlk, hrt, hfr, hlo⟩ H1 locs ls hP1 hS1 hl
theorem pw_newz {X : CX} {D : va_G} {t : ClassId × ClassId × ClassId × ClassId} {as : List Nat} {lay : List PD} {cc : ByteArray} {own : String} {nL : Nat} {ret : Option FieldType} {d : Nat} {cs : Nat × Nat} {Z : State → Prop} {pc : Nat} {st : List Value} {M : Mem} (C : CXok X (KL D t as) lay cc own nL ret d) {L : List (Option Value)} {n : Nat} (hl9 : as.length = lay.length) (ho : okc lay = true) (hm : ∀ j, M lay.length j = 0) (hn : n < 1000000) (h1 : Cond.arrayClass .boolean ∈ wsL_law0) (hcs : cs.1 + 1 ≤ X.2.2.2.1.cells ∧ cs.2 + n ≤ X.2.2.2.1.slots) (hd : decode cc pc = .ok (.newarray .boolean, 2))
    (kk : ∀ q : Nat, CXok X (KL D t (as ++ [q])) (lay ++ [(3, n, [])]) cc own nL ret d → PW X (KL D t (as ++ [q])) (lay ++ [(3, n, [])]) nL (cs.1 + 1, cs.2 + n) Z (pc + 2) L (Value.ref q :: st) M) : PW X (KL D t as) lay nL cs Z pc L (iV (n : Int) :: st) M := by
  obtain ⟨p, l, e, R, s, m, args, below, meth, c0, A⟩ := X
  obtain ⟨hx, hb, hml, hown, hts, hK, hinj, hAk, hA, hlk, hrt, hfr, hlo⟩ := C
  intro H locs ls hP hS hl
  have hlo9 : ¬ Int32.ofInt (n : Int) < 0 := by
    rw [Int32.lt_iff_toInt_lt, Int32.toInt_ofInt_of_le (by omega) (by omega)]
    simp
  refine va_newa (D := D) (atype := .boolean) (ty := .boolean) (a0 := (n, .inl (fun _ => (0 : Int32)))) (n := Int32.ofInt (n : Int)) (N' := n) hx hb (hts _ h1) rfl hK hP (wld_D hinj hAk) hS hA (fun cA => rfl) hlo9 (by rw [i32_clamp (by omega)]; omega) (by show n * 1 ≤ 536870912; omega) hcs.1 hcs.2 hd (fun q cA H1 hK1 hP1 hD1 hS1 => ?_)
  have hcA : cA = t.2.2.1 := by
    have q1 : va_RA s cA .boolean := (hK1.2 4 (cA, .boolean) rfl).2
    have q2 : va_RA s t.2.2.1 .boolean := (hK.2 2 (t.2.2.1, .boolean) rfl).2
    exact Option.some.inj (Eq.trans (Eq.symm q1) q2)
  subst hcA
  have e := wld_snoc (D := D) (t := t) (q := q) (d := (3, n, [])) (M := M) hl9 ho
  have e2 : cE (KL D t (as ++ [q])) (3, n, []) (M lay.length) = .inl (t.2.2.1, n, .inl (fun _ => (0 : Int32))) := by
    show Sum.inl (t.2.2.1, n, Sum.inl (fun j : Nat => Int32.ofInt (M lay.length (j : Int)))) = _
    simp only [hm]
    rfl
  rw [e2] at e
  rw [← e] at hP1 hD1
  obtain ⟨i1, i2⟩ := D_inj hD1
  exact kk q ⟨hx, hb, hml, hown, hts, hK, i1, i2, hA, hlk, hrt, hfr, hlo⟩ H1 locs ls hP1 hS1 hl
theorem pw_newl {X : CX} {D : va_G} {t : ClassId × ClassId × ClassId × ClassId} {as : List Nat} {lay : List PD} {cc : ByteArray} {own : String} {nL : Nat} {ret : Option FieldType} {d : Nat} {cs : Nat × Nat} {Z : State → Prop} {pc : Nat} {st : List Value} {M : Mem} (C : CXok X (KL D t as) lay cc own nL ret d) {L : List (Option Value)} {n : Nat} (hl9 : as.length = lay.length) (ho : okc lay = true) (hm : ∀ j, M lay.length j = 0) (hn : n < 1000000) (h1 : Cond.arrayClass .long ∈ wsL_law0) (hcs : cs.1 + 1 ≤ X.2.2.2.1.cells ∧ cs.2 + n ≤ X.2.2.2.1.slots) (hd : decode cc pc = .ok (.newarray .long, 2))
    (kk : ∀ q : Nat, CXok X (KL D t (as ++ [q])) (lay ++ [(4, n, [])]) cc own nL ret d → PW X (KL D t (as ++ [q])) (lay ++ [(4, n, [])]) nL (cs.1 + 1, cs.2 + n) Z (pc + 2) L (Value.ref q :: st) M) : PW X (KL D t as) lay nL cs Z pc L (iV (n : Int) :: st) M := by
  obtain ⟨p, l, e, R, s, m, args, below, meth, c0, A⟩ := X
  obtain ⟨hx, hb, hml, hown, hts, hK, hinj, hAk, hA, hlk, hrt, hfr, hlo⟩ := C
  intro H locs ls hP hS hl
  have hlo9 : ¬ Int32.ofInt (n : Int) < 0 := by
    rw [Int32.lt_iff_toInt_lt, Int32.toInt_ofInt_of_le (by omega) (by omega)]
    simp
  refine va_newa (D := D) (atype := .long) (ty := .long) (a0 := (n, .inr (.inl (fun _ => (0 : Int64))))) (n := Int32.ofInt (n : Int)) (N' := n) hx hb (hts _ h1) rfl hK hP (wld_D hinj hAk) hS hA (fun cA => rfl) hlo9 (by rw [i32_clamp (by omega)]; omega) (by show n * 8 ≤ 536870912; omega) hcs.1 hcs.2 hd (fun q cA H1 hK1 hP1 hD1 hS1 => ?_)
  have hcA : cA = t.2.2.2 := by
    have q1 : va_RA s cA .long := (hK1.2 4 (cA, .long) rfl).2
    have q2 : va_RA s t.2.2.2 .long := (hK.2 3 (t.2.2.2, .long) rfl).2
    exact Option.some.inj (Eq.trans (Eq.symm q1) q2)
  subst hcA
  have e := wld_snoc (D := D) (t := t) (q := q) (d := (4, n, [])) (M := M) hl9 ho
  have e2 : cE (KL D t (as ++ [q])) (4, n, []) (M lay.length) = .inl (t.2.2.2, n, .inr (.inl (fun _ => (0 : Int64)))) := by
    show Sum.inl (t.2.2.2, n, Sum.inr (Sum.inl (fun j : Nat => Int64.ofInt (M lay.length (j : Int))))) = _
    simp only [hm]
    rfl
  rw [e2] at e
  rw [← e] at hP1 hD1
  obtain ⟨i1, i2⟩ := D_inj hD1
  exact kk q ⟨hx, hb, hml, hown, hts, hK, i1, i2, hA, hlk, hrt, hfr, hlo⟩ H1 locs ls hP1 hS1 hl
