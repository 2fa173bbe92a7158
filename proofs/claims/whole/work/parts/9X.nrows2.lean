def NM (X : CX) : Prop := match X with
  | (_, _, _, _, _, _, _, _, meth, _, _) => meth.name = "<init>"
theorem pw_putFI {X : CX} {K : KX} {lay : List PD} {cc : ByteArray} {own : String} {nL : Nat} {ret : Option FieldType} {d : Nat} {cs : Nat × Nat} {Z : State → Prop} {pc : Nat} {st : List Value} {M : Mem} (C : CXok X K lay cc own nL ret d) {L : List (Option Value)} {k ci idx N : Nat} {codes : List Nat} {Cn : String} {T : u_T} (hlay : lay[k]? = some (0, ci, codes)) (hci : vwCl[ci]? = some (Cn, T, N)) (hin : ∀ w ∈ u_ws Cn T N, w ∈ wsL_law0) (ty0 : Nat → FieldType) (hty : ∀ k, k < N → parseFieldDescriptor (T k).2.2.1 = some (ty0 k)) (hnm : ∀ a, a < N → ∀ b, b < N → a ≠ b → (T a).2.1 ≠ (T b).2.1)
    (j : Nat) (hj : j < N) (hcode : codes[j]? = some 0) (hfin : (T j).2.2.2 = true) (hnam : NM X) (hdecl : (T j).1 = own) {z : Int} (hn : narrow (ty0 j) (iV z) = iV z) (hfit : fits (ty0 j) (iV z) = true)
    (hlink : Cond.fieldLink own idx (T j).1 (T j).2.1 (T j).2.2.1 ∈ wsL_law0) (hd : decode cc pc = .ok (.putfield idx, 3)) (kk : PW X K lay nL cs Z (pc + 3) L st (up2 M k (j : Int) z)) : PW X K lay nL cs Z pc L (iV z :: rV K k :: st) M := by
  obtain ⟨p, l, e, R, s, m, args, below, meth, c0, A⟩ := X
  obtain ⟨hx, hb, hml, hown, hts, hK, hinj, hAk, hA, hlk, hrt, hfr, hlo⟩ := C
  intro H locs ls hP hS hl
  have hjl : j < codes.length := (List.getElem?_eq_some_iff.mp hcode).1
  refine va_putF (D := K.1) (ci := ci) (v := iV z) (ty := ty0 j) (C := Cn) (T := T) (N := N) hx hb hts hin ty0 hty hnm hown hK hP (wld_D hinj hAk) hS k (wld_get hlay) hci j hj (hts _ hlink) (fun _ h => h) hfin hnam hdecl (hty j hj) hn hfit (by rw [List.length_mapIdx]; exact hjl) hd (fun H1 locs1 hP1 hD1 hS1 => ?_)
  refine kk H1 locs1 ls ?_ hS1 hl
  have e1 := wld_set (K := K) (lay := lay) (M := M) (M' := up2 M k (j : Int) z) hlay (fun a ha => up2_ne ha)
  rw [← e1]
  have e2 : cE K (0, ci, codes) (up2 M k (j : Int) z k) = .inr (ci, (codes.mapIdx (fun i c => fV K (M k) i c)).set j (iV z)) := by
    show Sum.inr (ci, codes.mapIdx (fun i c => fV K (up2 M k (j : Int) z k) i c)) = _
    rw [up2_eq, fs_set hcode]
  rw [e2]
  exact hP1
theorem wld_ref {K : KX} {lay : List PD} {M : Mem} {k ci j q : Nat} {codes : List Nat} (hlay : lay[k]? = some (0, ci, codes)) : (wld K lay M).set k (K.2.2 k, .inr (ci, (codes.mapIdx (fun i c => fV K (M k) i c)).set j (rV K q))) = wld K (lay.set k (0, ci, codes.set j (q + 2))) M := by
  have hk : k < lay.length := (List.getElem?_eq_some_iff.mp hlay).1
  apply List.ext_getElem?
  intro i
  rw [List.getElem?_set]
  by_cases hi : k = i
  · subst hi
    rw [if_pos rfl, if_pos (by rw [wld_len]; exact hk), wld_get (d := (0, ci, codes.set j (q + 2))) (by rw [List.getElem?_set, if_pos rfl, if_pos hk])]
    show some (_, Sum.inr (ci, _)) = some (_, Sum.inr (ci, codes.set j (q + 2) |>.mapIdx _))
    congr 4
    apply List.ext_getElem?
    intro i
    rw [List.getElem?_set, List.getElem?_mapIdx, List.getElem?_mapIdx, List.getElem?_set, List.length_mapIdx]
    by_cases h : j = i
    · subst h
      rw [if_pos rfl, if_pos rfl]
      split <;> rfl
    · rw [if_neg h, if_neg h]
  · rw [if_neg hi]
    unfold wld
    rw [List.getElem?_mapIdx, List.getElem?_mapIdx, List.getElem?_set, if_neg hi]
theorem CX_lay {X : CX} {K : KX} {lay lay' : List PD} {cc : ByteArray} {own : String} {nL : Nat} {ret : Option FieldType} {d : Nat} (C : CXok X K lay cc own nL ret d) (h : lay'.length = lay.length) : CXok X K lay' cc own nL ret d := by
  obtain ⟨p, l, e, R, s, m, args, below, meth, c0, A⟩ := X
  obtain ⟨hx, hb, hml, hown, hts, hK, hinj, hAk, hA, hlk, hrt, hfr, hlo⟩ := C
  exact ⟨hx, hb, hml, hown, hts, hK, fun i j hi hj => hinj i j (h ▸ hi) (h ▸ hj), fun k hk => hAk k (h ▸ hk), hA, hlk, hrt, hfr, hlo⟩
theorem pw_putR {X : CX} {K : KX} {lay : List PD} {cc : ByteArray} {own : String} {nL : Nat} {ret : Option FieldType} {d : Nat} {cs : Nat × Nat} {Z : State → Prop} {pc : Nat} {st : List Value} {M : Mem} (C : CXok X K lay cc own nL ret d) {L : List (Option Value)} {k ci idx N : Nat} {codes : List Nat} {Cn : String} {T : u_T} (hlay : lay[k]? = some (0, ci, codes)) (hci : vwCl[ci]? = some (Cn, T, N)) (hin : ∀ w ∈ u_ws Cn T N, w ∈ wsL_law0) (ty0 : Nat → FieldType) (hty : ∀ k, k < N → parseFieldDescriptor (T k).2.2.1 = some (ty0 k)) (hnm : ∀ a, a < N → ∀ b, b < N → a ≠ b → (T a).2.1 ≠ (T b).2.1)
    (j : Nat) (hj : j < N) (q : Nat) (hfin : (T j).2.2.2 = true) (hnam : NM X) (hdecl : (T j).1 = own) (hn : narrow (ty0 j) (rV K q) = rV K q) (hfit : fits (ty0 j) (rV K q) = true) (hjl : j < codes.length)
    (hlink : Cond.fieldLink own idx (T j).1 (T j).2.1 (T j).2.2.1 ∈ wsL_law0) (hd : decode cc pc = .ok (.putfield idx, 3)) (kk : CXok X K (lay.set k (0, ci, codes.set j (q + 2))) cc own nL ret d → PW X K (lay.set k (0, ci, codes.set j (q + 2))) nL cs Z (pc + 3) L st M) : PW X K lay nL cs Z pc L (rV K q :: rV K k :: st) M := by
  have C9 := CX_lay (lay' := lay.set k (0, ci, codes.set j (q + 2))) C (List.length_set ..)
  have kk := kk C9
  obtain ⟨p, l, e, R, s, m, args, below, meth, c0, A⟩ := X
  obtain ⟨hx, hb, hml, hown, hts, hK, hinj, hAk, hA, hlk, hrt, hfr, hlo⟩ := C
  intro H locs ls hP hS hl
  refine va_putF (D := K.1) (ci := ci) (v := rV K q) (ty := ty0 j) (C := Cn) (T := T) (N := N) hx hb hts hin ty0 hty hnm hown hK hP (wld_D hinj hAk) hS k (wld_get hlay) hci j hj (hts _ hlink) (fun _ h => h) hfin hnam hdecl (hty j hj) hn hfit (by rw [List.length_mapIdx]; exact hjl) hd (fun H1 locs1 hP1 hD1 hS1 => ?_)
  exact kk H1 locs1 ls (by rw [← wld_ref hlay]; exact hP1) hS1 hl
/-- what a constructor promises: the world as it is at its one call, the cells that come -/
def QN (D : va_G) (t : ClassId × ClassId × ClassId × ClassId) (as : List Nat) (lay lay' : List PD) (M' : Mem) (A : Nat → Prop) : Array Value → State → Outcome → State → Prop := fun _ st oc T => (∃ bs : List Nat, oc = .returned none ∧ bs.length = lay'.length - lay.length ∧ injK (KL D t (as ++ bs)) lay' ∧ (∀ k, k < lay'.length → A ((KL D t (as ++ bs)).2.2 k)) ∧ va_P D vwCl (wld (KL D t (as ++ bs)) lay' M') T.heap) ∧ va_F A st T
def rmN (d mc ms : Nat) : Room := { frames := d, cells := mc, slots := ms, locals := 64 * d }
def PN (D : va_G) (t : ClassId × ClassId × ClassId × ClassId) (as : List Nat) (lay : List PD) (M : Mem) (sz : Nat) (B : State → Prop) : State → Prop := fun U => U.heap.size = sz ∧ va_P D vwCl (wld (KL D t as) lay M) U.heap ∧ va_K D vwCl (tysK (KL D t as)) U ∧ injK (KL D t as) lay ∧ B U
def NC (l : Launch) (D : va_G) (t : ClassId × ClassId × ClassId × ClassId) (as : List Nat) (lay lay' : List PD) (M M' : Mem) (B : State → Prop) (y : MethodName) (cc : ByteArray) (nL d mc ms : Nat) (av : List Value) : Prop :=
  ∀ sz : Nat, Met l y (.code y cc nL none :: wsL_law0) (rmN d mc ms) (va_Pc av (PN D t as lay M sz B)) (QN D t as lay lay' M' (AK (KL D t as) lay sz)) mc ms (AK (KL D t as) lay sz)
def BS (X : CX) (B : State → Prop) : Prop := match X with
  | (_, _, _, _, s, _, _, _, _, _, _) => B s
def ZN (X : CX) (D : va_G) (t : ClassId × ClassId × ClassId × ClassId) (as : List Nat) (lay lay' : List PD) (M' : Mem) (mc ms : Nat) : State → Prop := match X with
  | (_, _, _, _, s, _, args, below, _, _, A) => MQ below (QN D t as lay lay' M' A) args s mc ms A
theorem nc_intro {l : Launch} {D : va_G} {t : ClassId × ClassId × ClassId × ClassId} {as : List Nat} {lay lay' : List PD} {M M' : Mem} {B : State → Prop} {y : MethodName} {cc : ByteArray} {nL d mc ms : Nat} {av : List Value} (own : String) (hown : y.cls = own) (hy : plainName y.cls = true) (L : List (Option Value)) (hL : LV0 av nL = L) (hc : ∀ v ∈ av, v.category = 1) (hn : av.length ≤ nL)
    (body : ∀ X : CX, lOf X = l → CXok X (KL D t as) lay cc own nL none d → (y.name = "<init>" → NM X) → X.2.2.2.1.cells = mc → X.2.2.2.1.slots = ms → BS X B → PW X (KL D t as) lay nL (0, 0) (ZN X D t as lay lay' M' mc ms) 0 L [] M) : NC l D t as lay lay' M M' B y cc nL d mc ms av := by
  subst hown
  subst hL
  intro sz
  refine Met.ofW (cc := cc) (maxL := nL) (ret := none) hy rfl ?_
  intro p e s m args below meth c s₁ Bo hml hv
  obtain ⟨rfl, hsz, hP, hK, hinj, hB⟩ := hv
  subst hsz
  have hts := atoms_spec (ws := .code y cc nL none :: wsL_law0) Bo.pre
  have C : CXok (p, l, e, rmN d mc ms, s, m, av.toArray, below, meth, c, AK (KL D t as) lay s.heap.size) (KL D t as) lay cc y.cls nL none d :=
    ⟨Bo.exec, Bo.bytes, hml, findClass_of_methodNamed Bo.named, fun w hw => hts w (List.mem_cons_of_mem _ hw), hK, hinj, fun k hk => Or.inl ⟨k, hk, rfl⟩, fun q h => Or.inr h, Bo.notSynchronized, Bo.returns, Nat.le_refl _, Nat.le_refl _⟩
  exact pw_entry (A := AK (KL D t as) lay s.heap.size) (K := KL D t as) (lay := lay) hc hn hP (body _ rfl C (fun h => ((name_of_methodNamed Bo.named Bo.method).1).trans h) rfl rfl hB)
theorem pw_vretN {X : CX} {D : va_G} {t : ClassId × ClassId × ClassId × ClassId} {as : List Nat} (bs : List Nat) {as' : List Nat} {lay lay' : List PD} {cc : ByteArray} {own : String} {nL d pc mc ms : Nat} {cs : Nat × Nat} {M' : Mem} {L : List (Option Value)} (C : CXok X (KL D t as') lay' cc own nL none d) (has : as' = as ++ bs) (hbs : bs.length = lay'.length - lay.length) (h1 : cs.1 ≤ mc) (h2 : cs.2 ≤ ms) (hd : decode cc pc = .ok (.return_, 1)) : PW X (KL D t as') lay' nL cs (ZN X D t as lay lay' M' mc ms) pc L [] M' := by
  subst has
  obtain ⟨p, l, e, R, s, m, args, below, meth, c0, A⟩ := X
  obtain ⟨hx, hb, hml, hown, hts, hK, hinj, hAk, hA, hlk, hrt, hfr, hlo⟩ := C
  intro H locs ls hP hS hl
  exact W.widen (k := mc) (n := ms) h1 h2 (W.vret hx hb hrt (fun T ht hW => ⟨⟨bs, rfl, hbs, hinj, hAk, by rw [ht]; exact hP⟩, hS.F ht⟩) hS.2.2 hd)
theorem PN_blind {D : va_G} {t : ClassId × ClassId × ClassId × ClassId} {as : List Nat} {lay : List PD} {M : Mem} {sz : Nat} {B : State → Prop} {av : List Value} (hB : ∀ (s U : State), s.WarmedH U.vm → B s → B U) : FrameBlind (va_Pc av (PN D t as lay M sz B)) := by
  intro a U g mk q
  obtain ⟨q0, q1, qP, qK, qD, qB⟩ := q
  exact ⟨q0, q1, qP, va_K.moved (u := U) (U := U.calling g mk a) (Vm.Alike.refl U.vm) qK, qD, hB U (U.calling g mk a) (State.WarmedH.refl U) qB⟩
theorem pw_afterC {p : Program} {l : Launch} {e : Env} {R : Room} {s : State} {m : MethodId} {args : Array Value} {below : List Frame} {meth : Method} {c : Code} {A : Nat → Prop} {D : va_G} {t : ClassId × ClassId × ClassId × ClassId} {as : List Nat} {lay lay' : List PD} {M' : Mem} {cells slots mc ms : Nat} {Z : State → Prop} {pc : Nat} {ls : Array Slot} {st0 rest : List Value} {H : Heap} {locs : List Loc} {a : Array Value}
    (hr : va_Run p l e R s m args below meth c H locs cells slots mc ms (F0 m pc ls st0) rest (QN D t as lay lay' M' (AK (KL D t as) lay H.size) a) (AK (KL D t as) lay H.size)) (hS : va_S A s.heap H locs) (hAk : ∀ k, k < lay.length → A ((KL D t as).2.2 k)) (hA : ∀ q, s.heap.size ≤ q → A q)
    (kk : ∀ (bs : List Nat) (H1 : Heap) (locs1 : List Loc), bs.length = lay'.length - lay.length → injK (KL D t (as ++ bs)) lay' → (∀ k, k < lay'.length → A ((KL D t (as ++ bs)).2.2 k)) → va_P D vwCl (wld (KL D t (as ++ bs)) lay' M') H1 → va_S A s.heap H1 locs1 → W p l e R s m args below meth c H1 locs1 (cells + mc) (slots + ms) Z (F0 m (pc + 3) ls rest)) : W p l e R s m args below meth c H locs cells slots Z (F0 m pc ls st0) := by
  have hAA : ∀ q, AK (KL D t as) lay H.size q → A q := by
    intro q h
    rcases h with ⟨k, hk, rfl⟩ | h
    · exact hAk k hk
    · exact hA q (Nat.le_trans hS.1 h)
  intro T hT X
  obtain ⟨v, st₀, T9, T', Lo, h0, X', hL, e1, e2, ⟨⟨bs, hv, hl9, hi, hk, hP⟩, hF⟩, st⟩ := hr T hT X
  cases hv
  obtain ⟨k1, k2, k3⟩ := vx_keep h0 e1 hS (fun q _ h => hAA q h) hAA hL hF
  obtain ⟨t2, a1, b1⟩ := kk bs T'.heap (locs ++ Lo) hl9 hi (fun k h => hAA _ (hk k h)) (by rw [e1]; exact hP) k3 T' rfl X'
  exact ⟨t2, st t2 a1, b1⟩
def CBI (y : MethodName) (cc : ByteArray) (nL n : Nat) : Prop := Cond.instanceMethod y ∈ wsL_law0 ∧ Cond.initialized y.cls ∈ wsL_law0 ∧ Cond.code y cc nL none ∈ wsL_law0 ∧ (y.cls ≠ "java/lang/invoke/MethodHandle" ∧ y.cls ≠ "java/lang/invoke/VarHandle" ∧ (parseMethodDescriptor y.desc).map (fun d => d.parameters.length) = some n) ∧ nL ≤ 40 ∧ y.name = "<init>"
theorem pw_callN {X : CX} {D : va_G} {t : ClassId × ClassId × ClassId × ClassId} {as : List Nat} {lay : List PD} {cc : ByteArray} {own : String} {nL : Nat} {ret : Option FieldType} {d : Nat} {cs : Nat × Nat} {Z : State → Prop} {pc : Nat} {M : Mem} (C : CXok X (KL D t as) lay cc own nL ret d) {L : List (Option Value)} {lay' : List PD} {M' : Mem} {B : State → Prop} {y : MethodName} {cc' : ByteArray} {nL' d' mc ms n idx : Nat} (b : Nat) (As rest : List Value) (hM : NC (lOf X) D t as lay lay' M M' B y cc' nL' d' mc ms (Value.ref b :: As)) (hB9 : CBI y cc' nL' n) (hBw : ∀ (s U : State), s.WarmedH U.vm → B s → B U) (hBX : BS X B) (hml9 : Cond.methodLink own idx y ∈ wsL_law0) (hd : decode cc pc = .ok (.invokespecial idx, 3)) (hdd : d' < d) (hcs : cs.1 + mc ≤ X.2.2.2.1.cells ∧ cs.2 + ms ≤ X.2.2.2.1.slots) (hn : As.length = n) (hrest : (rest.map fun v => v.category).sum ≤ 8) {st : List Value} (hst : st = As.reverse ++ Value.ref b :: rest)
    (kk : ∀ bs : List Nat, bs.length = lay'.length - lay.length → CXok X (KL D t (as ++ bs)) lay' cc own nL ret d → PW X (KL D t (as ++ bs)) lay' nL (cs.1 + mc, cs.2 + ms) Z (pc + 3) L rest M') : PW X (KL D t as) lay nL cs Z pc L st M := by
  subst hst
  obtain ⟨p, l, e, R, s, m, args, below, meth, c0, A⟩ := X
  obtain ⟨hx, hb, hml, hown, hts, hK, hinj, hAk, hA, hlk, hrt, hfr, hlo⟩ := C
  intro H locs ls hP hS hl
  obtain ⟨b1, b3, b4, b5, b6, b7⟩ := hB9
  have hM := hM H.size
  refine pw_afterC (va_runI (As := As) (rest := rest) (n := n) (b := b) ⟨hx, hb, hml, hown, hts⟩ hM ⟨callB_of n hts (gT_code b4) rfl rfl rfl (hts _ b3) (hts _ hml9) b5 ⟨by show d' + 1 ≤ R.frames; omega, by show 8 + (nL' + 11) + 64 * d' ≤ R.locals; omega⟩, b7, hts _ b1⟩ ⟨PN_blind hBw, fun U hU hW => ⟨rfl, by rw [hU], by rw [hU]; exact hP, va_K.moved hW.alike hK, hinj, hBw s U hW hBX⟩⟩ rfl hn hl.1.1 rfl (lv_room hrest) hd hcs) hS hAk hA (fun bs H1 locs1 hl9 hi hk hP1 hS1 => ?_)
  exact kk bs hl9 ⟨hx, hb, hml, hown, hts, hK, hi, hk, hA, hlk, hrt, hfr, hlo⟩ H1 locs1 ls hP1 hS1 hl
theorem pw_callNN {X : CX} {D : va_G} {t : ClassId × ClassId × ClassId × ClassId} {as : List Nat} {lay : List PD} {cc : ByteArray} {own : String} {nL : Nat} {ret : Option FieldType} {d : Nat} {cs : Nat × Nat} {Z : State → Prop} {pc : Nat} {M : Mem} (C : CXok X (KL D t as) lay cc own nL ret d) {L : List (Option Value)} {lay' : List PD} {M' : Mem} {B : State → Prop} {y : MethodName} {cc' : ByteArray} {nL' d' mc ms n idx : Nat} {host : String} (b : Nat) (As rest : List Value) (hM : NC (lOf X) D t as lay lay' M M' B y cc' nL' d' mc ms (Value.ref b :: As)) (hB9 : CBI y cc' nL' n) (hBw : ∀ (s U : State), s.WarmedH U.vm → B s → B U) (hBX : BS X B) (hml9 : BS X (va_Nw (.methodLinkNest own idx y host))) (hd : decode cc pc = .ok (.invokespecial idx, 3)) (hdd : d' < d) (hcs : cs.1 + mc ≤ X.2.2.2.1.cells ∧ cs.2 + ms ≤ X.2.2.2.1.slots) (hn : As.length = n) (hrest : (rest.map fun v => v.category).sum ≤ 8) {st : List Value} (hst : st = As.reverse ++ Value.ref b :: rest)
    (kk : ∀ bs : List Nat, bs.length = lay'.length - lay.length → CXok X (KL D t (as ++ bs)) lay' cc own nL ret d → PW X (KL D t (as ++ bs)) lay' nL (cs.1 + mc, cs.2 + ms) Z (pc + 3) L rest M') : PW X (KL D t as) lay nL cs Z pc L st M := by
  subst hst
  obtain ⟨p, l, e, R, s, m, args, below, meth, c0, A⟩ := X
  obtain ⟨hx, hb, hml, hown, hts, hK, hinj, hAk, hA, hlk, hrt, hfr, hlo⟩ := C
  intro H locs ls hP hS hl
  obtain ⟨b1, b3, b4, b5, b6, b7⟩ := hB9
  have hM := hM H.size
  refine pw_afterC (va_runIN (As := As) (rest := rest) (n := n) (b := b) ⟨hx, hb, hml, hown, hts⟩ hM ⟨va_cnB n hts (gT_code b4) rfl rfl rfl hml9 (hts _ b3) b5 ⟨by show d' + 1 ≤ R.frames; omega, by show 8 + (nL' + 11) + 64 * d' ≤ R.locals; omega⟩, b7, hts _ b1⟩ ⟨PN_blind hBw, fun U hU hW => ⟨rfl, by rw [hU], by rw [hU]; exact hP, va_K.moved hW.alike hK, hinj, hBw s U hW hBX⟩⟩ rfl hn hl.1.1 rfl (lv_room hrest) hd hcs) hS hAk hA (fun bs H1 locs1 hl9 hi hk hP1 hS1 => ?_)
  exact kk bs hl9 ⟨hx, hb, hml, hown, hts, hK, hi, hk, hA, hlk, hrt, hfr, hlo⟩ H1 locs1 ls hP1 hS1 hl
