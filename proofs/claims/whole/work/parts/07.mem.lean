/-! fields, arrays, calls over the pure memory -/
theorem fs_set {K : KX} {m : Int → Int} {codes : List Nat} {j : Nat} {z : Int} (h : codes[j]? = some 0) :
    codes.mapIdx (fun i c => fV K (fun b => if b = (j : Int) then z else m b) i c) = (codes.mapIdx (fun i c => fV K m i c)).set j (iV z) := by
  apply List.ext_getElem?
  intro i
  rw [List.getElem?_set, List.getElem?_mapIdx, List.getElem?_mapIdx]
  have hj : j < codes.length := (List.getElem?_eq_some_iff.mp h).1
  by_cases hi : j = i
  · subst hi
    rw [if_pos rfl, if_pos (by rw [List.length_mapIdx]; exact hj), h]
    show some (iV (if (j : Int) = (j : Int) then z else m (j : Int))) = some (iV z)
    rw [if_pos rfl]
  · rw [if_neg hi]
    cases hc : codes[i]? with
    | none => rfl
    | some c =>
      show some (fV K _ i c) = some (fV K m i c)
      congr 1
      match c with
      | 0 =>
        show iV (if (i : Int) = (j : Int) then z else m (i : Int)) = iV (m (i : Int))
        rw [if_neg (by omega)]
      | 1 => rfl
      | t + 2 => rfl
theorem pw_get0 {X : CX} {K : KX} {lay : List PD} {cc : ByteArray} {own : String} {nL : Nat} {ret : Option FieldType} {d : Nat} {cs : Nat × Nat} {Z : State → Prop} {pc : Nat} {st : List Value} {M : Mem} (C : CXok X K lay cc own nL ret d) {L : List (Option Value)}
    {k ci idx N : Nat} {codes : List Nat} {Cn : String} {T : u_T} (hlay : lay[k]? = some (0, ci, codes)) (hci : vwCl[ci]? = some (Cn, T, N)) (hin : ∀ w ∈ u_ws Cn T N, w ∈ wsL_law0) (j : Nat) (hj : j < N) {c : Nat} (hcode : codes[j]? = some c)
    (hlink : Cond.fieldLink own idx (T j).1 (T j).2.1 (T j).2.2.1 ∈ wsL_law0) (hd : decode cc pc = .ok (.getfield idx, 3)) (kk : PW X K lay nL cs Z (pc + 3) L (fV K (M k) j c :: st) M) : PW X K lay nL cs Z pc L (rV K k :: st) M := by
  obtain ⟨p, l, e, R, s, m, args, below, meth, c0, A⟩ := X
  obtain ⟨hx, hb, hml, hown, hts, hK, hinj, hAk, hA, hlk, hrt, hfr, hlo⟩ := C
  intro H locs ls hP hS hl
  exact va_get (D := K.1) (ci := ci) (v := fV K (M k) j c) (C := Cn) (T := T) (N := N) hx hb hts hin hown hK hP k (wld_get hlay) hci j hj (hts _ hlink) (fun _ h => h) (by rw [List.getElem?_mapIdx, hcode]; rfl) hd (kk H locs ls hP hS hl)
theorem pw_put0 {X : CX} {K : KX} {lay : List PD} {cc : ByteArray} {own : String} {nL : Nat} {ret : Option FieldType} {d : Nat} {cs : Nat × Nat} {Z : State → Prop} {pc : Nat} {st : List Value} {M : Mem} (C : CXok X K lay cc own nL ret d) {L : List (Option Value)}
    {k ci idx N : Nat} {codes : List Nat} {Cn : String} {T : u_T} (hlay : lay[k]? = some (0, ci, codes)) (hci : vwCl[ci]? = some (Cn, T, N)) (hin : ∀ w ∈ u_ws Cn T N, w ∈ wsL_law0) (ty0 : Nat → FieldType) (hty : ∀ k, k < N → parseFieldDescriptor (T k).2.2.1 = some (ty0 k)) (hnm : ∀ a, a < N → ∀ b, b < N → a ≠ b → (T a).2.1 ≠ (T b).2.1)
    (j : Nat) (hj : j < N) (hcode : codes[j]? = some 0) (hfin : (T j).2.2.2 = false) {z : Int} (hn : narrow (ty0 j) (iV z) = iV z) (hfit : fits (ty0 j) (iV z) = true)
    (hlink : Cond.fieldLink own idx (T j).1 (T j).2.1 (T j).2.2.1 ∈ wsL_law0) (hd : decode cc pc = .ok (.putfield idx, 3)) (kk : PW X K lay nL cs Z (pc + 3) L st (up2 M k (j : Int) z)) : PW X K lay nL cs Z pc L (iV z :: rV K k :: st) M := by
  obtain ⟨p, l, e, R, s, m, args, below, meth, c0, A⟩ := X
  obtain ⟨hx, hb, hml, hown, hts, hK, hinj, hAk, hA, hlk, hrt, hfr, hlo⟩ := C
  intro H locs ls hP hS hl
  have hjl : j < codes.length := (List.getElem?_eq_some_iff.mp hcode).1
  refine va_put (D := K.1) (ci := ci) (v := iV z) (ty := ty0 j) (C := Cn) (T := T) (N := N) hx hb hts hin ty0 hty hnm hown hK hP (wld_D hinj hAk) hS k (wld_get hlay) hci j hj (hts _ hlink) (fun _ h => h) hfin (hty j hj) hn hfit (by rw [List.length_mapIdx]; exact hjl) hd (fun H1 locs1 hP1 hD1 hS1 => ?_)
  refine kk H1 locs1 ls ?_ hS1 hl
  have e1 := wld_set (K := K) (lay := lay) (M := M) (M' := up2 M k (j : Int) z) hlay (fun a ha => up2_ne ha)
  rw [← e1]
  have e2 : cE K (0, ci, codes) (up2 M k (j : Int) z k) = .inr (ci, (codes.mapIdx (fun i c => fV K (M k) i c)).set j (iV z)) := by
    show Sum.inr (ci, codes.mapIdx (fun i c => fV K (up2 M k (j : Int) z k) i c)) = _
    rw [up2_eq, fs_set hcode]
  rw [e2]
  exact hP1
theorem upd_of {m : Int → Int} {z v : Int} (hz : 0 ≤ z ∧ z ≤ 2147483647) : (fun j : Nat => Int32.ofInt ((fun b => if b = z then v else m b) (j : Int))) = upd (fun j : Nat => Int32.ofInt (m (j : Int))) (Int32.ofInt z).toNatClampNeg (Int32.ofInt v) := by
  rw [i32_clamp hz]
  funext j
  unfold upd
  by_cases h : j = z.toNat
  · rw [if_pos h]
    show Int32.ofInt (if (j : Int) = z then v else m (j : Int)) = _
    rw [if_pos (by omega)]
  · rw [if_neg h]
    show Int32.ofInt (if (j : Int) = z then v else m (j : Int)) = _
    rw [if_neg (by omega)]
theorem pw_iaload {X : CX} {K : KX} {lay : List PD} {cc : ByteArray} {own : String} {nL : Nat} {ret : Option FieldType} {d : Nat} {cs : Nat × Nat} {Z : State → Prop} {pc : Nat} {st : List Value} {M : Mem} (C : CXok X K lay cc own nL ret d) {L : List (Option Value)} {k n : Nat} {z : Int} (hlay : lay[k]? = some (1, n, [])) (hz : 0 ≤ z ∧ z < (n : Int)) (hn : n < 2147483648) (hd : decode cc pc = .ok (.iaload, 1))
    (kk : PW X K lay nL cs Z (pc + 1) L (iV (M k z) :: st) M) : PW X K lay nL cs Z pc L (iV z :: rV K k :: st) M := by
  obtain ⟨p, l, e, R, s, m, args, below, meth, c0, A⟩ := X
  obtain ⟨hx, hb, hml, hown, hts, hK, hinj, hAk, hA, hlk, hrt, hfr, hlo⟩ := C
  intro H locs ls hP hS hl
  refine va_iald (D := K.1) hx hb hK hP k 0 (wld_get hlay) rfl (i32_in hz hn) hd ?_
  have e1 : (((Int32.ofInt z).toNatClampNeg : Nat) : Int) = z := by rw [i32_clamp (by omega)]; omega
  rw [e1]
  exact kk H locs ls hP hS hl
theorem pw_baload {X : CX} {K : KX} {lay : List PD} {cc : ByteArray} {own : String} {nL : Nat} {ret : Option FieldType} {d : Nat} {cs : Nat × Nat} {Z : State → Prop} {pc : Nat} {st : List Value} {M : Mem} (C : CXok X K lay cc own nL ret d) {L : List (Option Value)} {k n : Nat} {z : Int} (hlay : lay[k]? = some (2, n, [])) (hz : 0 ≤ z ∧ z < (n : Int)) (hn : n < 2147483648) (hd : decode cc pc = .ok (.baload, 1))
    (kk : PW X K lay nL cs Z (pc + 1) L (iV (M k z) :: st) M) : PW X K lay nL cs Z pc L (iV z :: rV K k :: st) M := by
  obtain ⟨p, l, e, R, s, m, args, below, meth, c0, A⟩ := X
  obtain ⟨hx, hb, hml, hown, hts, hK, hinj, hAk, hA, hlk, hrt, hfr, hlo⟩ := C
  intro H locs ls hP hS hl
  refine va_bald (D := K.1) hx hb hK hP k 1 (wld_get hlay) rfl (i32_in hz hn) hd ?_
  have e1 : (((Int32.ofInt z).toNatClampNeg : Nat) : Int) = z := by rw [i32_clamp (by omega)]; omega
  rw [e1]
  exact kk H locs ls hP hS hl
theorem pw_zaload {X : CX} {K : KX} {lay : List PD} {cc : ByteArray} {own : String} {nL : Nat} {ret : Option FieldType} {d : Nat} {cs : Nat × Nat} {Z : State → Prop} {pc : Nat} {st : List Value} {M : Mem} (C : CXok X K lay cc own nL ret d) {L : List (Option Value)} {k n : Nat} {z : Int} (hlay : lay[k]? = some (3, n, [])) (hz : 0 ≤ z ∧ z < (n : Int)) (hn : n < 2147483648) (hd : decode cc pc = .ok (.baload, 1))
    (kk : PW X K lay nL cs Z (pc + 1) L (iV (M k z) :: st) M) : PW X K lay nL cs Z pc L (iV z :: rV K k :: st) M := by
  obtain ⟨p, l, e, R, s, m, args, below, meth, c0, A⟩ := X
  obtain ⟨hx, hb, hml, hown, hts, hK, hinj, hAk, hA, hlk, hrt, hfr, hlo⟩ := C
  intro H locs ls hP hS hl
  refine va_zald (D := K.1) hx hb hK hP k 2 (wld_get hlay) rfl (i32_in hz hn) hd ?_
  have e1 : (((Int32.ofInt z).toNatClampNeg : Nat) : Int) = z := by rw [i32_clamp (by omega)]; omega
  rw [e1]
  exact kk H locs ls hP hS hl
theorem pw_iastore {X : CX} {K : KX} {lay : List PD} {cc : ByteArray} {own : String} {nL : Nat} {ret : Option FieldType} {d : Nat} {cs : Nat × Nat} {Z : State → Prop} {pc : Nat} {st : List Value} {M : Mem} (C : CXok X K lay cc own nL ret d) {L : List (Option Value)} {k n : Nat} {z v : Int} (hlay : lay[k]? = some (1, n, [])) (hz : 0 ≤ z ∧ z < (n : Int)) (hn : n < 2147483648) (hd : decode cc pc = .ok (.iastore, 1))
    (kk : PW X K lay nL cs Z (pc + 1) L st (up2 M k z v)) : PW X K lay nL cs Z pc L (iV v :: iV z :: rV K k :: st) M := by
  obtain ⟨p, l, e, R, s, m, args, below, meth, c0, A⟩ := X
  obtain ⟨hx, hb, hml, hown, hts, hK, hinj, hAk, hA, hlk, hrt, hfr, hlo⟩ := C
  intro H locs ls hP hS hl
  refine va_iast (D := K.1) hx hb hK hP (wld_D hinj hAk) hS k 0 (wld_get hlay) rfl (i32_in hz hn) hd (fun H1 locs1 hP1 hD1 hS1 => ?_)
  refine kk H1 locs1 ls ?_ hS1 hl
  have e1 := wld_set (K := K) (lay := lay) (M := M) (M' := up2 M k z v) hlay (fun a ha => up2_ne ha)
  rw [← e1]
  have e2 : cE K (1, n, []) (up2 M k z v k) = .inl (K.2.1.1, n, .inl (upd (fun j : Nat => Int32.ofInt (M k (j : Int))) (Int32.ofInt z).toNatClampNeg (Int32.ofInt v))) := by
    show Sum.inl (_, n, Sum.inl (fun j : Nat => Int32.ofInt (up2 M k z v k (j : Int)))) = _
    rw [up2_eq, ← upd_of (by omega)]
  rw [e2]
  exact hP1
theorem pw_bastore {X : CX} {K : KX} {lay : List PD} {cc : ByteArray} {own : String} {nL : Nat} {ret : Option FieldType} {d : Nat} {cs : Nat × Nat} {Z : State → Prop} {pc : Nat} {st : List Value} {M : Mem} (C : CXok X K lay cc own nL ret d) {L : List (Option Value)} {k n : Nat} {z v : Int} (hlay : lay[k]? = some (2, n, [])) (hz : 0 ≤ z ∧ z < (n : Int)) (hn : n < 2147483648) (hv : -128 ≤ v ∧ v ≤ 127) (hd : decode cc pc = .ok (.bastore, 1))
    (kk : PW X K lay nL cs Z (pc + 1) L st (up2 M k z v)) : PW X K lay nL cs Z pc L (iV v :: iV z :: rV K k :: st) M := by
  obtain ⟨p, l, e, R, s, m, args, below, meth, c0, A⟩ := X
  obtain ⟨hx, hb, hml, hown, hts, hK, hinj, hAk, hA, hlk, hrt, hfr, hlo⟩ := C
  intro H locs ls hP hS hl
  refine va_bast (D := K.1) hx hb hK hP (wld_D hinj hAk) hS k 1 (wld_get hlay) rfl (i32_in hz hn) hd (fun H1 locs1 hP1 hD1 hS1 => ?_)
  refine kk H1 locs1 ls ?_ hS1 hl
  have e0 : vp_nar .byte (Int32.ofInt v) = Int32.ofInt v := by
    rw [vp_nar_byte]
    apply Int32.toInt_inj.mp
    rw [Int8.toInt_toInt32, Int32.toInt_toInt8, i32_rng (by omega), Int.bmod_def]
    have e1 : ((2 ^ 8 : Nat) : Int) = 256 := by decide
    rw [e1]
    split <;> omega
  rw [e0] at hP1
  have e1 := wld_set (K := K) (lay := lay) (M := M) (M' := up2 M k z v) hlay (fun a ha => up2_ne ha)
  rw [← e1]
  have e2 : cE K (2, n, []) (up2 M k z v k) = .inl (K.2.1.2.1, n, .inl (upd (fun j : Nat => Int32.ofInt (M k (j : Int))) (Int32.ofInt z).toNatClampNeg (Int32.ofInt v))) := by
    show Sum.inl (_, n, Sum.inl (fun j : Nat => Int32.ofInt (up2 M k z v k (j : Int)))) = _
    rw [up2_eq, ← upd_of (by omega)]
  rw [e2]
  exact hP1
theorem pw_zastore {X : CX} {K : KX} {lay : List PD} {cc : ByteArray} {own : String} {nL : Nat} {ret : Option FieldType} {d : Nat} {cs : Nat × Nat} {Z : State → Prop} {pc : Nat} {st : List Value} {M : Mem} (C : CXok X K lay cc own nL ret d) {L : List (Option Value)} {k n : Nat} {z v : Int} (hlay : lay[k]? = some (3, n, [])) (hz : 0 ≤ z ∧ z < (n : Int)) (hn : n < 2147483648) (hv : v = 0 ∨ v = 1) (hd : decode cc pc = .ok (.bastore, 1))
    (kk : PW X K lay nL cs Z (pc + 1) L st (up2 M k z v)) : PW X K lay nL cs Z pc L (iV v :: iV z :: rV K k :: st) M := by
  obtain ⟨p, l, e, R, s, m, args, below, meth, c0, A⟩ := X
  obtain ⟨hx, hb, hml, hown, hts, hK, hinj, hAk, hA, hlk, hrt, hfr, hlo⟩ := C
  intro H locs ls hP hS hl
  refine va_zast (D := K.1) hx hb hK hP (wld_D hinj hAk) hS k 2 (wld_get hlay) rfl (i32_in hz hn) hd (fun H1 locs1 hP1 hD1 hS1 => ?_)
  refine kk H1 locs1 ls ?_ hS1 hl
  have e0 : vp_nar .boolean (Int32.ofInt v) = Int32.ofInt v := by
    rcases hv with rfl | rfl <;> decide
  rw [e0] at hP1
  have e1 := wld_set (K := K) (lay := lay) (M := M) (M' := up2 M k z v) hlay (fun a ha => up2_ne ha)
  rw [← e1]
  have e2 : cE K (3, n, []) (up2 M k z v k) = .inl (K.2.1.2.2.1, n, .inl (upd (fun j : Nat => Int32.ofInt (M k (j : Int))) (Int32.ofInt z).toNatClampNeg (Int32.ofInt v))) := by
    show Sum.inl (_, n, Sum.inl (fun j : Nat => Int32.ofInt (up2 M k z v k (j : Int)))) = _
    rw [up2_eq, ← upd_of (by omega)]
  rw [e2]
  exact hP1
theorem pw_iret {X : CX} {K : KX} {lay : List PD} {cc : ByteArray} {own : String} {nL : Nat} {d pc : Nat} {M : Mem} {Q : Option Value → Mem → Prop} {L : List (Option Value)} (C : CXok X K lay cc own nL (some .int) d) {z : Int} (hd : decode cc pc = .ok (.ireturn, 1)) (hq : Q (some (iV z)) M) : PW X K lay nL (0, 0) (ZM X K lay Q) pc L [iV z] M := by
  obtain ⟨p, l, e, R, s, m, args, below, meth, c0, A⟩ := X
  obtain ⟨hx, hb, hml, hown, hts, hK, hinj, hAk, hA, hlk, hrt, hfr, hlo⟩ := C
  intro H locs ls hP hS hl
  exact W.iret (v := Int32.ofInt z) hx hb hrt (fun t ht hW => ⟨⟨_, M, rfl, hq, by rw [ht]; exact hP, va_K.moved hW.alike hK⟩, hS.F ht⟩) hS.2.2 hd
theorem pw_zret {X : CX} {K : KX} {lay : List PD} {cc : ByteArray} {own : String} {nL : Nat} {d pc : Nat} {M : Mem} {Q : Option Value → Mem → Prop} {L : List (Option Value)} (C : CXok X K lay cc own nL (some .boolean) d) {z : Int} (hz : z = 0 ∨ z = 1) (hd : decode cc pc = .ok (.ireturn, 1)) (hq : Q (some (iV z)) M) : PW X K lay nL (0, 0) (ZM X K lay Q) pc L [iV z] M := by
  obtain ⟨p, l, e, R, s, m, args, below, meth, c0, A⟩ := X
  obtain ⟨hx, hb, hml, hown, hts, hK, hinj, hAk, hA, hlk, hrt, hfr, hlo⟩ := C
  intro H locs ls hP hS hl
  exact W.zret (v := Int32.ofInt z) (ty := .boolean) hx hb hrt (by rcases hz with rfl | rfl <;> decide) (fun t ht hW => ⟨⟨_, M, rfl, hq, by rw [ht]; exact hP, va_K.moved hW.alike hK⟩, hS.F ht⟩) hS.2.2 hd
theorem pw_vret {X : CX} {K : KX} {lay : List PD} {cc : ByteArray} {own : String} {nL : Nat} {d pc : Nat} {M : Mem} {Q : Option Value → Mem → Prop} {L : List (Option Value)} (C : CXok X K lay cc own nL none d) (hd : decode cc pc = .ok (.return_, 1)) (hq : Q none M) : PW X K lay nL (0, 0) (ZM X K lay Q) pc L [] M := by
  obtain ⟨p, l, e, R, s, m, args, below, meth, c0, A⟩ := X
  obtain ⟨hx, hb, hml, hown, hts, hK, hinj, hAk, hA, hlk, hrt, hfr, hlo⟩ := C
  intro H locs ls hP hS hl
  exact W.vret hx hb hrt (fun t ht hW => ⟨⟨_, M, rfl, hq, by rw [ht]; exact hP, va_K.moved hW.alike hK⟩, hS.F ht⟩) hS.2.2 hd
/-- what a callee's words say -/
def CB (y : MethodName) (cc : ByteArray) (nL : Nat) (ret : Option FieldType) (n : Nat) : Prop := Cond.instanceMethod y ∈ wsL_law0 ∧ Cond.selects y.cls y y ∈ wsL_law0 ∧ Cond.initialized y.cls ∈ wsL_law0 ∧ Cond.code y cc nL ret ∈ wsL_law0 ∧ (y.cls ≠ "java/lang/invoke/MethodHandle" ∧ y.cls ≠ "java/lang/invoke/VarHandle" ∧ (parseMethodDescriptor y.desc).map (fun d => d.parameters.length) = some n) ∧ nL ≤ 40
def CBS (y : MethodName) (cc : ByteArray) (nL : Nat) (ret : Option FieldType) (n : Nat) : Prop := Cond.static y ∈ wsL_law0 ∧ Cond.initialized y.cls ∈ wsL_law0 ∧ Cond.code y cc nL ret ∈ wsL_law0 ∧ (y.cls ≠ "java/lang/invoke/MethodHandle" ∧ y.cls ≠ "java/lang/invoke/VarHandle" ∧ (parseMethodDescriptor y.desc).map (fun d => d.parameters.length) = some n) ∧ nL ≤ 40
theorem gT_code {y : MethodName} {cc : ByteArray} {nL : Nat} {ret : Option FieldType} (h : Cond.code y cc nL ret ∈ wsL_law0) : GoodIn wsL_law0 (Cond.code y cc nL ret :: wsL_law0) := by
  intro w hw
  have hm : w ∈ wsL_law0 := by
    rcases List.mem_cons.mp hw with e | e
    · rw [e]; exact h
    · exact e
  exact ⟨hm, good_of_word (gT_good w hm)⟩
theorem MC_blind {K : KX} {lay : List PD} {av : List Value} {M : Mem} {sz : Nat} : FrameBlind (va_Pc av (fun U => U.heap.size = sz ∧ va_P K.1 vwCl (wld K lay M) U.heap ∧ va_K K.1 vwCl (tysK K) U ∧ injK K lay)) := by
  intro a U g mk q
  obtain ⟨q0, q1, qP, qK, qD⟩ := q
  exact ⟨q0, q1, qP, va_K.moved (u := U) (U := U.calling g mk a) (Vm.Alike.refl U.vm) qK, qD⟩
theorem pw_after {p : Program} {l : Launch} {e : Env} {R : Room} {s : State} {m : MethodId} {args : Array Value} {below : List Frame} {meth : Method} {c : Code} {A : Nat → Prop} {K : KX} {lay : List PD} {cs : Nat × Nat} {Z : State → Prop} {pc : Nat} {ls : Array Slot} {st0 rest : List Value} {H : Heap} {locs : List Loc} {Q : Option Value → Mem → Prop} {a : Array Value}
    (hr : va_Run p l e R s m args below meth c H locs cs.1 cs.2 0 0 (F0 m pc ls st0) rest (QQ K lay (AK K lay H.size) Q a) (AK K lay H.size)) (hS : va_S A s.heap H locs) (hAk : ∀ k, k < lay.length → A (K.2.2 k)) (hA : ∀ q, s.heap.size ≤ q → A q)
    (kk : ∀ (v : Option Value) (M' : Mem) (H1 : Heap) (locs1 : List Loc), Q v M' → va_P K.1 vwCl (wld K lay M') H1 → va_S A s.heap H1 locs1 → W p l e R s m args below meth c H1 locs1 cs.1 cs.2 Z (F0 m (pc + 3) ls (v.toList ++ rest))) : W p l e R s m args below meth c H locs cs.1 cs.2 Z (F0 m pc ls st0) := by
  have hAA : ∀ q, AK K lay H.size q → A q := by
    intro q h
    rcases h with ⟨k, hk, rfl⟩ | h
    · exact hAk k hk
    · exact hA q (Nat.le_trans hS.1 h)
  intro T hT X
  obtain ⟨v, st₀, t, T', L, h0, X', hL, e1, e2, ⟨⟨v2, M', hv, hp, hb, hk9⟩, hz, hk⟩, st⟩ := hr T hT X
  cases hv
  rw [h0] at hz hk
  obtain ⟨t2, a1, b1⟩ := kk v M' T'.heap (locs ++ L) hp (by rw [e1]; exact hb)
    ⟨Nat.le_trans hS.1 (by rw [e1]; exact hz), fun q h1 h2 => by rw [e1, hk q (Nat.lt_of_lt_of_le h1 hS.1) (fun z => h2 (hAA q z))]; exact hS.2.1 q h1 h2, fun q hq => by
      rcases List.mem_append.mp hq with h | h
      · exact hS.2.2 q h
      · exact hAA _ (hL q h)⟩ T' rfl X'
  exact ⟨t2, st t2 a1, b1⟩
theorem pw_callV {X : CX} {K : KX} {lay : List PD} {cc : ByteArray} {own : String} {nL : Nat} {ret : Option FieldType} {d : Nat} {cs : Nat × Nat} {Z : State → Prop} {pc : Nat} {st : List Value} {M : Mem} (C : CXok X K lay cc own nL ret d) {L : List (Option Value)} {Cn : String} {T : u_T} {N ci k idx n nL' d' : Nat} {codes : List Nat} {y : MethodName} {cc' : ByteArray} {ret' : Option FieldType} {As rest : List Value} {Q : Option Value → Mem → Prop} (hM : MC (lOf X) K lay y cc' nL' ret' d' (rV K k :: As) M Q) (hB : CB y cc' nL' ret' n) (hlay : lay[k]? = some (0, ci, codes)) (hci : vwCl[ci]? = some (Cn, T, N)) (hcl : y.cls = Cn) (hml9 : Cond.methodLink own idx y ∈ wsL_law0) (hd : decode cc pc = .ok (.invokevirtual idx, 3)) (hdd : d' < d) (hcs : cs.1 ≤ X.2.2.2.1.cells ∧ cs.2 ≤ X.2.2.2.1.slots) (hn : As.length = n) (hrest : (rest.map fun v => v.category).sum ≤ 8) (hst : st = As.reverse ++ rV K k :: rest)
    (kk : ∀ (v : Option Value) (M' : Mem), Q v M' → PW X K lay nL cs Z (pc + 3) L (v.toList ++ rest) M') : PW X K lay nL cs Z pc L st M := by
  obtain ⟨p, l, e, R, s, m, args, below, meth, c0, A⟩ := X
  obtain ⟨hx, hb, hml, hown, hts, hK, hinj, hAk, hA, hlk, hrt, hfr, hlo⟩ := C
  intro H locs ls hP hS hl
  subst hst
  subst hcl
  obtain ⟨b1, b2, b3, b4, b5, b6⟩ := hB
  have hM := hM H.size
  refine pw_after (va_runV (As := As) (rest := rest) (C := y.cls) (n := n) ⟨hx, hb, hml, hown, hts⟩ hM ⟨callB_of n hts (gT_code b4) rfl rfl rfl (hts _ b3) (hts _ hml9) b5 ⟨by show d' + 1 ≤ R.frames; omega, by show 8 + (nL' + 11) + 64 * d' ≤ R.locals; omega⟩, hts _ b1, hts _ b2⟩ ⟨MC_blind, va_recv hK hP hci (wld_get hlay), fun U hU hW => ⟨rfl, by rw [hU], by rw [hU]; exact hP, va_K.moved hW.alike hK, hinj⟩⟩ rfl hn hl.1.1 rfl (lv_room hrest) hd ⟨hcs.1, hcs.2⟩) hS hAk hA (fun v M' H1 locs1 hq hP1 hS1 => ?_)
  exact kk v M' hq H1 locs1 ls hP1 hS1 hl
theorem pw_callS {X : CX} {K : KX} {lay : List PD} {cc : ByteArray} {own : String} {nL : Nat} {ret : Option FieldType} {d : Nat} {cs : Nat × Nat} {Z : State → Prop} {pc : Nat} {st : List Value} {M : Mem} (C : CXok X K lay cc own nL ret d) {L : List (Option Value)} {idx n nL' d' : Nat} {y : MethodName} {cc' : ByteArray} {ret' : Option FieldType} {As rest : List Value} {Q : Option Value → Mem → Prop} (hM : MC (lOf X) K lay y cc' nL' ret' d' As M Q) (hB : CBS y cc' nL' ret' n) (hml9 : Cond.methodLink own idx y ∈ wsL_law0) (hd : decode cc pc = .ok (.invokestatic idx, 3)) (hdd : d' < d) (hcs : cs.1 ≤ X.2.2.2.1.cells ∧ cs.2 ≤ X.2.2.2.1.slots) (hn : As.length = n) (hrest : (rest.map fun v => v.category).sum ≤ 8) (hst : st = As.reverse ++ rest)
    (kk : ∀ (v : Option Value) (M' : Mem), Q v M' → PW X K lay nL cs Z (pc + 3) L (v.toList ++ rest) M') : PW X K lay nL cs Z pc L st M := by
  obtain ⟨p, l, e, R, s, m, args, below, meth, c0, A⟩ := X
  obtain ⟨hx, hb, hml, hown, hts, hK, hinj, hAk, hA, hlk, hrt, hfr, hlo⟩ := C
  intro H locs ls hP hS hl
  subst hst
  obtain ⟨b1, b3, b4, b5, b6⟩ := hB
  have hM := hM H.size
  refine pw_after (va_runS (As := As) (rest := rest) (n := n) ⟨hx, hb, hml, hown, hts⟩ hM ⟨callB_of n hts (gT_code b4) rfl rfl rfl (hts _ b3) (hts _ hml9) b5 ⟨by show d' + 1 ≤ R.frames; omega, by show 8 + (nL' + 11) + 64 * d' ≤ R.locals; omega⟩, hts _ b1⟩ ⟨MC_blind, fun U hU hW => ⟨rfl, by rw [hU], by rw [hU]; exact hP, va_K.moved hW.alike hK, hinj⟩⟩ rfl hn hl.1.1 rfl (lv_room hrest) hd ⟨hcs.1, hcs.2⟩) hS hAk hA (fun v M' H1 locs1 hq hP1 hS1 => ?_)
  exact kk v M' hq H1 locs1 ls hP1 hS1 hl
theorem pw_mmin {X : CX} {K : KX} {lay : List PD} {cc : ByteArray} {own : String} {nL : Nat} {ret : Option FieldType} {d : Nat} {Z : State → Prop} {pc : Nat} {st : List Value} {M : Mem} {L : List (Option Value)} (C : CXok X K lay cc own nL ret (d + 1)) {idx : Nat} {a b : Int} (ha : -2147483648 ≤ a ∧ a ≤ 2147483647) (hb9 : -2147483648 ≤ b ∧ b ≤ 2147483647) (hrest : (st.map fun v => v.category).sum ≤ 8) (hml9 : Cond.methodLink own idx Lib.Math.min.name ∈ wsL_law0) (hd : decode cc pc = .ok (.invokestatic idx, 3))
    (kk : PW X K lay nL (0, 0) Z (pc + 3) L (iV (if a ≤ b then a else b) :: st) M) : PW X K lay nL (0, 0) Z pc L (iV b :: iV a :: st) M := by
  obtain ⟨p, l, e, R, s, m, args, below, meth, c0, A⟩ := X
  obtain ⟨hx, hb, hml, hown, hts, hK, hinj, hAk, hA, hlk, hrt, hfr, hlo⟩ := C
  intro H locs ls hP hS hl
  refine va_mmin hx hb (by rw [hml, hl.1.1]) hown (hts _ hml9) (hts _ st_Lib_Math_min_name) (hts _ in__java_lang_Math_) (hts _ cd_Lib_Math_min_name) (by omega) (by omega) (Nat.zero_le _) (Nat.zero_le _) hd ?_
  have e0 : (if Int32.ofInt b < Int32.ofInt a then Int32.ofInt b else Int32.ofInt a) = Int32.ofInt (if a ≤ b then a else b) := by
    by_cases h : a ≤ b
    · rw [if_pos h, if_neg (by rw [i32_lt hb9 ha]; omega)]
    · rw [if_neg h, if_pos (by rw [i32_lt hb9 ha]; omega)]
  rw [e0]
  exact kk H locs ls hP hS hl
theorem pw_mmax {X : CX} {K : KX} {lay : List PD} {cc : ByteArray} {own : String} {nL : Nat} {ret : Option FieldType} {d : Nat} {Z : State → Prop} {pc : Nat} {st : List Value} {M : Mem} {L : List (Option Value)} (C : CXok X K lay cc own nL ret (d + 1)) {idx : Nat} {a b : Int} (ha : -2147483648 ≤ a ∧ a ≤ 2147483647) (hb9 : -2147483648 ≤ b ∧ b ≤ 2147483647) (hrest : (st.map fun v => v.category).sum ≤ 8) (hml9 : Cond.methodLink own idx Lib.Math.max.name ∈ wsL_law0) (hd : decode cc pc = .ok (.invokestatic idx, 3))
    (kk : PW X K lay nL (0, 0) Z (pc + 3) L (iV (if a ≤ b then b else a) :: st) M) : PW X K lay nL (0, 0) Z pc L (iV b :: iV a :: st) M := by
  obtain ⟨p, l, e, R, s, m, args, below, meth, c0, A⟩ := X
  obtain ⟨hx, hb, hml, hown, hts, hK, hinj, hAk, hA, hlk, hrt, hfr, hlo⟩ := C
  intro H locs ls hP hS hl
  refine va_mmax hx hb (by rw [hml, hl.1.1]) hown (hts _ hml9) (hts _ st_Lib_Math_max_name) (hts _ in__java_lang_Math_) (hts _ cd_Lib_Math_max_name) (by omega) (by omega) (Nat.zero_le _) (Nat.zero_le _) hd ?_
  have e0 : (if Int32.ofInt a < Int32.ofInt b then Int32.ofInt b else Int32.ofInt a) = Int32.ofInt (if a ≤ b then b else a) := by
    by_cases h : a < b
    · rw [if_pos (show a ≤ b by omega), if_pos (by rw [i32_lt ha hb9]; exact h)]
    · rw [if_neg (by rw [i32_lt ha hb9]; exact h)]
      by_cases h2 : a ≤ b
      · rw [if_pos h2, show a = b by omega]
      · rw [if_neg h2]
  rw [e0]
  exact kk H locs ls hP hS hl
