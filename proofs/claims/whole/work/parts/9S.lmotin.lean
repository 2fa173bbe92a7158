/-! the law's motifIn, and its case -/
theorem pw_astR4 {X : CX} {K : KX} {lay : List PD} {cc : ByteArray} {own : String} {nL : Nat} {ret : Option FieldType} {d : Nat} {cs : Nat × Nat} {Z : State → Prop} {pc : Nat} {st : List Value} {M : Mem} (C : CXok X K lay cc own nL ret d) {a0 a1 a2 a3 : Option Value} {r : List (Option Value)} {b : Option Value} {q : Nat} (hn : 4 < nL) (hd : decode cc pc = .ok (.astore 4, 2)) (k : PW X K lay nL cs Z (pc + 2) (a0 :: a1 :: a2 :: a3 :: some (Value.ref q) :: r) st M) :
    PW X K lay nL cs Z pc (a0 :: a1 :: a2 :: a3 :: b :: r) (Value.ref q :: st) M := by
  obtain ⟨p, l, e, R, s, m, args, below, meth, c0, A⟩ := X
  obtain ⟨hx, hb, hml, hown, hts, hK, hinj, hAk, hA, hlk, hrt, hfr, hlo⟩ := C
  intro H locs ls hP hS hl
  refine lv_astore (lv' := _) hx hb hd hl.1 hn rfl (fun ls1 h1 => ?_)
  exact k H locs ls1 hP hS (LV.set (i := 4) (v := Value.ref q) rfl hl.2 h1)
theorem i32_64 (x : Int32) : x.toInt64 = Int64.ofInt x.toInt := by
  apply Int64.toInt_inj.mp
  have h := i32x x
  rw [Int32.toInt_toInt64, Int64.toInt_ofInt_of_le (by omega) (by omega)]
theorem pw_i2l {X : CX} {K : KX} {lay : List PD} {cc : ByteArray} {own : String} {nL : Nat} {ret : Option FieldType} {d : Nat} {cs : Nat × Nat} {Z : State → Prop} {pc : Nat} {st : List Value} {M : Mem} (C : CXok X K lay cc own nL ret d) {L : List (Option Value)} {z : Int} (hd : decode cc pc = .ok (.i2l, 1)) (k : PW X K lay nL cs Z (pc + 1) L (Value.long (Int64.ofInt (Int32.ofInt z).toInt) :: st) M) : PW X K lay nL cs Z pc L (iV z :: st) M := by
  obtain ⟨p, l, e, R, s, m, args, below, meth, c0, A⟩ := X
  obtain ⟨hx, hb, hml, hown, hts, hK, hinj, hAk, hA, hlk, hrt, hfr, hlo⟩ := C
  intro H locs ls hP hS hl
  exact lv_i2l hx hb hd (i32_64 _) (k H locs ls hP hS hl)
theorem pw_laload {X : CX} {K : KX} {lay : List PD} {cc : ByteArray} {own : String} {nL : Nat} {ret : Option FieldType} {d : Nat} {cs : Nat × Nat} {Z : State → Prop} {pc : Nat} {st : List Value} {M : Mem} (C : CXok X K lay cc own nL ret d) {L : List (Option Value)} {k n : Nat} {z : Int} (hlay : lay[k]? = some (4, n, [])) (hz : 0 ≤ z ∧ z < (n : Int)) (hn : n < 2147483648) (hd : decode cc pc = .ok (.laload, 1))
    (kk : PW X K lay nL cs Z (pc + 1) L (Value.long (Int64.ofInt (M k z)) :: st) M) : PW X K lay nL cs Z pc L (iV z :: rV K k :: st) M := by
  obtain ⟨p, l, e, R, s, m, args, below, meth, c0, A⟩ := X
  obtain ⟨hx, hb, hml, hown, hts, hK, hinj, hAk, hA, hlk, hrt, hfr, hlo⟩ := C
  intro H locs ls hP hS hl
  refine va_lald (D := K.1) hx hb hK hP k 3 (wld_get hlay) rfl (i32_in hz hn) hd ?_
  have e1 : (((Int32.ofInt z).toNatClampNeg : Nat) : Int) = z := by rw [i32_clamp (by omega)]; omega
  rw [e1]
  exact kk H locs ls hP hS hl
theorem updL_of {m : Int → Int} {z v : Int} (hz : 0 ≤ z ∧ z ≤ 2147483647) : (fun j : Nat => Int64.ofInt ((fun b => if b = z then v else m b) (j : Int))) = vp_updL (fun j : Nat => Int64.ofInt (m (j : Int))) (Int32.ofInt z).toNatClampNeg (Int64.ofInt v) := by
  rw [i32_clamp hz]
  funext j
  unfold vp_updL
  by_cases h : j = z.toNat
  · rw [if_pos h]
    show Int64.ofInt (if (j : Int) = z then v else m (j : Int)) = _
    rw [if_pos (by omega)]
  · rw [if_neg h]
    show Int64.ofInt (if (j : Int) = z then v else m (j : Int)) = _
    rw [if_neg (by omega)]
theorem pw_lastore {X : CX} {K : KX} {lay : List PD} {cc : ByteArray} {own : String} {nL : Nat} {ret : Option FieldType} {d : Nat} {cs : Nat × Nat} {Z : State → Prop} {pc : Nat} {st : List Value} {M : Mem} (C : CXok X K lay cc own nL ret d) {L : List (Option Value)} {k n : Nat} {z v : Int} (hlay : lay[k]? = some (4, n, [])) (hz : 0 ≤ z ∧ z < (n : Int)) (hn : n < 2147483648) (hd : decode cc pc = .ok (.lastore, 1))
    (kk : PW X K lay nL cs Z (pc + 1) L st (up2 M k z v)) : PW X K lay nL cs Z pc L (Value.long (Int64.ofInt v) :: iV z :: rV K k :: st) M := by
  obtain ⟨p, l, e, R, s, m, args, below, meth, c0, A⟩ := X
  obtain ⟨hx, hb, hml, hown, hts, hK, hinj, hAk, hA, hlk, hrt, hfr, hlo⟩ := C
  intro H locs ls hP hS hl
  refine va_last (D := K.1) hx hb hK hP (wld_D hinj hAk) hS k 3 (wld_get hlay) rfl (i32_in hz hn) hd (fun H1 locs1 hP1 hD1 hS1 => ?_)
  refine kk H1 locs1 ls ?_ hS1 hl
  have e1 := wld_set (K := K) (lay := lay) (M := M) (M' := up2 M k z v) hlay (fun a ha => up2_ne ha)
  rw [← e1]
  have e2 : cE K (4, n, []) (up2 M k z v k) = .inl (K.2.1.2.2.2, n, .inr (.inl (vp_updL (fun j : Nat => Int64.ofInt (M k (j : Int))) (Int32.ofInt z).toNatClampNeg (Int64.ofInt v)))) := by
    show Sum.inl (_, n, Sum.inr (Sum.inl (fun j : Nat => Int64.ofInt (up2 M k z v k (j : Int))))) = _
    rw [up2_eq, ← updL_of (by omega)]
  rw [e2]
  exact hP1
theorem pw_lcmp0 {X : CX} {K : KX} {lay : List PD} {cc : ByteArray} {own : String} {nL : Nat} {ret : Option FieldType} {d : Nat} {cs : Nat × Nat} {Z : State → Prop} {pc : Nat} {st : List Value} {M : Mem} (C : CXok X K lay cc own nL ret d) {L : List (Option Value)} {x : Int64} (hd : decode cc pc = .ok (.lcmp, 1)) (k : PW X K lay nL cs Z (pc + 1) L (iV 0 :: st) M) : PW X K lay nL cs Z pc L (Value.long x :: Value.long x :: st) M := by
  obtain ⟨p, l, e, R, s, m, args, below, meth, c0, A⟩ := X
  obtain ⟨hx, hb, hml, hown, hts, hK, hinj, hAk, hA, hlk, hrt, hfr, hlo⟩ := C
  intro H locs ls hP hS hl
  intro T hT X
  obtain ⟨t, a, b⟩ := k H locs ls hP hS hl T hT X
  refine ⟨t, ?_, b⟩
  have e0 : (iV 0 : Value) = .int 0 := rfl
  rw [e0] at a
  jvm_step X.here [X.here.top, hx, hb, hd]
  simpa using a
theorem pw_afterX {p : Program} {l : Launch} {e : Env} {R : Room} {s : State} {m : MethodId} {args : Array Value} {below : List Frame} {meth : Method} {c : Code} {A : Nat → Prop} {K : KX} {lay : List PD} {cells slots mc ms : Nat} {Z : State → Prop} {pc : Nat} {ls : Array Slot} {st0 rest : List Value} {H : Heap} {locs : List Loc} {Q : Option Value → Mem → Prop} {a : Array Value} {S : Type} {px : S → Prop} {BX : String → S → State → Prop}
    (hr : vx_Run p l e R s m args below meth c H locs cells slots mc ms (F0 m pc ls st0) rest (QQ K lay (AK K lay H.size) Q a) (vx_X px BX (AK K lay H.size)) (AK K lay H.size)) (hS : va_S A s.heap H locs) (hAk : ∀ k, k < lay.length → A (K.2.2 k)) (hA : ∀ q, s.heap.size ≤ q → A q)
    (kx : ∀ (E : String) (ce : Cell) (q9 : Addr) (u : S) (t : State) (H1 : Heap) (locs1 : List Loc), t.heap = H1 → px u → BX E u t → va_S A s.heap H1 locs1 → H1[q9]? = some ce → ce.vm = .none → s.vm.findClass E = some ce.cls → vx_W p l e R s m args below meth c H1 locs1 (cells + mc) (slots + ms) Z (F0 m pc ls rest) q9)
    (kk : ∀ (v : Option Value) (M' : Mem) (H1 : Heap) (locs1 : List Loc), Q v M' → va_P K.1 vwCl (wld K lay M') H1 → va_S A s.heap H1 locs1 → W p l e R s m args below meth c H1 locs1 (cells + mc) (slots + ms) Z (F0 m (pc + 3) ls (v.toList ++ rest))) : W p l e R s m args below meth c H locs cells slots Z (F0 m pc ls st0) := by
  have hAA : ∀ q, AK K lay H.size q → A q := by
    intro q h
    rcases h with ⟨k, hk, rfl⟩ | h
    · exact hAk k hk
    · exact hA q (Nat.le_trans hS.1 h)
  intro T hT X
  rcases hr T hT X with ⟨v, st₀, t, T', L, h0, X', hL, e1, e2, ⟨⟨v2, M', hv, hp, hb, hk9⟩, hF⟩, st⟩ | ⟨q, st₀, t, T', L, E, ce, h0, X', hL, e1, e2, ⟨u, hp, hb, hF⟩, hce, hcv, hcl, st⟩
  · cases hv
    obtain ⟨k1, k2, k3⟩ := vx_keep h0 e1 hS (fun q _ h => hAA q h) hAA hL hF
    obtain ⟨t2, a1, b1⟩ := kk v M' T'.heap (locs ++ L) hp (by rw [e1]; exact hb) k3 T' rfl X'
    exact ⟨t2, st t2 a1, b1⟩
  · obtain ⟨k1, k2, k3⟩ := vx_keep h0 e1 hS (fun q _ h => hAA q h) hAA hL hF
    obtain ⟨t2, a1, b1⟩ := kx E ce q u t T'.heap (locs ++ L) e1.symm hp hb k3 (by rw [e1]; exact hce) hcv hcl T' rfl X'
    exact ⟨t2, st.trans a1, b1⟩
theorem pw_afterN {p : Program} {l : Launch} {e : Env} {R : Room} {s : State} {m : MethodId} {args : Array Value} {below : List Frame} {meth : Method} {c : Code} {A : Nat → Prop} {K : KX} {lay : List PD} {cells slots mc ms : Nat} {Z : State → Prop} {pc : Nat} {ls : Array Slot} {st0 rest : List Value} {H : Heap} {locs : List Loc} {Q : Option Value → Mem → Prop} {a : Array Value}
    (hr : va_Run p l e R s m args below meth c H locs cells slots mc ms (F0 m pc ls st0) rest (QQ K lay (AK K lay H.size) Q a) (AK K lay H.size)) (hS : va_S A s.heap H locs) (hAk : ∀ k, k < lay.length → A (K.2.2 k)) (hA : ∀ q, s.heap.size ≤ q → A q)
    (kk : ∀ (v : Option Value) (M' : Mem) (H1 : Heap) (locs1 : List Loc), Q v M' → va_P K.1 vwCl (wld K lay M') H1 → va_S A s.heap H1 locs1 → W p l e R s m args below meth c H1 locs1 (cells + mc) (slots + ms) Z (F0 m (pc + 3) ls (v.toList ++ rest))) : W p l e R s m args below meth c H locs cells slots Z (F0 m pc ls st0) := by
  have hAA : ∀ q, AK K lay H.size q → A q := by
    intro q h
    rcases h with ⟨k, hk, rfl⟩ | h
    · exact hAk k hk
    · exact hA q (Nat.le_trans hS.1 h)
  intro T hT X
  obtain ⟨v, st₀, t, T', L, h0, X', hL, e1, e2, ⟨⟨v2, M', hv, hp, hb, hk9⟩, hF⟩, st⟩ := hr T hT X
  cases hv
  obtain ⟨k1, k2, k3⟩ := vx_keep h0 e1 hS (fun q _ h => hAA q h) hAA hL hF
  obtain ⟨t2, a1, b1⟩ := kk v M' T'.heap (locs ++ L) hp (by rw [e1]; exact hb) k3 T' rfl X'
  exact ⟨t2, st t2 a1, b1⟩
def QLm (M : Mem) (m t r : Int) (M' : Mem) : Prop := (r = 0 ∧ ∃ (a : Int) (M1 : Mem), QmI M m t a M1 ∧ M' = up2 M1 60 0 (Int32.ofInt a).toInt) ∨ (r = 1 ∧ ¬ (okM (cf M) m ∧ 0 ≤ t ∧ t < M 9 0) ∧ M' = M)
abbrev rmL : Room := { frames := 21, cells := 1, slots := 6, locals := 1344 }
theorem PcX_blind {K : KX} {M : Mem} {sz : Nat} {av : List Value} : FrameBlind (va_Pc av (PcX K M sz)) := by
  intro a U g mk q
  obtain ⟨q0, q1, qP, qK, qD, qT⟩ := q
  exact ⟨q0, q1, qP, va_K.moved (u := U) (U := U.calling g mk a) (Vm.Alike.refl U.vm) qK, qD, qT.go (U := U.calling g mk a) (State.WarmedH.refl U) (fun _ _ _ => rfl) (fun _ h => h)⟩
set_option maxHeartbeats 4000000 in
theorem c_L_motifIn {l : Launch} (hl : l.stackTraces = false) (K : KX) (M : Mem) (m t : Int) (hW : WfK (cf M)) (hwd : M 37 4 = 120) (hZ : Z0b M) (hC : MoC (cf M) M) (hm9 : -2147483648 ≤ m ∧ m ≤ 2147483647) (ht9 : -2147483648 ≤ t ∧ t ≤ 2147483647) (sz : Nat) :
    Met l yL_motifIn (.codeWith yL_motifIn cL_motifIn 5 (some .int) [(0, 10, 13, 13)] :: wsL_law0) rmL (va_Pc [rV K 0, iV m, iV t, rV K 60] (PcX K M sz)) (QQ K LAY (AK K LAY sz) (fun v M' => ∃ r : Int, v = some (iV r) ∧ QLm M m t r M')) 1 6 (AK K LAY sz) := by
  refine va_MetW (cc := cL_motifIn) (maxL := 5) (ret := some .int) (hh := [(0, 10, 13, 13)]) (by decide +kernel) rfl ?_
  intro p e s m0 args below meth c s₁ B hml hv
  obtain ⟨rfl, hsz, hP0, hK0, hinj0, hTX⟩ := hv
  subst hsz
  have hts0 := atoms_spec (ws := .codeWith yL_motifIn cL_motifIn 5 (some .int) [(0, 10, 13, 13)] :: wsL_law0) B.pre
  have htb := vx_table (x := yL_motifIn) B (hts0 _ List.mem_cons_self)
  have C : CXok (p, l, e, rmL, s, m0, [rV K 0, iV m, iV t, rV K 60].toArray, below, meth, c, AK K LAY s.heap.size) K LAY cL_motifIn RL 5 (some .int) 21 :=
    ⟨B.exec, B.bytes, hml, findClass_of_methodNamed B.named, fun w hw => hts0 w (List.mem_cons_of_mem _ hw), hK0, hinj0, fun k hk => Or.inl ⟨k, hk, rfl⟩, fun q h => Or.inr h, B.notSynchronized, B.returns, Nat.le_refl _, Nat.le_refl _⟩
  refine pw_entry (A := AK K LAY s.heap.size) (cat_r (cat_i (cat_i (cat_r cat_nil)))) (Nat.le_of_ble_eq_true rfl) hP0 ?_
  show PW _ K LAY 5 (0, 0) _ 0 [some (rV K 0), some (iV m), some (iV t), some (rV K 60), none] [] M
  have hend : ∀ (pc : Nat) (L : List (Option Value)) (r : Int) (M9 : Mem), decode cL_motifIn pc = .ok (.ireturn, 1) → QLm M m t r M9 → PW (p, l, e, rmL, s, m0, [rV K 0, iV m, iV t, rV K 60].toArray, below, meth, c, AK K LAY s.heap.size) K LAY 5 (0 + 1, 0 + 6) (MQ below (QQ K LAY (AK K LAY s.heap.size) (fun v M' => ∃ r : Int, v = some (iV r) ∧ QLm M m t r M')) [rV K 0, iV m, iV t, rV K 60].toArray s 1 6 (AK K LAY s.heap.size)) pc L [iV r] M9 := by
    intro pc L r M9 hd hq
    obtain ⟨hx, hb, hml1, hown, hts, hK, hinj, hAk, hA, hlk, hrt, hfr, hlo⟩ := C
    intro H locs ls hP hS hl9
    exact W.iret (v := Int32.ofInt r) hx hb hrt (fun t9 ht hWt => ⟨⟨_, M9, rfl, ⟨r, rfl, hq⟩, by rw [ht]; exact hP, va_K.moved hWt.alike hK⟩, hS.F ht⟩) hS.2.2 hd
  refine pw_aload3 C dL_motifIn_0 ?_
  refine pw_iconst C dL_motifIn_1 ?_
  refine pw_aload0 C dL_motifIn_2 ?_
  refine pw_iload1 C dL_motifIn_3 ?_
  refine pw_iload2 C dL_motifIn_4 ?_
  have C9 := C
  obtain ⟨hx, hb, hml1, hown, hts, hK, hinj, hAk, hA, hlk, hrt, hfr, hlo⟩ := C9
  intro H locs ls hP hS hl9
  have hAA : ∀ q, AK K LAY H.size q → AK K LAY s.heap.size q := by
    intro q h
    rcases h with h | h
    · exact Or.inl h
    · exact Or.inr (Nat.le_trans hS.1 h)
  have hr := vx_runV (p := p) (l := l) (e := e) (meth := meth) (below := below) (As := [iV m, iV t]) (rest := [iV 0, rV K 60]) (g := F0 m0 5 ls [iV t, iV m, rV K 0, iV 0, rV K 60]) (C := RX10) (n := 2) (R := rmL) (locs := locs) (cells := 0) (slots := 0) ⟨hx, hb, hml1, hown, hts⟩ (c_X10_motifIn hl K M m t hW hwd hZ hC hm9 ht9 H.size) ⟨callB_of 2 hts (gT_code cd_yX10_motifIn) rfl rfl rfl (hts _ in_RX10) (hts _ ml_L_7) ⟨by decide +kernel, by decide +kernel, by decide +kernel⟩ ⟨by decide, by decide⟩, hts _ im_yX10_motifIn, hts _ se_yX10_motifIn_RX10⟩ ⟨PcX_blind, va_recv hK hP kc_10 (wld_get lay_0), fun U hU hWU => ⟨rfl, by rw [hU], by rw [hU]; exact hP, va_K.moved hWU.alike hK, hinj, by rw [hU]; exact hTX.go hWU hS.2.1 hAA⟩⟩ rfl rfl hl9.1.1 rfl (lv_room (Nat.le_of_ble_eq_true rfl)) dL_motifIn_5 ⟨by decide, by decide⟩
  refine pw_afterX hr hS hAk hA ?_ ?_
  · intro E ce q9 u t9 H1 locs1 ht9' hno hB9 hS1 hce hcv hcl
    obtain ⟨rfl, hP1, hK1⟩ := hB9
    rw [ht9'] at hP1
    refine vx_catch (own := RL) (name := "java/util/NoSuchElementException") hown [] ⟨0, 10, 13, 13⟩ [] htb (fun z hz => nomatch hz) (by decide) (by decide) (hts _ cl_L_13) (th_go th_cast (State.WarmedH.refl s) (hTX.1 _ th_cast)) hce hcv hcl ?_
    refine (?_ : PW (p, l, e, rmL, s, m0, [rV K 0, iV m, iV t, rV K 60].toArray, below, meth, c, AK K LAY s.heap.size) K LAY 5 (0 + 1, 0 + 6) _ 13 [some (rV K 0), some (iV m), some (iV t), some (rV K 60), none] [Value.ref q9] M) H1 locs1 ls hP1 hS1 hl9
    refine pw_astR4 C (by decide) dL_motifIn_13 ?_
    refine pw_iconst C dL_motifIn_15 ?_
    exact hend 16 _ 1 M dL_motifIn_16 (Or.inr ⟨rfl, hno, rfl⟩)
  · intro v M' H1 locs1 hq hP1 hS1
    obtain ⟨r, rfl, hq⟩ := hq
    refine (?_ : PW (p, l, e, rmL, s, m0, [rV K 0, iV m, iV t, rV K 60].toArray, below, meth, c, AK K LAY s.heap.size) K LAY 5 (0 + 1, 0 + 6) _ 8 [some (rV K 0), some (iV m), some (iV t), some (rV K 60), none] [iV r, iV 0, rV K 60] M') H1 locs1 ls hP1 hS1 hl9
    refine pw_i2l C dL_motifIn_8 ?_
    refine pw_lastore C lay_60 (by decide) (by decide) dL_motifIn_9 ?_
    refine pw_goto (tgt := 17) C dL_motifIn_10 (by decide) ?_
    refine pw_iconst C dL_motifIn_17 ?_
    exact hend 18 _ 0 _ dL_motifIn_18 (Or.inl ⟨rfl, r, M', hq, rfl⟩)
