/-! Exact contracts; the copying of arrays; the law's script -/
def Zx (v0 : Option Value) (K0 N0 : Nat → Nat) (R0 : Nat → Nat → Nat) (I0 : Nat → Nat → Int32) (J0 : Nat → Nat → Int64) (s0 : Nat) : ZT := fun v K N R I J sz => v = v0 ∧ K = K0 ∧ N = N0 ∧ R = R0 ∧ I = I0 ∧ J = J0 ∧ sz = s0
theorem Zx.rt {v0 : Option Value} {K0 N0 : Nat → Nat} {R0 : Nat → Nat → Nat} {I0 : Nat → Nat → Int32} {J0 : Nat → Nat → Int64} {s0 : Nat} {ret : Option FieldType} (h : xrt ret v0) : ∀ v K N R I J sz, Zx v0 K0 N0 R0 I0 J0 s0 v K N R I J sz → xrt ret v := by
  rintro v K N R I J sz ⟨rfl, -⟩
  exact h
section XE
variable {l : Launch} {D : va_G} {X : State → Prop} {own nm : String} {cc : ByteArray} {nL d mc ms : Nat} {K0 : Nat → Nat} {sz0 : Nat} {Z : ZT} {pc : Nat} {L st : List Value} {K N : Nat → Nat} {R : Nat → Nat → Nat} {I : Nat → Nat → Int32} {J : Nat → Nat → Int64} {sz kc ks : Nat}
variable {K1 N1 : Nat → Nat} {R1 : Nat → Nat → Nat} {I1 : Nat → Nat → Int32} {J1 : Nat → Nat → Int64} {sz1 : Nat} {mc1 ms1 : Nat}
theorem x_rx {v : Option Value} (hd : decode cc pc = .ok (xret v, 1)) : XW l D X own nm cc nL d mc ms K0 sz0 (Zx v K N R I J sz) pc L v.toList K N R I J sz kc ks := x_ret hd ⟨rfl, rfl, rfl, rfl, rfl, rfl, rfl⟩
theorem x_eV {y : MethodName} {c1 : ByteArray} {nL1 n d1 idx b ci : Nat} {ret1 : Option FieldType} {As : List Value} {st0 : List Value} {v : Value} (hM : XM l D y c1 nL1 ret1 d1 mc1 ms1 (.ref b :: As) K N R I J sz (Zx (some v) K1 N1 R1 I1 J1 sz1))
    (hd : decode cc pc = .ok (.invokevirtual idx, 3)) (hlk : xlk own idx y) (hin : Cond.instanceMethod y ∈ xws) (hse : Cond.selects y.cls y y ∈ xws) (hcd : xcd y c1 nL1 ret1 n) (hci : ci < 4) (hKb : K b = ci + 1) (hcl : ∃ T nn, vwCl[ci]? = some (y.cls, T, nn)) (hn : As.length = n) (hdp : d1 + 1 ≤ d) (hst0 : st0 = As.reverse ++ .ref b :: st) (hst : (st.map fun v => v.category).sum ≤ 8)
    (kk : XW l D X own nm cc nL d mc ms K0 sz0 Z (pc + 3) L (v :: st) K1 N1 R1 I1 J1 sz1 kc ks) :
    XW l D X own nm cc nL d mc ms K0 sz0 Z pc L st0 K N R I J sz (kc + mc1) (ks + ms1) := by
  refine x_cV hM hd hlk hin hse hcd hci hKb hcl hn hdp hst0 hst ?_
  rintro v K' N' R' I' J' sz' ⟨rfl, rfl, rfl, rfl, rfl, rfl, rfl⟩ -
  exact kk
theorem x_eW {y : MethodName} {c1 : ByteArray} {nL1 n d1 idx b ci : Nat} {ret1 : Option FieldType} {As : List Value} {st0 : List Value} (hM : XM l D y c1 nL1 ret1 d1 mc1 ms1 (.ref b :: As) K N R I J sz (Zx none K1 N1 R1 I1 J1 sz1))
    (hd : decode cc pc = .ok (.invokevirtual idx, 3)) (hlk : xlk own idx y) (hin : Cond.instanceMethod y ∈ xws) (hse : Cond.selects y.cls y y ∈ xws) (hcd : xcd y c1 nL1 ret1 n) (hci : ci < 4) (hKb : K b = ci + 1) (hcl : ∃ T nn, vwCl[ci]? = some (y.cls, T, nn)) (hn : As.length = n) (hdp : d1 + 1 ≤ d) (hst0 : st0 = As.reverse ++ .ref b :: st) (hst : (st.map fun v => v.category).sum ≤ 8)
    (kk : XW l D X own nm cc nL d mc ms K0 sz0 Z (pc + 3) L st K1 N1 R1 I1 J1 sz1 kc ks) :
    XW l D X own nm cc nL d mc ms K0 sz0 Z pc L st0 K N R I J sz (kc + mc1) (ks + ms1) := by
  refine x_cV hM hd hlk hin hse hcd hci hKb hcl hn hdp hst0 hst ?_
  rintro v K' N' R' I' J' sz' ⟨rfl, rfl, rfl, rfl, rfl, rfl, rfl⟩ -
  exact kk
theorem x_eS {y : MethodName} {c1 : ByteArray} {nL1 n d1 idx : Nat} {ret1 : Option FieldType} {As : List Value} {st0 : List Value} {v : Value} (hM : XM l D y c1 nL1 ret1 d1 mc1 ms1 As K N R I J sz (Zx (some v) K1 N1 R1 I1 J1 sz1))
    (hd : decode cc pc = .ok (.invokestatic idx, 3)) (hlk : xlk own idx y) (hstt : Cond.static y ∈ xws) (hcd : xcd y c1 nL1 ret1 n) (hn : As.length = n) (hdp : d1 + 1 ≤ d) (hst0 : st0 = As.reverse ++ st) (hst : (st.map fun v => v.category).sum ≤ 8)
    (kk : XW l D X own nm cc nL d mc ms K0 sz0 Z (pc + 3) L (v :: st) K1 N1 R1 I1 J1 sz1 kc ks) :
    XW l D X own nm cc nL d mc ms K0 sz0 Z pc L st0 K N R I J sz (kc + mc1) (ks + ms1) := by
  refine x_cS hM hd hlk hstt hcd hn hdp hst0 hst ?_
  rintro v K' N' R' I' J' sz' ⟨rfl, rfl, rfl, rfl, rfl, rfl, rfl⟩ -
  exact kk
theorem x_eI {y : MethodName} {c1 : ByteArray} {nL1 n d1 idx b : Nat} {As : List Value} {st0 : List Value} (hM : XM l D y c1 nL1 none d1 mc1 ms1 (.ref b :: As) K N R I J sz (Zx none K1 N1 R1 I1 J1 sz1))
    (hd : decode cc pc = .ok (.invokespecial idx, 3)) (hlk : xlk own idx y) (hin : Cond.instanceMethod y ∈ xws) (hy1 : y.name = "<init>") (hcd : xcd y c1 nL1 none n) (hb0 : b ≠ 0) (hn : As.length = n) (hdp : d1 + 1 ≤ d) (hst0 : st0 = As.reverse ++ .ref b :: st) (hst : (st.map fun v => v.category).sum ≤ 8)
    (kk : XW l D X own nm cc nL d mc ms K0 sz0 Z (pc + 3) L st K1 N1 R1 I1 J1 sz1 kc ks) :
    XW l D X own nm cc nL d mc ms K0 sz0 Z pc L st0 K N R I J sz (kc + mc1) (ks + ms1) := by
  refine x_cI hM hd hlk hin hy1 hcd hb0 hn hdp hst0 hst ?_
  rintro v K' N' R' I' J' sz' ⟨rfl, rfl, rfl, rfl, rfl, rfl, rfl⟩ -
  exact kk
/-- the first n places are copied -/
def xcp {α : Type} (n : Nat) (f g : Nat → α) : Nat → α := fun j => if j < n then f j else g j
theorem xcp_eq {α : Type} (n : Nat) (f g : Nat → α) : va_cpy f g 0 0 n = xcp n f g := by
  funext j
  simp only [va_cpy, xcp, Nat.zero_le, true_and, Nat.zero_add, Nat.sub_zero]
theorem x_cpy {p : Program} {l : Launch} {e : Env} {Rm : Room} {s : State} {m : MethodId} {args : Array Value} {below : List Frame} {meth : Method} {c : Code} {H : Heap} {locs : List Loc} {cells slots : Nat} {Q : State → Prop} {cc : ByteArray} {own : String} {pc idx : Nat} {ls : Array Slot} {rest : List Value}
    (hexec : p.tables.exec = Jvm.exec) (hb : c.code = cc) (hml : c.maxLocals = ls.size) (hown : s.vm.findClass own = some m.cls) (hlink : (Cond.methodLink own idx arraycopyName).before args s = true) (hnat : (Cond.native arraycopyName).before args s = true) (hstat : (Cond.static arraycopyName).before args s = true) (hini : (Cond.initialized "java/lang/System").before args s = true)
    {a a0 : Nat} {c0 c1 : ClassId} {n0 n1 n : Nat} {α : Type} (w : α → Value) {f g : Nat → α} {ty : FieldType} (hc0 : H[a0]? = some (arrV c0 n0 (fun j => w (f j)))) (hc1 : H[a]? = some (arrV c1 n1 (fun j => w (g j)))) (hk0 : ArrOfT s c0 ty) (hk1 : ArrOfT s c1 ty) (hprim : refKind ty = false)
    (h4 : n ≤ n0) (h5 : n ≤ n1) (hn : n < 2147483648) (hfit : ∀ x, fits ty (w x) = true) (hnr : ∀ x, match w x with | .ref _ => False | _ => True)
    (hframes : 1 ≤ Rm.frames) (hlocals : (rest.map fun v => v.category).sum + (nativeFrameWords "java/lang/System" "arraycopy" 5 + 11) ≤ Rm.locals) (hdg : decode cc pc = .ok (.invokestatic idx, 3))
    (kk : ∀ (H1 : Heap) (L1 : List Loc), H1[a]? = some (arrV c1 n1 (fun j => w (xcp n f g j))) → H1.size = H.size → (∀ q, q ≠ a → H1[q]? = H[q]?) → (∀ q ∈ L1, q.base = a) → W p l e Rm s m args below meth c H1 (locs ++ L1) cells slots Q (F0 m (pc + 3) ls rest)) : W p l e Rm s m args below meth c H locs cells slots Q (F0 m pc ls (.int (nI n) :: .int 0 :: .ref a :: .int 0 :: .ref a0 :: rest)) := by
  intro T hT Y
  obtain ⟨-, k0, hk0, cm0, hkk0⟩ := hk0 n0 (fun j => w (f j))
  obtain ⟨-, k1, hk1, cm1, hkk1⟩ := hk1 n1 (fun j => w (g j))
  have hcl : (nI n).toNatClampNeg = n := nI_clamp hn
  have hnn : (nI n).toInt = (n : Int) := nI_toInt hn
  obtain ⟨vm', Y', step⟩ := Y.arraycopy hexec hown hlink hnat hstat hini (src := a0) (dst := a) (cs := arrV c0 n0 (fun j => w (f j))) (cd := arrV c1 n1 (fun j => w (g j))) (srcPos := 0) (destPos := 0) (n := nI n) (by rw [hT]; exact hc0) (by rw [hT]; exact hc1)
    (fun _ h => by cases h) (fun _ h => by cases h) (fun h => by cases h) (fun h => by cases h) hk0 hk1 hkk0 hkk1 (by simp [hprim]) (by decide) (by decide) (nI_pos hn)
    (by rw [hnn, arrV_size]; simp; omega)
    (by rw [hnn, arrV_size]; simp; omega)
    (fun vm₁ _ i hi => by
      rw [hcl] at hi
      have e : (arrV c0 n0 (fun j => w (f j))).slots.getD ((0 : Int32).toNatClampNeg + i) .null = w (f i) := by
        rw [show (0 : Int32).toNatClampNeg + i = i from by rw [sb_cl0]; omega, Array.getD_eq_getD_getElem?, arrV_read _ _ (by omega)]
        rfl
      refine ⟨?_, ?_⟩
      · rw [e]
        exact hfit _
      · rw [e]
        have := hnr (f i)
        revert this
        cases w (f i) <;> intro h <;> first | exact trivial | exact h.elim)
    (g := F0 m pc ls (.int (nI n) :: .int 0 :: .ref a :: .int 0 :: .ref a0 :: rest)) rfl (by rw [hml]) (rest := rest) rfl (by rw [hb]; exact hdg) hframes (by show 2 * 0 + _ + _ ≤ _; omega)
  have e1 : copied (arrV c0 n0 (fun j => w (f j))) (arrV c1 n1 (fun j => w (g j))) 0 0 (nI n) = arrV c1 n1 (fun j => w (xcp n f g j)) := by
    have h9 := va_copied w c0 c1 (n0 := n0) (n1 := n1) (sp := 0) (dp := 0) (n := n) f g (by omega)
    show (arrV c1 n1 (fun j => w (g j))).storeRun (0 : Int32).toNatClampNeg ((arrV c0 n0 (fun j => w (f j))).stretch (0 : Int32).toNatClampNeg (nI n).toNatClampNeg) = _
    rw [hcl, sb_cl0, h9, xcp_eq]
  rw [e1] at Y' step
  have hl : a < H.size := (Array.getElem?_eq_some_iff.mp hc1).1
  have hheap : ((T.setVm vm').setCell a (arrV c1 n1 (fun j => w (xcp n f g j)))).heap = H.setIfInBounds a (arrV c1 n1 (fun j => w (xcp n f g j))) := by rw [← hT]; rfl
  obtain ⟨t, a1, b1⟩ := kk _ _ (show (H.setIfInBounds a _)[a]? = some _ by simp [Array.getElem?_setIfInBounds, hl]) (by simp) (fun q hq => by simp [Array.getElem?_setIfInBounds, Ne.symm hq]) (fun q h => by
      obtain ⟨z, -, hz⟩ := List.mem_map.mp h
      rw [← hz]) _ hheap Y'
  exact ⟨t, step t a1, b1⟩
theorem x_copyi {idx r0 r1 n n0 n1 : Nat} {i z0 z1 : Int32} (hd : decode cc pc = .ok (.invokestatic idx, 3)) (w1 : Cond.methodLink own idx arraycopyName ∈ xws) (w2 : Cond.native arraycopyName ∈ xws) (w3 : Cond.static arraycopyName ∈ xws) (w4 : Cond.initialized "java/lang/System" ∈ xws) (hK0 : K r0 = 10) (hK1 : K r1 = 10) (hN0 : N r0 = n0) (hN1 : N r1 = n1) (hi : i = nI n) (hz0 : z0 = 0) (hz1 : z1 = 0) (h0 : n ≤ n0) (h1 : n ≤ n1) (hn : n < 2147483648) (hdp : 1 ≤ d) (hst : st = [])
    (kk : XW l D X own nm cc nL d mc ms K0 sz0 Z (pc + 3) L st K N R (va_up I r1 (xcp n (I r0) (I r1))) (J) sz kc ks) : XW l D X own nm cc nL d mc ms K0 sz0 Z pc L (.int i :: .int z1 :: .ref r1 :: .int z0 :: .ref r0 :: st) K N R I J sz kc ks := by
  intro p e Rm s m args below meth c H locs cells slots Q ls hC hH hl hE
  subst hi hz0 hz1 hN0 hN1 hst
  cases r0 with
  | zero => exact absurd (hH.1.1.symm.trans hK0) (by omega)
  | succ a0 =>
  cases r1 with
  | zero => exact absurd (hH.1.1.symm.trans hK1) (by omega)
  | succ a =>
    obtain ⟨cA0, g1, g2, g3⟩ := (hH.1.2 a0).2.2.1 hK0
    obtain ⟨cA1, h1', h2, h3⟩ := (hH.1.2 a).2.2.1 hK1
    have hC0 := hC
    obtain ⟨hx, hb, hml, hown, hts, hnw, hKn, hmn, hf1, hf2, hmc, hms, hs0, hX⟩ := hC
    refine x_cpy hx hb (by rw [hml]; exact hl.1.symm) hown (hts _ w1) (hts _ w2) (hts _ w3) (hts _ w4) (fun z => Value.int z) (ty := .int) (f := I (a0 + 1)) (g := I (a + 1)) g3 h3 g1 h1' rfl h0 h1 hn (fun _ => rfl) (fun _ => trivial) (by omega) (by
      have : nativeFrameWords "java/lang/System" "arraycopy" 5 ≤ 29 := by decide
      simp only [List.map_nil, List.sum_nil]
      omega) hd fun H' L1 e1 e2 e3 e4 => ?_
    have h1 := h1'
    refine kk p e Rm s m args below meth c H' _ cells slots Q ls hC0 ⟨?_, e2.trans hH.2.1, hH.2.2.1, ⟨by rw [e2]; exact hH.2.2.2.1.1, fun q k1 k2 => ?_, fun q hq => ?_⟩, hH.2.2.2.2⟩ hl hE
    · have h9 := hH.1.row (Ra := R (a + 1)) (Ia := xcp n (I (a0 + 1)) (I (a + 1))) (Ja := J (a + 1)) e2 e3 (a := a) ⟨fun ci hci hk => by omega, fun _ => ⟨cA1, h1, h2, e1⟩, fun z => by omega, fun z => by omega, fun z => by omega⟩
      rwa [va_up_id, va_up_id] at h9
    · rw [e3 q (fun z => k2 (by rw [z]; exact hH.2.2.1 a (by omega)))]
      exact hH.2.2.2.1.2.1 q k1 k2
    · rcases List.mem_append.mp hq with h | h
      · exact hH.2.2.2.1.2.2 q h
      · rw [e4 q h]; exact hH.2.2.1 a (by omega)
theorem x_copyl {idx r0 r1 n n0 n1 : Nat} {i z0 z1 : Int32} (hd : decode cc pc = .ok (.invokestatic idx, 3)) (w1 : Cond.methodLink own idx arraycopyName ∈ xws) (w2 : Cond.native arraycopyName ∈ xws) (w3 : Cond.static arraycopyName ∈ xws) (w4 : Cond.initialized "java/lang/System" ∈ xws) (hK0 : K r0 = 11) (hK1 : K r1 = 11) (hN0 : N r0 = n0) (hN1 : N r1 = n1) (hi : i = nI n) (hz0 : z0 = 0) (hz1 : z1 = 0) (h0 : n ≤ n0) (h1 : n ≤ n1) (hn : n < 2147483648) (hdp : 1 ≤ d) (hst : st = [])
    (kk : XW l D X own nm cc nL d mc ms K0 sz0 Z (pc + 3) L st K N R (I) (va_up J r1 (xcp n (J r0) (J r1))) sz kc ks) : XW l D X own nm cc nL d mc ms K0 sz0 Z pc L (.int i :: .int z1 :: .ref r1 :: .int z0 :: .ref r0 :: st) K N R I J sz kc ks := by
  intro p e Rm s m args below meth c H locs cells slots Q ls hC hH hl hE
  subst hi hz0 hz1 hN0 hN1 hst
  cases r0 with
  | zero => exact absurd (hH.1.1.symm.trans hK0) (by omega)
  | succ a0 =>
  cases r1 with
  | zero => exact absurd (hH.1.1.symm.trans hK1) (by omega)
  | succ a =>
    obtain ⟨cA0, g1, g2, g3⟩ := (hH.1.2 a0).2.2.2.1 hK0
    obtain ⟨cA1, h1', h2, h3⟩ := (hH.1.2 a).2.2.2.1 hK1
    have hC0 := hC
    obtain ⟨hx, hb, hml, hown, hts, hnw, hKn, hmn, hf1, hf2, hmc, hms, hs0, hX⟩ := hC
    refine x_cpy hx hb (by rw [hml]; exact hl.1.symm) hown (hts _ w1) (hts _ w2) (hts _ w3) (hts _ w4) (fun z => Value.long z) (ty := .long) (f := J (a0 + 1)) (g := J (a + 1)) g3 h3 g1 h1' rfl h0 h1 hn (fun _ => rfl) (fun _ => trivial) (by omega) (by
      have : nativeFrameWords "java/lang/System" "arraycopy" 5 ≤ 29 := by decide
      simp only [List.map_nil, List.sum_nil]
      omega) hd fun H' L1 e1 e2 e3 e4 => ?_
    have h1 := h1'
    refine kk p e Rm s m args below meth c H' _ cells slots Q ls hC0 ⟨?_, e2.trans hH.2.1, hH.2.2.1, ⟨by rw [e2]; exact hH.2.2.2.1.1, fun q k1 k2 => ?_, fun q hq => ?_⟩, hH.2.2.2.2⟩ hl hE
    · have h9 := hH.1.row (Ra := R (a + 1)) (Ia := I (a + 1)) (Ja := xcp n (J (a0 + 1)) (J (a + 1))) e2 e3 (a := a) ⟨fun ci hci hk => by omega, fun z => by omega, fun _ => ⟨cA1, h1, h2, e1⟩, fun z => by omega, fun z => by omega⟩
      rwa [va_up_id, va_up_id] at h9
    · rw [e3 q (fun z => k2 (by rw [z]; exact hH.2.2.1 a (by omega)))]
      exact hH.2.2.2.1.2.1 q k1 k2
    · rcases List.mem_append.mp hq with h | h
      · exact hH.2.2.2.1.2.2 q h
      · rw [e4 q h]; exact hH.2.2.1 a (by omega)
/-- the law's own script -/
def xscr (b Ln : Nat) (xs : Nat → Int32) (s : State) : Prop := va_X b Ln xs s s.heap ∧ b < s.heap.size
theorem x_sld {b Ln : Nat} {xs : Nat → Int32} (j : Nat) {i : Int32} (hX : ∀ s, X s → xscr b Ln xs s) (h0 : K0 (b + 1) = 0) (hd : decode cc pc = .ok (.iaload, 1)) (hi : i = nI j) (hj : j < Ln) (hn : Ln < 2147483648) (kk : XW l D X own nm cc nL d mc ms K0 sz0 Z (pc + 1) L (.int (xs j) :: st) K N R I J sz kc ks) : XW l D X own nm cc nL d mc ms K0 sz0 Z pc L (.int i :: .ref (b + 1) :: st) K N R I J sz kc ks := by
  intro p e Rm s m args below meth c H locs cells slots Q ls hC hH hl hE
  have k1 := kk p e Rm s m args below meth c H locs cells slots Q ls hC hH hl hE
  obtain ⟨hx1, hx2⟩ := hX s hC.2.2.2.2.2.2.2.2.2.2.2.2.2
  have h3 : s.heap.size = sz0 := hC.2.2.2.2.2.2.2.2.2.2.2.2.1
  have hbA : ¬ xfr K0 sz0 b := by
    rintro (h | h)
    · exact h h0
    · omega
  subst hi
  have hcl : (nI j).toNatClampNeg = j := nI_clamp (by omega)
  refine va_sld hC.1 hC.2.1 hx1 hx2 hbA hH.2.2.2.1 (i := nI j) (vp_in_nI hj hn) hd ?_
  rw [hcl]
  exact k1
theorem x_slen {b Ln : Nat} {xs : Nat → Int32} (hX : ∀ s, X s → xscr b Ln xs s) (h0 : K0 (b + 1) = 0) (hd : decode cc pc = .ok (.arraylength, 1)) (kk : XW l D X own nm cc nL d mc ms K0 sz0 Z (pc + 1) L (.int (nI Ln) :: st) K N R I J sz kc ks) : XW l D X own nm cc nL d mc ms K0 sz0 Z pc L (.ref (b + 1) :: st) K N R I J sz kc ks := by
  intro p e Rm s m args below meth c H locs cells slots Q ls hC hH hl hE
  have k1 := kk p e Rm s m args below meth c H locs cells slots Q ls hC hH hl hE
  obtain ⟨hx1, hx2⟩ := hX s hC.2.2.2.2.2.2.2.2.2.2.2.2.2
  have h3 : s.heap.size = sz0 := hC.2.2.2.2.2.2.2.2.2.2.2.2.1
  have hbA : ¬ xfr K0 sz0 b := by
    rintro (h | h)
    · exact h h0
    · omega
  exact va_slen hC.1 hC.2.1 hx1 hx2 hbA hH.2.2.2.1 hd k1
end XE
