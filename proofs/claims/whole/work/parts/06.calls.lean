/-! Contracts and calls -/
def xPc (D : va_G) (as : List Value) (K N : Nat → Nat) (R : Nat → Nat → Nat) (I : Nat → Nat → Int32) (J : Nat → Nat → Int64) (sz : Nat) : Array Value → State → Prop := va_Pc (as.map tv) (fun U => U.heap.size = sz ∧ va_K D vwCl [] U ∧ (∀ w ∈ xnest, va_Nw w U) ∧ hp U D K N R I J U.heap)
def xQc (D : va_G) (K0 : Nat → Nat) (sz0 : Nat) (Z : ZT) : Array Value → State → Outcome → State → Prop := fun _ st oc t => (∃ (v : Option Value) (K N : Nat → Nat) (R : Nat → Nat → Nat) (I : Nat → Nat → Int32) (J : Nat → Nat → Int64), oc = .returned (v.map tv) ∧ Z v K N R I J t.heap.size ∧ hp t D K N R I J t.heap ∧ (∀ q, K (q + 1) ≠ 0 → xfr K0 sz0 q)) ∧ va_F (xfr K0 sz0) st t
def xrm (d mc ms : Nat) : Room := { frames := d, cells := mc, slots := ms, locals := 40 * d }
def XM (l : Launch) (D : va_G) (y : MethodName) (cc : ByteArray) (nL : Nat) (ret : Option FieldType) (d mc ms : Nat) (as : List Value) (K N : Nat → Nat) (R : Nat → Nat → Nat) (I : Nat → Nat → Int32) (J : Nat → Nat → Int64) (sz : Nat) (Z : ZT) : Prop :=
  Met l y (.code y cc nL ret :: xws) (xrm d mc ms) (xPc D as K N R I J sz) (xQc D K sz Z) mc ms (xfr K sz)
def xrt : Option FieldType → Option Value → Prop
  | none, v => v = none
  | some .int, v => ∃ x : Int32, v = some (.int x)
  | some .boolean, v => v = some (.int 0) ∨ v = some (.int 1)
  | some .long, v => ∃ x : Int64, v = some (.long x)
  | some (.object _), v => ∃ r : Nat, v = some (.ref r)
  | _, _ => False
def xla : List Value → List Value
  | [] => []
  | v :: t => if v.category = 2 then v :: .null :: xla t else v :: xla t
theorem xla_args : ∀ (as : List Value) (b i : Nat) (v : Value), (xla as)[i]? = some v → v ≠ .null → (b + i, tv v) ∈ lv_args b (as.map tv) := by
  intro as
  induction as with
  | nil => intro b i v h; simp [xla] at h
  | cons a t ih =>
    intro b i v h hv
    show (b + i, tv v) ∈ (b, tv a) :: lv_args (if (tv a).category = 2 then b + 2 else b + 1) (t.map tv)
    rw [tv_cat]
    unfold xla at h
    by_cases hc : a.category = 2
    · rw [if_pos hc] at h
      rw [if_pos hc]
      match i, h with
      | 0, h => cases h; exact List.mem_cons_self
      | 1, h => cases h; exact absurd rfl hv
      | i + 2, h =>
        have := ih (b + 2) i v h hv
        rw [show b + 2 + i = b + (i + 2) by omega] at this
        exact List.mem_cons_of_mem _ this
    · rw [if_neg hc] at h
      rw [if_neg hc]
      match i, h with
      | 0, h => cases h; exact List.mem_cons_self
      | i + 1, h =>
        have := ih (b + 1) i v h hv
        rw [show b + 1 + i = b + (i + 1) by omega] at this
        exact List.mem_cons_of_mem _ this
theorem xla_sl : ∀ as : List Value, (lg_sl (as.map tv)).length = (xla as).length := by
  intro as
  induction as with
  | nil => rfl
  | cons a t ih =>
    have e : lg_sl ((a :: t).map tv) = (if (tv a).category = 2 then [Slot.val (tv a), .second] else [.val (tv a)]) ++ lg_sl (t.map tv) := by simp [lg_sl]
    rw [e, List.length_append, ih, tv_cat, show xla (a :: t) = if a.category = 2 then a :: .null :: xla t else a :: xla t from rfl]
    by_cases hc : a.category = 2
    · rw [if_pos hc, if_pos hc]; simp; omega
    · rw [if_neg hc, if_neg hc]; simp; omega
theorem xr_shape (r : Nat) : tv (.ref r) = .null ∨ ∃ a, tv (.ref r) = .ref a := by
  cases r with
  | zero => exact Or.inl rfl
  | succ a => exact Or.inr ⟨a, rfl⟩
theorem XM.of {l : Launch} {D : va_G} {y : MethodName} {own nm : String} {cc : ByteArray} {nL d mc ms : Nat} {ret : Option FieldType} {as : List Value} {K N : Nat → Nat} {R : Nat → Nat → Nat} {I : Nat → Nat → Int32} {J : Nat → Nat → Int64} {sz : Nat} {Z : ZT}
    (hy : plainName y.cls = true) (hown : y.cls = own) (hnm : y.name = nm) (hlen : (xla as).length ≤ nL) (L : List Value) (hL : L = xla as ++ List.replicate (nL - (xla as).length) .null) (hrt : ∀ v K N R I J sz, Z v K N R I J sz → xrt ret v)
    (body : XW l D (fun _ => True) own nm cc nL d mc ms K sz Z 0 L [] K N R I J sz mc ms) : XM l D y cc nL ret d mc ms as K N R I J sz Z := by
  refine Met.ofW (cc := cc) (maxL := nL) (ret := ret) hy rfl ?_
  intro p e s m args below meth c s₁ B hml hv
  obtain ⟨rfl, hsz, hKn, hnw, hh⟩ := hv
  have hts := atoms_spec (ws := .code y cc nL ret :: xws) B.pre
  have hlk := B.notSynchronized
  rw [lg_entry_eq]
  have hent := lv_entry (as.map tv) (n := nL) (by rw [xla_sl]; exact hlen)
  refine body p e _ s m _ below meth c s.heap [] 0 0 _ _ ⟨B.exec, B.bytes, hml, hown ▸ findClass_of_methodNamed B.named, fun w hw => hts w (List.mem_cons_of_mem _ hw), hnw, hKn, ((name_of_methodNamed B.named B.method).1).trans hnm, Nat.le_refl _, Nat.le_refl _, Nat.le_refl _, Nat.le_refl _, hsz, trivial⟩ ⟨hh, hsz, fun q hq => Or.inl hq, va_S.rf, by omega, by omega⟩ ⟨hent.1, hent.2.1, fun i v h hv => ?_⟩ ?_
  · subst hL
    by_cases hi : i < (xla as).length
    · rw [List.getElem?_append_left hi] at h
      have := xla_args as 0 i v h hv
      rw [Nat.zero_add] at this
      exact hent.2.2 _ this
    · rw [List.getElem?_append_right (by omega)] at h
      exact absurd (List.eq_of_mem_replicate (List.mem_of_getElem? h)) hv
  · intro v K' N' R' I' J' sz' H' locs' cells' slots' pc' ls' hz hH' hdec
    have hr := B.returns
    have h1 := hH'.2.2.2.2.1
    have h2 := hH'.2.2.2.2.2
    refine W.widen (k := mc) (n := ms) (by omega) (by omega) ?_
    have hq : ∀ t : State, t.heap = H' → s.WarmedH t.vm → xQc D K sz Z (as.map tv).toArray s (.returned (v.map tv)) t := by
      intro t ht hW
      refine ⟨⟨v, K', N', R', I', J', rfl, by rw [ht, hH'.2.1]; exact hz, by rw [ht]; exact hH'.1.moved hW.alike, hH'.2.2.1⟩, ?_⟩
      exact hH'.2.2.2.1.F ht
    have hx := hrt v _ _ _ _ _ _ hz
    match ret, v, hx, hr with
    | none, _, rfl, hr => exact W.vret B.exec B.bytes hr hq hH'.2.2.2.1.2.2 hdec hlk
    | some .int, _, ⟨x, rfl⟩, hr => exact W.iret B.exec B.bytes hr hq hH'.2.2.2.1.2.2 hdec hlk
    | some .boolean, _, Or.inl rfl, hr => exact W.zret B.exec B.bytes hr rfl hq hH'.2.2.2.1.2.2 hdec hlk
    | some .boolean, _, Or.inr rfl, hr => exact W.zret B.exec B.bytes hr rfl hq hH'.2.2.2.1.2.2 hdec hlk
    | some .long, _, ⟨x, rfl⟩, hr => exact W.lret B.exec B.bytes hr hq hH'.2.2.2.1.2.2 hdec hlk
    | some (.object C), _, ⟨r, rfl⟩, hr => exact W.aret B.exec B.bytes hr (Or.inl ⟨_, rfl⟩) (xr_shape r) hq hH'.2.2.2.1.2.2 hdec hlk
theorem xPc_blind {D : va_G} {as : List Value} {K N : Nat → Nat} {R : Nat → Nat → Nat} {I : Nat → Nat → Int32} {J : Nat → Nat → Int64} {sz : Nat} : FrameBlind (xPc D as K N R I J sz) := by
  intro a U g mk h
  obtain ⟨h0, h1, h2, h3, h4⟩ := h
  exact ⟨h0, h1, va_K.moved (u := U) (U := U.calling g mk a) (Vm.Alike.refl U.vm) h2, xnest_same (s := U) (U := U.calling g mk a) rfl h3, hp.moved (u := U) (U := U.calling g mk a) (Vm.Alike.refl U.vm) h4⟩
/-- a part of an abstract heap -/
def xsub (K N : Nat → Nat) (R : Nat → Nat → Nat) (I : Nat → Nat → Int32) (J : Nat → Nat → Int64) (K1 N1 : Nat → Nat) (R1 : Nat → Nat → Nat) (I1 : Nat → Nat → Int32) (J1 : Nat → Nat → Int64) : Prop := K1 0 = 0 ∧ ∀ r, K1 r ≠ 0 → K r = K1 r ∧ N r = N1 r ∧ R r = R1 r ∧ I r = I1 r ∧ J r = J1 r
theorem xsub.rf {K N : Nat → Nat} {R : Nat → Nat → Nat} {I : Nat → Nat → Int32} {J : Nat → Nat → Int64} (h : K 0 = 0) : xsub K N R I J K N R I J := ⟨h, fun _ _ => ⟨rfl, rfl, rfl, rfl, rfl⟩⟩
theorem hp.sub {s : State} {D : va_G} {K N K1 N1 : Nat → Nat} {R R1 : Nat → Nat → Nat} {I I1 : Nat → Nat → Int32} {J J1 : Nat → Nat → Int64} {H : Heap} (h : hp s D K N R I J H) (hs : xsub K N R I J K1 N1 R1 I1 J1) : hp s D K1 N1 R1 I1 J1 H := by
  refine ⟨hs.1, fun a => ?_⟩
  by_cases hk : K1 (a + 1) = 0
  · exact ⟨fun z => absurd hk z, by rw [hk]; exact xcl.none⟩
  · obtain ⟨e1, e2, e3, e4, e5⟩ := hs.2 (a + 1) hk
    have := h.2 a
    rw [e1, e2, e3, e4, e5] at this
    exact this
/-- what a heap is behind a call that worked on a part of it -/
def xmg {α : Type} (K1 : Nat → Nat) (sz : Nat) (f' f : Nat → α) : Nat → α := fun r => if K1 r ≠ 0 ∨ sz < r then f' r else f r
theorem hp.mg {s t : State} {D : va_G} {K N K1 N1 K' N' : Nat → Nat} {R R1 R' : Nat → Nat → Nat} {I I1 I' : Nat → Nat → Int32} {J J1 J' : Nat → Nat → Int64} {H H1 : Heap} {sz : Nat} (h : hp s D K N R I J H) (hs : xsub K N R I J K1 N1 R1 I1 J1) (hz : H.size = sz) (hz1 : sz ≤ H1.size)
    (h' : hp s D K' N' R' I' J' H1) (hdom : ∀ q, K' (q + 1) ≠ 0 → xfr K1 sz q) (hk : ∀ q, q < sz → ¬ xfr K1 sz q → H1[q]? = H[q]?) : hp s D (xmg K1 sz K' K) (xmg K1 sz N' N) (xmg K1 sz R' R) (xmg K1 sz I' I) (xmg K1 sz J' J) H1 := by
  refine ⟨?_, fun a => ?_⟩
  · show (if _ then _ else _) = 0
    split
    · exact h'.1
    · exact h.1
  · by_cases hc : K1 (a + 1) ≠ 0 ∨ sz < a + 1
    · simp only [xmg, if_pos hc]
      exact h'.2 a
    · simp only [xmg, if_neg hc]
      have hlt : a < sz := by
        rcases Nat.lt_or_ge a sz with q | q
        · exact q
        · exact absurd (Or.inr (by omega)) hc
      have hn : ¬ xfr K1 sz a := by
        rintro (q | q)
        · exact hc (Or.inl q)
        · omega
      exact ⟨fun _ => by omega, (h.2 a).2.kept (hk a hlt hn)⟩
section XCL
variable {l : Launch} {D : va_G} {X : State → Prop} {own nm : String} {cc : ByteArray} {nL d mc ms : Nat} {K0 : Nat → Nat} {sz0 : Nat} {Z : ZT} {pc : Nat} {L st : List Value} {K N : Nat → Nat} {R : Nat → Nat → Nat} {I : Nat → Nat → Int32} {J : Nat → Nat → Int64} {sz kc ks : Nat}
variable {K1 N1 : Nat → Nat} {R1 : Nat → Nat → Nat} {I1 : Nat → Nat → Int32} {J1 : Nat → Nat → Int64} {Z1 : ZT} {mc1 ms1 : Nat}
theorem x_after {p : Program} {e : Env} {Rm : Room} {s : State} {m : MethodId} {args : Array Value} {below : List Frame} {meth : Method} {c : Code} {H : Heap} {locs : List Loc} {cells slots : Nat} {Q : State → Prop} {ls : Array Slot} {st0 : List Value} {a : Array Value}
    (hC : xC p Rm s m args meth c D X own nm cc nL d mc ms sz0) (hH : xH s H locs cells slots D K0 sz0 mc ms K N R I J sz (kc + mc1) (ks + ms1)) (hl : lvs ls nL L) (hE : xE p l e Rm s m args below meth c Q D cc mc ms K0 sz0 Z) (hs : xsub K N R I J K1 N1 R1 I1 J1)
    (hr : va_Run p l e Rm s m args below meth c H locs cells slots mc1 ms1 (F0 m pc ls st0) (st.map tv) (xQc D K1 sz Z1 a) (xfr K1 sz))
    (kk : ∀ (v : Option Value) (K' N' : Nat → Nat) (R' : Nat → Nat → Nat) (I' : Nat → Nat → Int32) (J' : Nat → Nat → Int64) (sz' : Nat), Z1 v K' N' R' I' J' sz' → sz ≤ sz' → (∀ q, K' (q + 1) ≠ 0 → xfr K1 sz q) → K' 0 = 0 → XW l D X own nm cc nL d mc ms K0 sz0 Z (pc + 3) L (v.toList ++ st) (xmg K1 sz K' K) (xmg K1 sz N' N) (xmg K1 sz R' R) (xmg K1 sz I' I) (xmg K1 sz J' J) sz' kc ks) :
    W p l e Rm s m args below meth c H locs cells slots Q (F0 m pc ls st0) := by
  intro T hT Y
  obtain ⟨v0, st₀, t, T', Lc, h0, Y', hLc, e1, e2, ⟨⟨v, K', N', R', I', J', hv, hz, hh, hdom⟩, hF⟩, stp⟩ := hr T hT Y
  have hv : v0 = v.map tv := Outcome.returned.inj hv
  subst hv
  obtain ⟨hz1, hk1⟩ := hF
  rw [h0, hH.2.1] at hz1
  rw [h0, hH.2.1] at hk1
  have hvm : s.vm.Alike t.vm := by rw [← e2]; exact Y'.warmed.alike
  have hh' : hp s D K' N' R' I' J' t.heap := hh.moved hvm.symm
  have hfr : ∀ q, xfr K1 sz q → xfr K0 sz0 q := by
    rintro q (h | h)
    · refine hH.2.2.1 q ?_
      rw [(hs.2 (q + 1) h).1]; exact h
    · have h1 := hH.2.2.2.1.1
      have h2 := hH.2.1
      have h3 : s.heap.size = sz0 := hC.2.2.2.2.2.2.2.2.2.2.2.2.1
      exact Or.inr (by omega)
  have hH2 : xH s T'.heap (locs ++ Lc) (cells + mc1) (slots + ms1) D K0 sz0 mc ms (xmg K1 sz K' K) (xmg K1 sz N' N) (xmg K1 sz R' R) (xmg K1 sz I' I) (xmg K1 sz J' J) t.heap.size kc ks := by
    refine ⟨?_, by rw [e1], fun q hq => ?_, ⟨?_, fun q g1 g2 => ?_, fun q hq => ?_⟩, ?_, ?_⟩
    · rw [e1]
      exact hH.1.mg (t := t) hs hH.2.1 hz1 hh' hdom hk1
    · by_cases hc : K1 (q + 1) ≠ 0 ∨ sz < q + 1
      · simp only [xmg, if_pos hc] at hq
        exact hfr q (hdom q hq)
      · simp only [xmg, if_neg hc] at hq
        exact hH.2.2.1 q hq
    · rw [e1]
      have := hH.2.2.2.1.1
      have := hH.2.1
      omega
    · have h1 := hH.2.2.2.1.1
      have h2 := hH.2.1
      rw [e1, hk1 q (by omega) (fun z => g2 (hfr q z))]
      exact hH.2.2.2.1.2.1 q g1 g2
    · rcases List.mem_append.mp hq with h | h
      · exact hH.2.2.2.1.2.2 q h
      · exact hfr _ (hLc q h)
    · have := hH.2.2.2.2.1; omega
    · have := hH.2.2.2.2.2; omega
  obtain ⟨t2, a1, b1⟩ := kk v K' N' R' I' J' t.heap.size hz hz1 hdom hh.1 p e Rm s m args below meth c T'.heap (locs ++ Lc) (cells + mc1) (slots + ms1) Q ls hC hH2 hl hE T' rfl Y'
  refine ⟨t2, stp t2 ?_, b1⟩
  have e9 : (v.map tv).toList ++ st.map tv = (v.toList ++ st).map tv := by cases v <;> simp
  rw [e9]
  exact a1
def xcd (y : MethodName) (cc : ByteArray) (nL : Nat) (ret : Option FieldType) (n : Nat) : Prop := Cond.code y cc nL ret ∈ xws ∧ Cond.initialized y.cls ∈ xws ∧ (y.cls ≠ "java/lang/invoke/MethodHandle" ∧ y.cls ≠ "java/lang/invoke/VarHandle" ∧ (parseMethodDescriptor y.desc).map (fun d => d.parameters.length) = some n) ∧ nL ≤ 21
theorem xcatsum (st : List Value) : ((st.map tv).map fun v => v.category).sum = (st.map fun v => v.category).sum := by rw [List.map_map]; congr 2; funext v; exact tv_cat v
theorem xPreS {s : State} {as : List Value} {H : Heap} (hKn : va_K D vwCl [] s) (hnw : ∀ w ∈ xnest, va_Nw w s) (hh : hp s D K1 N1 R1 I1 J1 H) (hz : H.size = sz) : PreS s H (xPc D as K1 N1 R1 I1 J1 sz) (as.map tv) :=
  ⟨xPc_blind, fun U hU hW => ⟨rfl, by rw [hU]; exact hz, va_K.moved hW.alike hKn, xnest_warm hW hnw, by rw [hU]; exact hh.moved hW.alike⟩⟩
/-- how a call finds its method: its own class's or another's by link, or a nest mate's -/
def xlk (own : String) (idx : Nat) (y : MethodName) : Prop := Cond.methodLink own idx y ∈ xws ∨ ∃ host, Cond.methodLinkNest own idx y host ∈ xnest
theorem x_callV {y : MethodName} {c1 : ByteArray} {nL1 n d1 idx b ci : Nat} {ret1 : Option FieldType} {As : List Value} {st0 : List Value} (hM : XM l D y c1 nL1 ret1 d1 mc1 ms1 (.ref b :: As) K1 N1 R1 I1 J1 sz Z1) (hs : xsub K N R I J K1 N1 R1 I1 J1)
    (hd : decode cc pc = .ok (.invokevirtual idx, 3)) (hlk : xlk own idx y) (hin : Cond.instanceMethod y ∈ xws) (hse : Cond.selects y.cls y y ∈ xws) (hcd : xcd y c1 nL1 ret1 n) (hci : ci < 4) (hKb : K b = ci + 1) (hcl : ∃ T nn, vwCl[ci]? = some (y.cls, T, nn)) (hn : As.length = n) (hdp : d1 + 1 ≤ d) (hst0 : st0 = As.reverse ++ .ref b :: st) (hst : (st.map fun v => v.category).sum ≤ 8)
    (kk : ∀ (v : Option Value) (K' N' : Nat → Nat) (R' : Nat → Nat → Nat) (I' : Nat → Nat → Int32) (J' : Nat → Nat → Int64) (sz' : Nat), Z1 v K' N' R' I' J' sz' → sz ≤ sz' → (∀ q, K' (q + 1) ≠ 0 → xfr K1 sz q) → K' 0 = 0 → XW l D X own nm cc nL d mc ms K0 sz0 Z (pc + 3) L (v.toList ++ st) (xmg K1 sz K' K) (xmg K1 sz N' N) (xmg K1 sz R' R) (xmg K1 sz I' I) (xmg K1 sz J' J) sz' kc ks) :
    XW l D X own nm cc nL d mc ms K0 sz0 Z pc L st0 K N R I J sz (kc + mc1) (ks + ms1) := by
  intro p e Rm s m args below meth c H locs cells slots Q ls hC hH hl hE
  refine x_after (a := (Value.ref (b - 1) :: As.map tv).toArray) hC hH hl hE hs ?_ kk
  obtain ⟨hx, hb, hml, hown, hts, hnw, hKn, hmn, hf1, hf2, hmc, hms, hs0, hX⟩ := hC
  obtain ⟨w1, w2, w3, w4⟩ := hcd
  obtain ⟨T0, nn, hcl⟩ := hcl
  have hcb := hH.2.2.2.2.1
  have hsb := hH.2.2.2.2.2
  cases b with
  | zero => exact absurd (hH.1.1.symm.trans hKb) (by omega)
  | succ b =>
    have hpre := xPreS (as := .ref (b + 1) :: As) hKn hnw (hH.1.sub hs) hH.2.1
    obtain ⟨cellB, g1, g2, g3, -⟩ := (hH.1.2 b).2.1 ci hci hKb _ hcl
    have hrec : ∃ cellB : Cell, H[b]? = some cellB ∧ cellB.vm.isStatics = false ∧ s.vm.findClass y.cls = some cellB.cls := ⟨cellB, g1, by rw [g3]; rfl, by rw [g2]; exact (hKn.1 ci _ hcl).2.1⟩
    have hstk : (F0 m pc ls (st0.map tv)).stack = (As.map tv).reverse ++ .ref b :: st.map tv := by
      show st0.map tv = _
      rw [hst0, List.map_append, List.map_reverse]; rfl
    have hW8 : 2 * (F0 m pc ls (st0.map tv)).monitorRoom + ((st.map tv).map fun v => v.category).sum ≤ 8 := by
      rw [xcatsum]; show 2 * 0 + _ ≤ 8; omega
    rcases hlk with hlk | ⟨host, hlk⟩
    · exact va_runV (C := y.cls) (b := b) (As := As.map tv) (Ts := xws) ⟨hx, hb, hml, hown, hts⟩ hM ⟨callB_of (ws' := xws) n hts (xws_good w1) rfl rfl rfl (hts _ w2) (hts _ hlk) w3 ⟨by show d1 + 1 ≤ _; omega, by show 8 + (nL1 + 11) + 40 * d1 ≤ _; omega⟩, hts _ hin, hts _ hse⟩ ⟨hpre.1, hrec, hpre.2⟩ rfl (by simpa using hn) hl.1 hstk hW8 hd ⟨by omega, by omega⟩
    · exact va_runVN (C := y.cls) (b := b) (As := As.map tv) (Ts := xws) ⟨hx, hb, hml, hown, hts⟩ hM ⟨va_cnB (ws' := xws) n hts (xws_good w1) rfl rfl rfl (hnw _ hlk) (hts _ w2) w3 ⟨by show d1 + 1 ≤ _; omega, by show 8 + (nL1 + 11) + 40 * d1 ≤ _; omega⟩, hts _ hin, hts _ hse⟩ ⟨hpre.1, hrec, hpre.2⟩ rfl (by simpa using hn) hl.1 hstk hW8 hd ⟨by omega, by omega⟩
theorem x_callS {y : MethodName} {c1 : ByteArray} {nL1 n d1 idx : Nat} {ret1 : Option FieldType} {As : List Value} {st0 : List Value} (hM : XM l D y c1 nL1 ret1 d1 mc1 ms1 As K1 N1 R1 I1 J1 sz Z1) (hs : xsub K N R I J K1 N1 R1 I1 J1)
    (hd : decode cc pc = .ok (.invokestatic idx, 3)) (hlk : xlk own idx y) (hstt : Cond.static y ∈ xws) (hcd : xcd y c1 nL1 ret1 n) (hn : As.length = n) (hdp : d1 + 1 ≤ d) (hst0 : st0 = As.reverse ++ st) (hst : (st.map fun v => v.category).sum ≤ 8)
    (kk : ∀ (v : Option Value) (K' N' : Nat → Nat) (R' : Nat → Nat → Nat) (I' : Nat → Nat → Int32) (J' : Nat → Nat → Int64) (sz' : Nat), Z1 v K' N' R' I' J' sz' → sz ≤ sz' → (∀ q, K' (q + 1) ≠ 0 → xfr K1 sz q) → K' 0 = 0 → XW l D X own nm cc nL d mc ms K0 sz0 Z (pc + 3) L (v.toList ++ st) (xmg K1 sz K' K) (xmg K1 sz N' N) (xmg K1 sz R' R) (xmg K1 sz I' I) (xmg K1 sz J' J) sz' kc ks) :
    XW l D X own nm cc nL d mc ms K0 sz0 Z pc L st0 K N R I J sz (kc + mc1) (ks + ms1) := by
  intro p e Rm s m args below meth c H locs cells slots Q ls hC hH hl hE
  refine x_after (a := (As.map tv).toArray) hC hH hl hE hs ?_ kk
  obtain ⟨hx, hb, hml, hown, hts, hnw, hKn, hmn, hf1, hf2, hmc, hms, hs0, hX⟩ := hC
  obtain ⟨w1, w2, w3, w4⟩ := hcd
  have hcb := hH.2.2.2.2.1
  have hsb := hH.2.2.2.2.2
  have hpre := xPreS (as := As) hKn hnw (hH.1.sub hs) hH.2.1
  have hstk : (F0 m pc ls (st0.map tv)).stack = (As.map tv).reverse ++ st.map tv := by
    show st0.map tv = _
    rw [hst0, List.map_append, List.map_reverse]
  have hW8 : 2 * (F0 m pc ls (st0.map tv)).monitorRoom + ((st.map tv).map fun v => v.category).sum ≤ 8 := by
    rw [xcatsum]; show 2 * 0 + _ ≤ 8; omega
  rcases hlk with hlk | ⟨host, hlk⟩
  · exact va_runS (As := As.map tv) (Ts := xws) ⟨hx, hb, hml, hown, hts⟩ hM ⟨callB_of (ws' := xws) n hts (xws_good w1) rfl rfl rfl (hts _ w2) (hts _ hlk) w3 ⟨by show d1 + 1 ≤ _; omega, by show 8 + (nL1 + 11) + 40 * d1 ≤ _; omega⟩, hts _ hstt⟩ hpre rfl (by simpa using hn) hl.1 hstk hW8 hd ⟨by omega, by omega⟩
  · exact va_runSN (As := As.map tv) (Ts := xws) ⟨hx, hb, hml, hown, hts⟩ hM ⟨va_cnB (ws' := xws) n hts (xws_good w1) rfl rfl rfl (hnw _ hlk) (hts _ w2) w3 ⟨by show d1 + 1 ≤ _; omega, by show 8 + (nL1 + 11) + 40 * d1 ≤ _; omega⟩, hts _ hstt, trivial⟩ hpre rfl (by simpa using hn) hl.1 hstk hW8 hd ⟨by omega, by omega⟩
theorem x_callI {y : MethodName} {c1 : ByteArray} {nL1 n d1 idx b : Nat} {As : List Value} {st0 : List Value} (hM : XM l D y c1 nL1 none d1 mc1 ms1 (.ref b :: As) K1 N1 R1 I1 J1 sz Z1) (hs : xsub K N R I J K1 N1 R1 I1 J1)
    (hd : decode cc pc = .ok (.invokespecial idx, 3)) (hlk : xlk own idx y) (hin : Cond.instanceMethod y ∈ xws) (hy1 : y.name = "<init>") (hcd : xcd y c1 nL1 none n) (hb0 : b ≠ 0) (hn : As.length = n) (hdp : d1 + 1 ≤ d) (hst0 : st0 = As.reverse ++ .ref b :: st) (hst : (st.map fun v => v.category).sum ≤ 8)
    (kk : ∀ (v : Option Value) (K' N' : Nat → Nat) (R' : Nat → Nat → Nat) (I' : Nat → Nat → Int32) (J' : Nat → Nat → Int64) (sz' : Nat), Z1 v K' N' R' I' J' sz' → sz ≤ sz' → (∀ q, K' (q + 1) ≠ 0 → xfr K1 sz q) → K' 0 = 0 → XW l D X own nm cc nL d mc ms K0 sz0 Z (pc + 3) L (v.toList ++ st) (xmg K1 sz K' K) (xmg K1 sz N' N) (xmg K1 sz R' R) (xmg K1 sz I' I) (xmg K1 sz J' J) sz' kc ks) :
    XW l D X own nm cc nL d mc ms K0 sz0 Z pc L st0 K N R I J sz (kc + mc1) (ks + ms1) := by
  intro p e Rm s m args below meth c H locs cells slots Q ls hC hH hl hE
  refine x_after (a := (Value.ref (b - 1) :: As.map tv).toArray) hC hH hl hE hs ?_ kk
  obtain ⟨hx, hb, hml, hown, hts, hnw, hKn, hmn, hf1, hf2, hmc, hms, hs0, hX⟩ := hC
  obtain ⟨w1, w2, w3, w4⟩ := hcd
  have hcb := hH.2.2.2.2.1
  have hsb := hH.2.2.2.2.2
  cases b with
  | zero => exact absurd rfl hb0
  | succ b =>
    have hpre := xPreS (as := .ref (b + 1) :: As) hKn hnw (hH.1.sub hs) hH.2.1
    have hstk : (F0 m pc ls (st0.map tv)).stack = (As.map tv).reverse ++ .ref b :: st.map tv := by
      show st0.map tv = _
      rw [hst0, List.map_append, List.map_reverse]; rfl
    have hW8 : 2 * (F0 m pc ls (st0.map tv)).monitorRoom + ((st.map tv).map fun v => v.category).sum ≤ 8 := by
      rw [xcatsum]; show 2 * 0 + _ ≤ 8; omega
    rcases hlk with hlk | ⟨host, hlk⟩
    · exact va_runI (b := b) (As := As.map tv) (Ts := xws) ⟨hx, hb, hml, hown, hts⟩ hM ⟨callB_of (ws' := xws) n hts (xws_good w1) rfl rfl rfl (hts _ w2) (hts _ hlk) w3 ⟨by show d1 + 1 ≤ _; omega, by show 8 + (nL1 + 11) + 40 * d1 ≤ _; omega⟩, hy1, hts _ hin⟩ hpre rfl (by simpa using hn) hl.1 hstk hW8 hd ⟨by omega, by omega⟩
    · exact va_runIN (b := b) (As := As.map tv) (Ts := xws) ⟨hx, hb, hml, hown, hts⟩ hM ⟨va_cnB (ws' := xws) n hts (xws_good w1) rfl rfl rfl (hnw _ hlk) (hts _ w2) w3 ⟨by show d1 + 1 ≤ _; omega, by show 8 + (nL1 + 11) + 40 * d1 ≤ _; omega⟩, hy1, hts _ hin⟩ hpre rfl (by simpa using hn) hl.1 hstk hW8 hd ⟨by omega, by omega⟩
theorem x_weak (hs : xsub K N R I J K1 N1 R1 I1 J1) (k : XW l D X own nm cc nL d mc ms K0 sz0 Z pc L st K1 N1 R1 I1 J1 sz kc ks) : XW l D X own nm cc nL d mc ms K0 sz0 Z pc L st K N R I J sz kc ks := by
  intro p e Rm s m args below meth c H locs cells slots Q ls hC hH hl hE
  exact k p e Rm s m args below meth c H locs cells slots Q ls hC ⟨hH.1.sub hs, hH.2.1, fun q hq => hH.2.2.1 q (by rw [(hs.2 (q + 1) hq).1]; exact hq), hH.2.2.2⟩ hl hE
theorem xsub_mg {K' N' : Nat → Nat} {R' : Nat → Nat → Nat} {I' : Nat → Nat → Int32} {J' : Nat → Nat → Int64} (hdom : ∀ q, K' (q + 1) ≠ 0 → xfr K1 sz q) (h0 : K' 0 = 0) : xsub (xmg K1 sz K' K) (xmg K1 sz N' N) (xmg K1 sz R' R) (xmg K1 sz I' I) (xmg K1 sz J' J) K' N' R' I' J' := by
  refine ⟨h0, fun r hr => ?_⟩
  have hc : K1 r ≠ 0 ∨ sz < r := by
    cases r with
    | zero => exact absurd h0 hr
    | succ q =>
      rcases hdom q hr with h | h
      · exact Or.inl h
      · exact Or.inr (by omega)
  simp only [xmg, if_pos hc]
  exact ⟨trivial, trivial, trivial, trivial, trivial⟩
theorem x_cV {y : MethodName} {c1 : ByteArray} {nL1 n d1 idx b ci : Nat} {ret1 : Option FieldType} {As : List Value} {st0 : List Value} (hM : XM l D y c1 nL1 ret1 d1 mc1 ms1 (.ref b :: As) K N R I J sz Z1)
    (hd : decode cc pc = .ok (.invokevirtual idx, 3)) (hlk : xlk own idx y) (hin : Cond.instanceMethod y ∈ xws) (hse : Cond.selects y.cls y y ∈ xws) (hcd : xcd y c1 nL1 ret1 n) (hci : ci < 4) (hKb : K b = ci + 1) (hcl : ∃ T nn, vwCl[ci]? = some (y.cls, T, nn)) (hn : As.length = n) (hdp : d1 + 1 ≤ d) (hst0 : st0 = As.reverse ++ .ref b :: st) (hst : (st.map fun v => v.category).sum ≤ 8)
    (kk : ∀ (v : Option Value) (K' N' : Nat → Nat) (R' : Nat → Nat → Nat) (I' : Nat → Nat → Int32) (J' : Nat → Nat → Int64) (sz' : Nat), Z1 v K' N' R' I' J' sz' → sz ≤ sz' → XW l D X own nm cc nL d mc ms K0 sz0 Z (pc + 3) L (v.toList ++ st) K' N' R' I' J' sz' kc ks) :
    XW l D X own nm cc nL d mc ms K0 sz0 Z pc L st0 K N R I J sz (kc + mc1) (ks + ms1) := by
  intro p e Rm s m args below meth c H locs cells slots Q ls hC hH hl hE
  exact x_callV hM (xsub.rf hH.1.1) hd hlk hin hse hcd hci hKb hcl hn hdp hst0 hst (fun v K' N' R' I' J' sz' hz h1 h2 h3 => x_weak (xsub_mg h2 h3) (kk v K' N' R' I' J' sz' hz h1)) p e Rm s m args below meth c H locs cells slots Q ls hC hH hl hE
theorem x_cS {y : MethodName} {c1 : ByteArray} {nL1 n d1 idx : Nat} {ret1 : Option FieldType} {As : List Value} {st0 : List Value} (hM : XM l D y c1 nL1 ret1 d1 mc1 ms1 As K N R I J sz Z1)
    (hd : decode cc pc = .ok (.invokestatic idx, 3)) (hlk : xlk own idx y) (hstt : Cond.static y ∈ xws) (hcd : xcd y c1 nL1 ret1 n) (hn : As.length = n) (hdp : d1 + 1 ≤ d) (hst0 : st0 = As.reverse ++ st) (hst : (st.map fun v => v.category).sum ≤ 8)
    (kk : ∀ (v : Option Value) (K' N' : Nat → Nat) (R' : Nat → Nat → Nat) (I' : Nat → Nat → Int32) (J' : Nat → Nat → Int64) (sz' : Nat), Z1 v K' N' R' I' J' sz' → sz ≤ sz' → XW l D X own nm cc nL d mc ms K0 sz0 Z (pc + 3) L (v.toList ++ st) K' N' R' I' J' sz' kc ks) :
    XW l D X own nm cc nL d mc ms K0 sz0 Z pc L st0 K N R I J sz (kc + mc1) (ks + ms1) := by
  intro p e Rm s m args below meth c H locs cells slots Q ls hC hH hl hE
  exact x_callS hM (xsub.rf hH.1.1) hd hlk hstt hcd hn hdp hst0 hst (fun v K' N' R' I' J' sz' hz h1 h2 h3 => x_weak (xsub_mg h2 h3) (kk v K' N' R' I' J' sz' hz h1)) p e Rm s m args below meth c H locs cells slots Q ls hC hH hl hE
theorem x_cI {y : MethodName} {c1 : ByteArray} {nL1 n d1 idx b : Nat} {As : List Value} {st0 : List Value} (hM : XM l D y c1 nL1 none d1 mc1 ms1 (.ref b :: As) K N R I J sz Z1)
    (hd : decode cc pc = .ok (.invokespecial idx, 3)) (hlk : xlk own idx y) (hin : Cond.instanceMethod y ∈ xws) (hy1 : y.name = "<init>") (hcd : xcd y c1 nL1 none n) (hb0 : b ≠ 0) (hn : As.length = n) (hdp : d1 + 1 ≤ d) (hst0 : st0 = As.reverse ++ .ref b :: st) (hst : (st.map fun v => v.category).sum ≤ 8)
    (kk : ∀ (v : Option Value) (K' N' : Nat → Nat) (R' : Nat → Nat → Nat) (I' : Nat → Nat → Int32) (J' : Nat → Nat → Int64) (sz' : Nat), Z1 v K' N' R' I' J' sz' → sz ≤ sz' → XW l D X own nm cc nL d mc ms K0 sz0 Z (pc + 3) L (v.toList ++ st) K' N' R' I' J' sz' kc ks) :
    XW l D X own nm cc nL d mc ms K0 sz0 Z pc L st0 K N R I J sz (kc + mc1) (ks + ms1) := by
  intro p e Rm s m args below meth c H locs cells slots Q ls hC hH hl hE
  exact x_callI hM (xsub.rf hH.1.1) hd hlk hin hy1 hcd hb0 hn hdp hst0 hst (fun v K' N' R' I' J' sz' hz h1 h2 h3 => x_weak (xsub_mg h2 h3) (kk v K' N' R' I' J' sz' hz h1)) p e Rm s m args below meth c H locs cells slots Q ls hC hH hl hE
theorem xmg_self {α : Type} {K1 : Nat → Nat} {sz : Nat} {f' f : Nat → α} (h : ∀ r, K1 r = 0 → r ≤ sz → f' r = f r) : xmg K1 sz f' f = f' := by
  funext r
  by_cases hc : K1 r ≠ 0 ∨ sz < r
  · simp only [xmg, if_pos hc]
  · simp only [xmg, if_neg hc]
    have h1 : K1 r = 0 := by
      by_cases h : K1 r = 0
      · exact h
      · exact absurd (Or.inl h) hc
    exact (h r h1 (by
      rcases Nat.lt_or_ge sz r with q | q
      · exact absurd (Or.inr q) hc
      · exact q)).symm
end XCL
