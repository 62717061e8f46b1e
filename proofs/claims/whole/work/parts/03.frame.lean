/-! Words: all good words of the tables, as one list; a word by its place. -/
def xws : List Cond := lw_tbl.filter goodWord
theorem xws_good {c : Cond} (hc : c ∈ xws) : GoodIn xws (c :: xws) := by
  intro w hw
  have hw : w ∈ xws := by
    rcases List.mem_cons.mp hw with h | h
    · rw [h]; exact hc
    · exact h
  exact ⟨hw, good_of_word (List.mem_filter.mp hw).2⟩
theorem xin {w : Cond} (i : Nat) (h : tables_1[i]? = some w) (g : goodWord w = true) : w ∈ xws :=
  List.mem_filter.mpr ⟨List.mem_append_right _ (List.mem_of_getElem? h), g⟩
theorem xsel {y : MethodName} (i n : Nat) (h : lw_privs[i]? = some (y, n)) : Cond.selects y.cls y y ∈ xws :=
  List.mem_filter.mpr ⟨List.mem_append_left _ (List.mem_map.mpr ⟨(y, n), List.mem_of_getElem? h, rfl⟩), rfl⟩
theorem xtab {w : Cond} (i : Nat) (h : tables_1[i]? = some w) : w ∈ lw_tbl := List.mem_append_right _ (List.mem_of_getElem? h)

theorem uwX0 : ∀ w ∈ u_ws RX0 TX0 3, w ∈ xws := by
  intro w hw
  obtain ⟨k, hk, rfl⟩ := List.mem_map.mp hw
  have hk : k < 3 := List.mem_range.mp hk
  match k, hk with
  | 0, _ => exact xin 30 rfl rfl
  | 1, _ => exact xin 32 rfl rfl
  | 2, _ => exact xin 34 rfl rfl
  | k + 3, h => exact absurd h (by omega)
theorem uwX1 : ∀ w ∈ u_ws RX1 TX1 7, w ∈ xws := by
  intro w hw
  obtain ⟨k, hk, rfl⟩ := List.mem_map.mp hw
  have hk : k < 7 := List.mem_range.mp hk
  match k, hk with
  | 0, _ => exact xin 109 rfl rfl
  | 1, _ => exact xin 111 rfl rfl
  | 2, _ => exact xin 113 rfl rfl
  | 3, _ => exact xin 115 rfl rfl
  | 4, _ => exact xin 117 rfl rfl
  | 5, _ => exact xin 119 rfl rfl
  | 6, _ => exact xin 121 rfl rfl
  | k + 7, h => exact absurd h (by omega)
theorem uwX2 : ∀ w ∈ u_ws RX2 TX2 13, w ∈ xws := by
  intro w hw
  obtain ⟨k, hk, rfl⟩ := List.mem_map.mp hw
  have hk : k < 13 := List.mem_range.mp hk
  match k, hk with
  | 0, _ => exact xin 51 rfl rfl
  | 1, _ => exact xin 53 rfl rfl
  | 2, _ => exact xin 55 rfl rfl
  | 3, _ => exact xin 57 rfl rfl
  | 4, _ => exact xin 59 rfl rfl
  | 5, _ => exact xin 61 rfl rfl
  | 6, _ => exact xin 63 rfl rfl
  | 7, _ => exact xin 65 rfl rfl
  | 8, _ => exact xin 67 rfl rfl
  | 9, _ => exact xin 69 rfl rfl
  | 10, _ => exact xin 71 rfl rfl
  | 11, _ => exact xin 73 rfl rfl
  | 12, _ => exact xin 75 rfl rfl
  | k + 13, h => exact absurd h (by omega)
theorem uwX3 : ∀ w ∈ u_ws RX3 TX3 22, w ∈ xws := by
  intro w hw
  obtain ⟨k, hk, rfl⟩ := List.mem_map.mp hw
  have hk : k < 22 := List.mem_range.mp hk
  match k, hk with
  | 0, _ => exact xin 361 rfl rfl
  | 1, _ => exact xin 363 rfl rfl
  | 2, _ => exact xin 365 rfl rfl
  | 3, _ => exact xin 367 rfl rfl
  | 4, _ => exact xin 369 rfl rfl
  | 5, _ => exact xin 371 rfl rfl
  | 6, _ => exact xin 373 rfl rfl
  | 7, _ => exact xin 375 rfl rfl
  | 8, _ => exact xin 377 rfl rfl
  | 9, _ => exact xin 379 rfl rfl
  | 10, _ => exact xin 381 rfl rfl
  | 11, _ => exact xin 383 rfl rfl
  | 12, _ => exact xin 385 rfl rfl
  | 13, _ => exact xin 387 rfl rfl
  | 14, _ => exact xin 389 rfl rfl
  | 15, _ => exact xin 391 rfl rfl
  | 16, _ => exact xin 393 rfl rfl
  | 17, _ => exact xin 395 rfl rfl
  | 18, _ => exact xin 397 rfl rfl
  | 19, _ => exact xin 399 rfl rfl
  | 20, _ => exact xin 401 rfl rfl
  | 21, _ => exact xin 403 rfl rfl
  | k + 22, h => exact absurd h (by omega)
def xnest : List Cond := [.arrayOver (.object "VersionChunks$Version"), .methodLinkNest "VersionChunks" 17 ⟨"VersionChunks$ItemSet", "<init>", "()V"⟩ "VersionChunks", .fieldLinkNest "VersionChunks" 139 "VersionChunks$ItemSet" "many" "I" "VersionChunks", .fieldLinkNest "VersionChunks" 203 "VersionChunks$ItemSet" "arcs" "[J" "VersionChunks", .fieldLinkNest "VersionChunks" 206 "VersionChunks$ItemSet" "columns" "[J" "VersionChunks", .methodLinkNest "VersionChunks" 35 ⟨"VersionChunks$ItemSet", "clear", "()V"⟩ "VersionChunks", .methodLinkNest "VersionChunks" 194 ⟨"VersionChunks$Version", "<init>", "()V"⟩ "VersionChunks", .fieldLinkNest "VersionChunks" 102 "VersionChunks$Version" "number" "I" "VersionChunks", .fieldLinkNest "VersionChunks" 185 "VersionChunks$Version" "parentNumber" "I" "VersionChunks", .fieldLinkNest "VersionChunks" 191 "VersionChunks$Version" "madeAt" "I" "VersionChunks", .fieldLinkNest "VersionChunks" 175 "VersionChunks$Version" "isLetGo" "Z" "VersionChunks", .fieldLinkNest "VersionChunks" 110 "VersionChunks$Version" "arcs" "[J" "VersionChunks", .fieldLinkNest "VersionChunks" 86 "VersionChunks$Version" "numbers" "[J" "VersionChunks", .fieldLinkNest "VersionChunks" 90 "VersionChunks$Version" "chunks" "[I" "VersionChunks", .methodLinkNest "VersionChunks" 105 ⟨"VersionChunks$Version", "leads", "(II)Z"⟩ "VersionChunks", .methodLinkNest "VersionChunks$Version" 22 ⟨"VersionChunks", "isBitSet", "(JI)Z"⟩ "VersionChunks", .methodLinkNest "VersionChunks" 199 ⟨"VersionChunks$Version", "copyItems", "(LVersionChunks$Version;)V"⟩ "VersionChunks", .methodLinkNest "VersionChunks" 82 ⟨"VersionChunks$Version", "numberAt", "(II)J"⟩ "VersionChunks", .methodLinkNest "VersionChunks" 131 ⟨"VersionChunks$ItemSet", "addArcs", "(IJ)V"⟩ "VersionChunks", .methodLinkNest "VersionChunks" 135 ⟨"VersionChunks$ItemSet", "addColumn", "(II)V"⟩ "VersionChunks", .methodLinkNest "VersionChunks" 142 ⟨"VersionChunks$ItemSet", "find", "(I)I"⟩ "VersionChunks", .methodLinkNest "VersionChunks$ItemSet" 28 ⟨"VersionChunks", "placeOfBit", "(JI)I"⟩ "VersionChunks"]
theorem xnest_tab : ∀ w ∈ xnest, w ∈ lw_tbl := by
  simp only [xnest, List.forall_mem_cons, List.not_mem_nil, false_imp_iff, implies_true, and_true]
  exact ⟨xtab 17 rfl, xtab 20 rfl, xtab 25 rfl, xtab 27 rfl, xtab 29 rfl, xtab 82 rfl, xtab 95 rfl, xtab 99 rfl, xtab 100 rfl, xtab 101 rfl, xtab 102 rfl, xtab 104 rfl, xtab 106 rfl, xtab 108 rfl, xtab 154 rfl, xtab 158 rfl, xtab 165 rfl, xtab 187 rfl, xtab 225 rfl, xtab 230 rfl, xtab 238 rfl, xtab 242 rfl⟩
theorem xnest_warm {s U : State} (hW : s.WarmedH U.vm) (h : ∀ w ∈ xnest, va_Nw w s) : ∀ w ∈ xnest, va_Nw w U := by
  simp only [xnest, List.forall_mem_cons, List.not_mem_nil, false_imp_iff, implies_true, and_true] at h ⊢
  obtain ⟨h0, h1, h2, h3, h4, h5, h6, h7, h8, h9, h10, h11, h12, h13, h14, h15, h16, h17, h18, h19, h20, h21⟩ := h
  exact ⟨va_AO.moved hW.alike h0, h1.warmM hW, h2.warmF hW, h3.warmF hW, h4.warmF hW, h5.warmM hW, h6.warmM hW, h7.warmF hW, h8.warmF hW, h9.warmF hW, h10.warmF hW, h11.warmF hW, h12.warmF hW, h13.warmF hW, h14.warmM hW, h15.warmM hW, h16.warmM hW, h17.warmM hW, h18.warmM hW, h19.warmM hW, h20.warmM hW, h21.warmM hW⟩
theorem xnest_same {s U : State} (e : s.vm = U.vm) (h : ∀ w ∈ xnest, va_Nw w s) : ∀ w ∈ xnest, va_Nw w U := by
  simp only [xnest, List.forall_mem_cons, List.not_mem_nil, false_imp_iff, implies_true, and_true] at h ⊢
  obtain ⟨h0, h1, h2, h3, h4, h5, h6, h7, h8, h9, h10, h11, h12, h13, h14, h15, h16, h17, h18, h19, h20, h21⟩ := h
  exact ⟨va_AO.moved (by rw [e]; exact Vm.Alike.refl _) h0, h1.same rfl e, h2.same rfl e, h3.same rfl e, h4.same rfl e, h5.same rfl e, h6.same rfl e, h7.same rfl e, h8.same rfl e, h9.same rfl e, h10.same rfl e, h11.same rfl e, h12.same rfl e, h13.same rfl e, h14.same rfl e, h15.same rfl e, h16.same rfl e, h17.same rfl e, h18.same rfl e, h19.same rfl e, h20.same rfl e, h21.same rfl e⟩

/-! Abstract heaps: a reference is a number, 0 is null, r + 1 the cell r. K: the kind of a cell (0: not ours; ci + 1: an object of class ci; 10 int[], 11 long[], 12 boolean[], 13 Version[]), N: an array's length, R, I, J: references, ints, longs by field or place. -/
def xr : Nat → Value
  | 0 => .null
  | a + 1 => .ref a
def tv : Value → Value
  | .ref r => xr r
  | v => v
def xf (Ra : Nat → Nat) (Ia : Nat → Int32) (t : FieldType) (k : Nat) : Value := match t with
  | .int => .int (Ia k)
  | .boolean => .int (Ia k)
  | _ => xr (Ra k)
def xty : Nat → Nat → FieldType
  | 0 => tyX0
  | 1 => tyX1
  | 2 => tyX2
  | _ => tyX3
def xobj (D : va_G) (Ra : Nat → Nat) (Ia : Nat → Int32) (a ci : Nat) (H : Heap) : Prop := ∀ q : vw_C, vwCl[ci]? = some q → t_OB a (D.1 ci) q.2.2 (D.2 ci) H (fun k => xf Ra Ia (xty ci k) k)
def xarr (s : State) (ty : FieldType) (a n : Nat) (f : Nat → Value) (H : Heap) : Prop := ∃ cA : ClassId, ArrOfT s cA ty ∧ va_RA s cA ty ∧ H[a]? = some (arrV cA n f)
def xcl (s : State) (D : va_G) (k n : Nat) (Ra : Nat → Nat) (Ia : Nat → Int32) (Ja : Nat → Int64) (a : Nat) (H : Heap) : Prop :=
  (∀ ci, ci < 4 → k = ci + 1 → xobj D Ra Ia a ci H) ∧
  (k = 10 → xarr s .int a n (fun j => .int (Ia j)) H) ∧
  (k = 11 → xarr s .long a n (fun j => .long (Ja j)) H) ∧
  (k = 12 → xarr s .boolean a n (fun j => .int (Ia j)) H) ∧
  (k = 13 → xarr s (.object RX1) a n (fun j => xr (Ra j)) H)
def hp (s : State) (D : va_G) (K N : Nat → Nat) (R : Nat → Nat → Nat) (I : Nat → Nat → Int32) (J : Nat → Nat → Int64) (H : Heap) : Prop := K 0 = 0 ∧ ∀ a : Nat,
  (K (a + 1) ≠ 0 → a < H.size) ∧ xcl s D (K (a + 1)) (N (a + 1)) (R (a + 1)) (I (a + 1)) (J (a + 1)) a H
theorem xarr.moved {u U : State} (hvm : u.vm.Alike U.vm) {ty : FieldType} {a n : Nat} {f : Nat → Value} {H : Heap} (h : xarr u ty a n f H) : xarr U ty a n f H := by
  obtain ⟨cA, h1, h2, h3⟩ := h
  exact ⟨cA, arrOfT_moved hvm h1, h2.moved hvm, h3⟩
theorem xarr.kept {u : State} {ty : FieldType} {a n : Nat} {f : Nat → Value} {H H1 : Heap} (e : H1[a]? = H[a]?) (h : xarr u ty a n f H) : xarr u ty a n f H1 := by
  obtain ⟨cA, h1, h2, h3⟩ := h
  exact ⟨cA, h1, h2, e.trans h3⟩
theorem xcl.moved {u U : State} (hvm : u.vm.Alike U.vm) {D : va_G} {k n : Nat} {Ra : Nat → Nat} {Ia : Nat → Int32} {Ja : Nat → Int64} {a : Nat} {H : Heap} (h : xcl u D k n Ra Ia Ja a H) : xcl U D k n Ra Ia Ja a H :=
  ⟨h.1, fun e => (h.2.1 e).moved hvm, fun e => (h.2.2.1 e).moved hvm, fun e => (h.2.2.2.1 e).moved hvm, fun e => (h.2.2.2.2 e).moved hvm⟩
theorem xcl.kept {u : State} {D : va_G} {k n : Nat} {Ra : Nat → Nat} {Ia : Nat → Int32} {Ja : Nat → Int64} {a : Nat} {H H1 : Heap} (e : H1[a]? = H[a]?) (h : xcl u D k n Ra Ia Ja a H) : xcl u D k n Ra Ia Ja a H1 :=
  ⟨fun ci hc hk q hq => (h.1 ci hc hk q hq).kept e, fun z => (h.2.1 z).kept e, fun z => (h.2.2.1 z).kept e, fun z => (h.2.2.2.1 z).kept e, fun z => (h.2.2.2.2 z).kept e⟩
theorem xcl.none {u : State} {D : va_G} {n : Nat} {Ra : Nat → Nat} {Ia : Nat → Int32} {Ja : Nat → Int64} {a : Nat} {H : Heap} : xcl u D 0 n Ra Ia Ja a H :=
  ⟨fun ci hc hk => by omega, fun z => by omega, fun z => by omega, fun z => by omega, fun z => by omega⟩
theorem hp.moved {u U : State} (hvm : u.vm.Alike U.vm) {D : va_G} {K N : Nat → Nat} {R : Nat → Nat → Nat} {I : Nat → Nat → Int32} {J : Nat → Nat → Int64} {H : Heap} (h : hp u D K N R I J H) : hp U D K N R I J H :=
  ⟨h.1, fun a => ⟨(h.2 a).1, (h.2 a).2.moved hvm⟩⟩
/-- one cell changes its contents -/
theorem hp.row {u : State} {D : va_G} {K N : Nat → Nat} {R : Nat → Nat → Nat} {I : Nat → Nat → Int32} {J : Nat → Nat → Int64} {H H1 : Heap} {a : Nat} (h : hp u D K N R I J H) (hz : H1.size = H.size) (ho : ∀ q, q ≠ a → H1[q]? = H[q]?)
    {Ra : Nat → Nat} {Ia : Nat → Int32} {Ja : Nat → Int64} (hc : xcl u D (K (a + 1)) (N (a + 1)) Ra Ia Ja a H1) : hp u D K N (va_up R (a + 1) Ra) (va_up I (a + 1) Ia) (va_up J (a + 1) Ja) H1 := by
  refine ⟨h.1, fun b => ⟨fun z => by rw [hz]; exact (h.2 b).1 z, ?_⟩⟩
  by_cases hb : b = a
  · subst hb
    rw [va_up_self, va_up_self, va_up_self]
    exact hc
  · have hb1 : b + 1 ≠ a + 1 := by omega
    rw [va_up_ne _ _ hb1, va_up_ne _ _ hb1, va_up_ne _ _ hb1]
    exact (h.2 b).2.kept (ho b hb)
theorem va_up_id {α : Type} (f : Nat → α) (k : Nat) : va_up f k (f k) = f := by
  funext j
  by_cases h : j = k
  · subst h; exact va_up_self _ _ _
  · exact va_up_ne _ _ h
/-- one cell comes -/
theorem hp.push {u : State} {D : va_G} {K N : Nat → Nat} {R : Nat → Nat → Nat} {I : Nat → Nat → Int32} {J : Nat → Nat → Int64} {H H1 : Heap} {a : Nat} (h : hp u D K N R I J H) (ha : H.size = a) (hz : H1.size = a + 1) (ho : ∀ q, q < a → H1[q]? = H[q]?)
    {k n : Nat} {Ra : Nat → Nat} {Ia : Nat → Int32} {Ja : Nat → Int64} (hc : xcl u D k n Ra Ia Ja a H1) : hp u D (va_up K (a + 1) k) (va_up N (a + 1) n) (va_up R (a + 1) Ra) (va_up I (a + 1) Ia) (va_up J (a + 1) Ja) H1 := by
  refine ⟨by rw [va_up_ne _ _ (by omega)]; exact h.1, fun b => ?_⟩
  by_cases hb : b = a
  · subst hb
    rw [va_up_self, va_up_self, va_up_self, va_up_self, va_up_self]
    exact ⟨fun _ => by omega, hc⟩
  · have hb1 : b + 1 ≠ a + 1 := by omega
    rw [va_up_ne _ _ hb1, va_up_ne _ _ hb1, va_up_ne _ _ hb1, va_up_ne _ _ hb1, va_up_ne _ _ hb1]
    refine ⟨fun z => by have := (h.2 b).1 z; omega, ?_⟩
    by_cases hk : K (b + 1) = 0
    · rw [hk]; exact xcl.none
    · exact (h.2 b).2.kept (ho b (by have := (h.2 b).1 hk; omega))
theorem tv_cat (v : Value) : (tv v).category = v.category := by
  cases v with
  | ref r => cases r <;> rfl
  | _ => rfl
/-- the locals: by places; '.null' stands for what isn't known -/
def lvs (ls : Array Slot) (nL : Nat) (L : List Value) : Prop := ls.size = nL ∧ lv_wf ls ∧ ∀ (i : Nat) (v : Value), L[i]? = some v → v ≠ .null → ls[i]? = some (.val (tv v))
def xok (L : List Value) : Nat → Bool
  | 0 => true
  | j + 1 => match L[j]? with
    | some v => v.category == 1
    | none => true
theorem lvs.st1 {ls : Array Slot} {nL : Nat} {L : List Value} {i : Nat} {v : Value} (h : lvs ls nL L) (hi : i < nL) (hc : v.category = 1) (ok : xok L i = true) : ∃ ls', storeLocals ls i (tv v) = some ls' ∧ lvs ls' nL (L.set i v) := by
  have hc' : (tv v).category = 1 := by rw [tv_cat]; exact hc
  obtain ⟨ls', e, h'⟩ := lv_store1 (l := []) (v := tv v) ⟨h.1, h.2.1, fun q hq => by cases hq⟩ hi hc'
  refine ⟨ls', e, h'.1, h'.2.1, fun j w hj hw => ?_⟩
  by_cases hji : j = i
  · subst hji
    have hjl : j < L.length := by
      have := (List.getElem?_eq_some_iff.mp hj).1
      simpa using this
    rw [List.getElem?_set_self hjl] at hj
    cases hj
    exact h'.2.2 (j, tv v) List.mem_cons_self
  · rw [List.getElem?_set_ne (Ne.symm hji)] at hj
    obtain ⟨ls'', e'', h''⟩ := lv_store1 (l := [(j, tv w)]) (v := tv v) ⟨h.1, h.2.1, fun q hq => by
      rw [List.mem_singleton.mp hq]; exact h.2.2 j w hj hw⟩ hi hc'
    cases e.symm.trans e''
    refine h''.2.2 (j, tv w) (List.mem_cons_of_mem _ (List.mem_filter.mpr ⟨List.mem_singleton.mpr rfl, ?_⟩))
    have h2 : ¬ (j + 1 = i ∧ (tv w).category = 2) := by
      rintro ⟨rfl, h2⟩
      rw [tv_cat] at h2
      simp [xok, hj, h2] at ok
    simp only [Bool.and_eq_true, Bool.not_eq_true', beq_eq_false_iff_ne, ne_eq, Bool.and_eq_false_iff]
    refine ⟨hji, ?_⟩
    by_cases hj1 : j + 1 = i
    · exact Or.inr fun z => h2 ⟨hj1, z⟩
    · exact Or.inl hj1
theorem lvs.st2 {ls : Array Slot} {nL : Nat} {L : List Value} {i : Nat} {v : Value} (h : lvs ls nL L) (hi : i + 1 < nL) (hc : v.category = 2) (ok : xok L i = true) : ∃ ls', storeLocals ls i (tv v) = some ls' ∧ lvs ls' nL ((L.set i v).set (i + 1) .null) := by
  have hc' : (tv v).category = 2 := by rw [tv_cat]; exact hc
  obtain ⟨ls', e, h'⟩ := lv_store2 (l := []) (v := tv v) ⟨h.1, h.2.1, fun q hq => by cases hq⟩ hi hc'
  refine ⟨ls', e, h'.1, h'.2.1, fun j w hj hw => ?_⟩
  by_cases hj2 : j = i + 1
  · subst hj2
    have hjl : i + 1 < (L.set i v).length := by
      have := (List.getElem?_eq_some_iff.mp hj).1
      simpa using this
    rw [List.getElem?_set_self hjl] at hj
    cases hj
    exact absurd rfl hw
  rw [List.getElem?_set_ne (Ne.symm hj2)] at hj
  by_cases hji : j = i
  · subst hji
    have hjl : j < L.length := by
      have := (List.getElem?_eq_some_iff.mp hj).1
      simpa using this
    rw [List.getElem?_set_self hjl] at hj
    cases hj
    exact h'.2.2 (j, tv v) List.mem_cons_self
  · rw [List.getElem?_set_ne (Ne.symm hji)] at hj
    obtain ⟨ls'', e'', h''⟩ := lv_store2 (l := [(j, tv w)]) (v := tv v) ⟨h.1, h.2.1, fun q hq => by
      rw [List.mem_singleton.mp hq]; exact h.2.2 j w hj hw⟩ hi hc'
    cases e.symm.trans e''
    refine h''.2.2 (j, tv w) (List.mem_cons_of_mem _ (List.mem_filter.mpr ⟨List.mem_singleton.mpr rfl, ?_⟩))
    have h2 : ¬ (j + 1 = i ∧ (tv w).category = 2) := by
      rintro ⟨rfl, h2⟩
      rw [tv_cat] at h2
      simp [xok, hj, h2] at ok
    simp only [Bool.and_eq_true, Bool.not_eq_true', beq_eq_false_iff_ne, ne_eq, Bool.and_eq_false_iff]
    refine ⟨hji, hj2, ?_⟩
    by_cases hj1 : j + 1 = i
    · exact Or.inr fun z => h2 ⟨hj1, z⟩
    · exact Or.inl hj1
/-- what of the locals is no more needed may be forgotten -/
theorem lvs.drop {ls : Array Slot} {nL : Nat} {L : List Value} (h : lvs ls nL L) (i : Nat) : lvs ls nL (L.set i .null) := by
  refine ⟨h.1, h.2.1, fun j w hj hw => ?_⟩
  by_cases hji : j = i
  · subst hji
    have hjl : j < L.length := by
      have := (List.getElem?_eq_some_iff.mp hj).1
      simpa using this
    rw [List.getElem?_set_self hjl] at hj
    cases hj
    exact absurd rfl hw
  · rw [List.getElem?_set_ne (Ne.symm hji)] at hj
    exact h.2.2 j w hj hw
theorem lvs.to {ls : Array Slot} {nL : Nat} {L L' : List Value} (h : lvs ls nL L) (e : ∀ (i : Nat) (v : Value), L'[i]? = some v → v ≠ .null → L[i]? = some v) : lvs ls nL L' := ⟨h.1, h.2.1, fun i v h1 h2 => h.2.2 i v (e i v h1 h2) h2⟩
/-! The judgement -/
abbrev ZT : Type := Option Value → (Nat → Nat) → (Nat → Nat) → (Nat → Nat → Nat) → (Nat → Nat → Int32) → (Nat → Nat → Int64) → Nat → Prop
def xfr (K0 : Nat → Nat) (sz0 : Nat) : Nat → Prop := fun q => K0 (q + 1) ≠ 0 ∨ sz0 ≤ q
def xC (p : Program) (Rm : Room) (s : State) (m : MethodId) (args : Array Value) (meth : Method) (c : Code) (D : va_G) (X : State → Prop) (own nm : String) (cc : ByteArray) (nL d mc ms sz0 : Nat) : Prop :=
  p.tables.exec = Jvm.exec ∧ c.code = cc ∧ c.maxLocals = nL ∧ s.vm.findClass own = some m.cls ∧ (∀ w ∈ xws, w.before args s = true) ∧ (∀ w ∈ xnest, va_Nw w s) ∧ va_K D vwCl [] s ∧ meth.name = nm ∧ d ≤ Rm.frames ∧ 40 * d ≤ Rm.locals ∧ mc ≤ Rm.cells ∧ ms ≤ Rm.slots ∧ s.heap.size = sz0 ∧ X s
def xH (s : State) (H : Heap) (locs : List Loc) (cells slots : Nat) (D : va_G) (K0 : Nat → Nat) (sz0 mc ms : Nat) (K N : Nat → Nat) (R : Nat → Nat → Nat) (I : Nat → Nat → Int32) (J : Nat → Nat → Int64) (sz kc ks : Nat) : Prop :=
  hp s D K N R I J H ∧ H.size = sz ∧ (∀ q, K (q + 1) ≠ 0 → xfr K0 sz0 q) ∧ va_S (xfr K0 sz0) s.heap H locs ∧ cells + kc ≤ mc ∧ slots + ks ≤ ms
def xret : Option Value → Instr
  | none => .return_
  | some (.int _) => .ireturn
  | some (.long _) => .lreturn
  | some _ => .areturn
def xE (p : Program) (l : Launch) (e : Env) (Rm : Room) (s : State) (m : MethodId) (args : Array Value) (below : List Frame) (meth : Method) (c : Code) (Q : State → Prop) (D : va_G) (cc : ByteArray) (mc ms : Nat) (K0 : Nat → Nat) (sz0 : Nat) (Z : ZT) : Prop :=
  ∀ (v : Option Value) (K N : Nat → Nat) (R : Nat → Nat → Nat) (I : Nat → Nat → Int32) (J : Nat → Nat → Int64) (sz : Nat) (H : Heap) (locs : List Loc) (cells slots pc : Nat) (ls : Array Slot), Z v K N R I J sz → xH s H locs cells slots D K0 sz0 mc ms K N R I J sz 0 0 → decode cc pc = .ok (xret v, 1) → W p l e Rm s m args below meth c H locs cells slots Q (F0 m pc ls (v.toList.map tv))
def XW (l : Launch) (D : va_G) (X : State → Prop) (own nm : String) (cc : ByteArray) (nL d mc ms : Nat) (K0 : Nat → Nat) (sz0 : Nat) (Z : ZT) (pc : Nat) (L st : List Value) (K N : Nat → Nat) (R : Nat → Nat → Nat) (I : Nat → Nat → Int32) (J : Nat → Nat → Int64) (sz kc ks : Nat) : Prop :=
  ∀ (p : Program) (e : Env) (Rm : Room) (s : State) (m : MethodId) (args : Array Value) (below : List Frame) (meth : Method) (c : Code) (H : Heap) (locs : List Loc) (cells slots : Nat) (Q : State → Prop) (ls : Array Slot),
    xC p Rm s m args meth c D X own nm cc nL d mc ms sz0 → xH s H locs cells slots D K0 sz0 mc ms K N R I J sz kc ks → lvs ls nL L → xE p l e Rm s m args below meth c Q D cc mc ms K0 sz0 Z →
    W p l e Rm s m args below meth c H locs cells slots Q (F0 m pc ls (st.map tv))
section XR
variable {l : Launch} {D : va_G} {X : State → Prop} {own nm : String} {cc : ByteArray} {nL d mc ms : Nat} {K0 : Nat → Nat} {sz0 : Nat} {Z : ZT} {pc : Nat} {L st : List Value} {K N : Nat → Nat} {R : Nat → Nat → Nat} {I : Nat → Nat → Int32} {J : Nat → Nat → Int64} {sz kc ks : Nat}
theorem x_ret {v : Option Value} (hd : decode cc pc = .ok (xret v, 1)) (hz : Z v K N R I J sz) : XW l D X own nm cc nL d mc ms K0 sz0 Z pc L v.toList K N R I J sz kc ks := by
  intro p e Rm s m args below meth c H locs cells slots Q ls hC hH hl hE
  refine hE v K N R I J sz H locs cells slots pc ls hz ⟨hH.1, hH.2.1, hH.2.2.1, hH.2.2.2.1, ?_, ?_⟩ hd
  · have := hH.2.2.2.2.1; omega
  · have := hH.2.2.2.2.2; omega
theorem x_drop (i : Nat) (k : XW l D X own nm cc nL d mc ms K0 sz0 Z pc (L.set i .null) st K N R I J sz kc ks) : XW l D X own nm cc nL d mc ms K0 sz0 Z pc L st K N R I J sz kc ks := by
  intro p e Rm s m args below meth c H locs cells slots Q ls hC hH hl hE
  exact k p e Rm s m args below meth c H locs cells slots Q ls hC hH (hl.drop i) hE
theorem x_locs {L' : List Value} (h : ∀ (i : Nat) (v : Value), L'[i]? = some v → v ≠ .null → L[i]? = some v) (k : XW l D X own nm cc nL d mc ms K0 sz0 Z pc L' st K N R I J sz kc ks) : XW l D X own nm cc nL d mc ms K0 sz0 Z pc L st K N R I J sz kc ks := by
  intro p e Rm s m args below meth c H locs cells slots Q ls hC hH hl hE
  exact k p e Rm s m args below meth c H locs cells slots Q ls hC hH (hl.to h) hE
theorem x_room {kc' ks' : Nat} (h1 : kc' ≤ kc) (h2 : ks' ≤ ks) (k : XW l D X own nm cc nL d mc ms K0 sz0 Z pc L st K N R I J sz kc' ks') : XW l D X own nm cc nL d mc ms K0 sz0 Z pc L st K N R I J sz kc ks := by
  intro p e Rm s m args below meth c H locs cells slots Q ls hC hH hl hE
  refine k p e Rm s m args below meth c H locs cells slots Q ls hC ⟨hH.1, hH.2.1, hH.2.2.1, hH.2.2.2.1, ?_, ?_⟩ hl hE
  · have := hH.2.2.2.2.1; omega
  · have := hH.2.2.2.2.2; omega
theorem x_iconst {n : Int} {v : Int32} (hd : decode cc pc = .ok (.iconst n, 1)) (hv : Int32.ofInt n = v) (k : XW l D X own nm cc nL d mc ms K0 sz0 Z (pc + 1) L (.int v :: st) K N R I J sz kc ks) : XW l D X own nm cc nL d mc ms K0 sz0 Z pc L (st) K N R I J sz kc ks := by
  intro p e Rm s m args below meth c H locs cells slots Q ls hC hH hl hE
  exact lv_iconst hC.1 hC.2.1 hd hv (k p e Rm s m args below meth c H locs cells slots Q ls hC hH hl hE)
theorem x_bipush {n : Int} {v : Int32} (hd : decode cc pc = .ok (.bipush n, 2)) (hv : (Int8.ofInt n).toInt32 = v) (k : XW l D X own nm cc nL d mc ms K0 sz0 Z (pc + 2) L (.int v :: st) K N R I J sz kc ks) : XW l D X own nm cc nL d mc ms K0 sz0 Z pc L (st) K N R I J sz kc ks := by
  intro p e Rm s m args below meth c H locs cells slots Q ls hC hH hl hE
  exact lv_bipush hC.1 hC.2.1 hd hv (k p e Rm s m args below meth c H locs cells slots Q ls hC hH hl hE)
theorem x_sipush {n : Int} {v : Int32} (hd : decode cc pc = .ok (.sipush n, 3)) (hv : (Int16.ofInt n).toInt32 = v) (k : XW l D X own nm cc nL d mc ms K0 sz0 Z (pc + 3) L (.int v :: st) K N R I J sz kc ks) : XW l D X own nm cc nL d mc ms K0 sz0 Z pc L (st) K N R I J sz kc ks := by
  intro p e Rm s m args below meth c H locs cells slots Q ls hC hH hl hE
  exact lv_sipush hC.1 hC.2.1 hd hv (k p e Rm s m args below meth c H locs cells slots Q ls hC hH hl hE)
theorem x_lconst {n : Fin 2} {v : Int64} (hd : decode cc pc = .ok (.lconst n, 1)) (hv : Int64.ofNat (n : Nat) = v) (k : XW l D X own nm cc nL d mc ms K0 sz0 Z (pc + 1) L (.long v :: st) K N R I J sz kc ks) : XW l D X own nm cc nL d mc ms K0 sz0 Z pc L (st) K N R I J sz kc ks := by
  intro p e Rm s m args below meth c H locs cells slots Q ls hC hH hl hE
  exact lv_lconst hC.1 hC.2.1 hd hv (k p e Rm s m args below meth c H locs cells slots Q ls hC hH hl hE)
theorem x_iload_n {q : Fin 4} {x : Int32} (hd : decode cc pc = .ok (.iload_n q, 1)) (h : L[(q : Nat)]? = some (.int x)) (k : XW l D X own nm cc nL d mc ms K0 sz0 Z (pc + 1) L (.int x :: st) K N R I J sz kc ks) : XW l D X own nm cc nL d mc ms K0 sz0 Z pc L (st) K N R I J sz kc ks := by
  intro p e Rm s m args below meth c H locs cells slots Q ls hC hH hl hE
  exact lv_iload_n hC.1 hC.2.1 hd rfl (hl.2.2 _ _ h (by simp)) (k p e Rm s m args below meth c H locs cells slots Q ls hC hH hl hE)
theorem x_iload {q : Nat} {x : Int32} (hd : decode cc pc = .ok (.iload q, 2)) (h : L[q]? = some (.int x)) (k : XW l D X own nm cc nL d mc ms K0 sz0 Z (pc + 2) L (.int x :: st) K N R I J sz kc ks) : XW l D X own nm cc nL d mc ms K0 sz0 Z pc L (st) K N R I J sz kc ks := by
  intro p e Rm s m args below meth c H locs cells slots Q ls hC hH hl hE
  exact lv_iload hC.1 hC.2.1 hd (hl.2.2 _ _ h (by simp)) (k p e Rm s m args below meth c H locs cells slots Q ls hC hH hl hE)
theorem x_lload_n {q : Fin 4} {x : Int64} (hd : decode cc pc = .ok (.lload_n q, 1)) (h : L[(q : Nat)]? = some (.long x)) (k : XW l D X own nm cc nL d mc ms K0 sz0 Z (pc + 1) L (.long x :: st) K N R I J sz kc ks) : XW l D X own nm cc nL d mc ms K0 sz0 Z pc L (st) K N R I J sz kc ks := by
  intro p e Rm s m args below meth c H locs cells slots Q ls hC hH hl hE
  exact lv_lload_n hC.1 hC.2.1 hd rfl (hl.2.2 _ _ h (by simp)) (k p e Rm s m args below meth c H locs cells slots Q ls hC hH hl hE)
theorem x_lload {q : Nat} {x : Int64} (hd : decode cc pc = .ok (.lload q, 2)) (h : L[q]? = some (.long x)) (k : XW l D X own nm cc nL d mc ms K0 sz0 Z (pc + 2) L (.long x :: st) K N R I J sz kc ks) : XW l D X own nm cc nL d mc ms K0 sz0 Z pc L (st) K N R I J sz kc ks := by
  intro p e Rm s m args below meth c H locs cells slots Q ls hC hH hl hE
  exact lv_lload hC.1 hC.2.1 hd (hl.2.2 _ _ h (by simp)) (k p e Rm s m args below meth c H locs cells slots Q ls hC hH hl hE)
theorem x_aload_n {q : Fin 4} {r : Nat} (hd : decode cc pc = .ok (.aload_n q, 1)) (h : L[(q : Nat)]? = some (.ref r)) (k : XW l D X own nm cc nL d mc ms K0 sz0 Z (pc + 1) L (.ref r :: st) K N R I J sz kc ks) : XW l D X own nm cc nL d mc ms K0 sz0 Z pc L st K N R I J sz kc ks := by
  intro p e Rm s m args below meth c H locs cells slots Q ls hC hH hl hE
  have h1 := hl.2.2 _ _ h (by simp)
  have k1 := k p e Rm s m args below meth c H locs cells slots Q ls hC hH hl hE
  cases r with
  | zero => exact lv_aload_nN hC.1 hC.2.1 hd rfl h1 k1
  | succ a => exact lv_aload_n hC.1 hC.2.1 hd rfl h1 k1
theorem x_aload {q : Nat} {r : Nat} (hd : decode cc pc = .ok (.aload q, 2)) (h : L[q]? = some (.ref r)) (k : XW l D X own nm cc nL d mc ms K0 sz0 Z (pc + 2) L (.ref r :: st) K N R I J sz kc ks) : XW l D X own nm cc nL d mc ms K0 sz0 Z pc L st K N R I J sz kc ks := by
  intro p e Rm s m args below meth c H locs cells slots Q ls hC hH hl hE
  have h1 := hl.2.2 _ _ h (by simp)
  have k1 := k p e Rm s m args below meth c H locs cells slots Q ls hC hH hl hE
  cases r with
  | zero => exact lv_aloadN hC.1 hC.2.1 hd h1 k1
  | succ a => exact lv_aload hC.1 hC.2.1 hd h1 k1
theorem x_null (hd : decode cc pc = .ok (.aconst_null, 1)) (k : XW l D X own nm cc nL d mc ms K0 sz0 Z (pc + 1) L (.ref 0 :: st) K N R I J sz kc ks) : XW l D X own nm cc nL d mc ms K0 sz0 Z pc L st K N R I J sz kc ks := by
  intro p e Rm s m args below meth c H locs cells slots Q ls hC hH hl hE
  exact lv_null hC.1 hC.2.1 hd (k p e Rm s m args below meth c H locs cells slots Q ls hC hH hl hE)
theorem x_istore_n {q : Fin 4} {x : Int32} (hd : decode cc pc = .ok (.istore_n q, 1)) (hn : (q : Nat) < nL) (ok : xok L (q : Nat) = true) (k : XW l D X own nm cc nL d mc ms K0 sz0 Z (pc + 1) (L.set (q : Nat) (.int x)) st K N R I J sz kc ks) : XW l D X own nm cc nL d mc ms K0 sz0 Z pc L (.int x :: st) K N R I J sz kc ks := by
  intro p e Rm s m args below meth c H locs cells slots Q ls hC hH hl hE
  obtain ⟨ls2, e2, h2⟩ := hl.st1 (v := .int x) hn rfl ok
  have k1 := k p e Rm s m args below meth c H locs cells slots Q ls2 hC hH h2 hE
  show W p l e Rm s m args below meth c H locs cells slots Q (F0 m pc ls (.int x :: st.map tv))
  intro T hT Y
  obtain ⟨t, a, b⟩ := k1 T hT Y
  refine ⟨t, ?_, b⟩
  jvm_step Y.here [Y.here.top, ↓top_set Y.here.top, hC.1, hC.2.1, hd, show storeLocals ls _ (.int x) = some ls2 from e2]
  exact a
theorem x_istore {q : Nat} {x : Int32} (hd : decode cc pc = .ok (.istore q, 2)) (hn : q < nL) (ok : xok L q = true) (k : XW l D X own nm cc nL d mc ms K0 sz0 Z (pc + 2) (L.set q (.int x)) st K N R I J sz kc ks) : XW l D X own nm cc nL d mc ms K0 sz0 Z pc L (.int x :: st) K N R I J sz kc ks := by
  intro p e Rm s m args below meth c H locs cells slots Q ls hC hH hl hE
  obtain ⟨ls2, e2, h2⟩ := hl.st1 (v := .int x) hn rfl ok
  have k1 := k p e Rm s m args below meth c H locs cells slots Q ls2 hC hH h2 hE
  show W p l e Rm s m args below meth c H locs cells slots Q (F0 m pc ls (.int x :: st.map tv))
  intro T hT Y
  obtain ⟨t, a, b⟩ := k1 T hT Y
  refine ⟨t, ?_, b⟩
  jvm_step Y.here [Y.here.top, ↓top_set Y.here.top, hC.1, hC.2.1, hd, show storeLocals ls _ (.int x) = some ls2 from e2]
  exact a
theorem x_lstore_n {q : Fin 4} {x : Int64} (hd : decode cc pc = .ok (.lstore_n q, 1)) (hn : (q : Nat) + 1 < nL) (ok : xok L (q : Nat) = true) (k : XW l D X own nm cc nL d mc ms K0 sz0 Z (pc + 1) ((L.set (q : Nat) (.long x)).set ((q : Nat) + 1) .null) st K N R I J sz kc ks) : XW l D X own nm cc nL d mc ms K0 sz0 Z pc L (.long x :: st) K N R I J sz kc ks := by
  intro p e Rm s m args below meth c H locs cells slots Q ls hC hH hl hE
  obtain ⟨ls2, e2, h2⟩ := hl.st2 (v := .long x) hn rfl ok
  have k1 := k p e Rm s m args below meth c H locs cells slots Q ls2 hC hH h2 hE
  show W p l e Rm s m args below meth c H locs cells slots Q (F0 m pc ls (.long x :: st.map tv))
  intro T hT Y
  obtain ⟨t, a, b⟩ := k1 T hT Y
  refine ⟨t, ?_, b⟩
  jvm_step Y.here [Y.here.top, ↓top_set Y.here.top, hC.1, hC.2.1, hd, show storeLocals ls _ (.long x) = some ls2 from e2]
  exact a
theorem x_lstore {q : Nat} {x : Int64} (hd : decode cc pc = .ok (.lstore q, 2)) (hn : q + 1 < nL) (ok : xok L q = true) (k : XW l D X own nm cc nL d mc ms K0 sz0 Z (pc + 2) ((L.set q (.long x)).set (q + 1) .null) st K N R I J sz kc ks) : XW l D X own nm cc nL d mc ms K0 sz0 Z pc L (.long x :: st) K N R I J sz kc ks := by
  intro p e Rm s m args below meth c H locs cells slots Q ls hC hH hl hE
  obtain ⟨ls2, e2, h2⟩ := hl.st2 (v := .long x) hn rfl ok
  have k1 := k p e Rm s m args below meth c H locs cells slots Q ls2 hC hH h2 hE
  show W p l e Rm s m args below meth c H locs cells slots Q (F0 m pc ls (.long x :: st.map tv))
  intro T hT Y
  obtain ⟨t, a, b⟩ := k1 T hT Y
  refine ⟨t, ?_, b⟩
  jvm_step Y.here [Y.here.top, ↓top_set Y.here.top, hC.1, hC.2.1, hd, show storeLocals ls _ (.long x) = some ls2 from e2]
  exact a
theorem x_astore_n {q : Fin 4} {r : Nat} (hd : decode cc pc = .ok (.astore_n q, 1)) (hn : (q : Nat) < nL) (ok : xok L (q : Nat) = true) (k : XW l D X own nm cc nL d mc ms K0 sz0 Z (pc + 1) (L.set (q : Nat) (.ref r)) st K N R I J sz kc ks) : XW l D X own nm cc nL d mc ms K0 sz0 Z pc L (.ref r :: st) K N R I J sz kc ks := by
  intro p e Rm s m args below meth c H locs cells slots Q ls hC hH hl hE
  obtain ⟨ls2, e2, h2⟩ := hl.st1 (v := .ref r) hn rfl ok
  have k1 := k p e Rm s m args below meth c H locs cells slots Q ls2 hC hH h2 hE
  cases r with
  | zero =>
    show W p l e Rm s m args below meth c H locs cells slots Q (F0 m pc ls (.null :: st.map tv))
    intro T hT Y
    obtain ⟨t, a, b⟩ := k1 T hT Y
    refine ⟨t, ?_, b⟩
    jvm_step Y.here [Y.here.top, ↓top_set Y.here.top, hC.1, hC.2.1, hd, show storeLocals ls _ .null = some ls2 from e2, Value.isRef]
    exact a
  | succ r =>
    show W p l e Rm s m args below meth c H locs cells slots Q (F0 m pc ls (.ref r :: st.map tv))
    intro T hT Y
    obtain ⟨t, a, b⟩ := k1 T hT Y
    refine ⟨t, ?_, b⟩
    jvm_step Y.here [Y.here.top, ↓top_set Y.here.top, hC.1, hC.2.1, hd, show storeLocals ls _ (.ref r) = some ls2 from e2, Value.isRef]
    exact a
theorem x_astore {q : Nat} {r : Nat} (hd : decode cc pc = .ok (.astore q, 2)) (hn : q < nL) (ok : xok L q = true) (k : XW l D X own nm cc nL d mc ms K0 sz0 Z (pc + 2) (L.set q (.ref r)) st K N R I J sz kc ks) : XW l D X own nm cc nL d mc ms K0 sz0 Z pc L (.ref r :: st) K N R I J sz kc ks := by
  intro p e Rm s m args below meth c H locs cells slots Q ls hC hH hl hE
  obtain ⟨ls2, e2, h2⟩ := hl.st1 (v := .ref r) hn rfl ok
  have k1 := k p e Rm s m args below meth c H locs cells slots Q ls2 hC hH h2 hE
  cases r with
  | zero =>
    show W p l e Rm s m args below meth c H locs cells slots Q (F0 m pc ls (.null :: st.map tv))
    intro T hT Y
    obtain ⟨t, a, b⟩ := k1 T hT Y
    refine ⟨t, ?_, b⟩
    jvm_step Y.here [Y.here.top, ↓top_set Y.here.top, hC.1, hC.2.1, hd, show storeLocals ls _ .null = some ls2 from e2, Value.isRef]
    exact a
  | succ r =>
    show W p l e Rm s m args below meth c H locs cells slots Q (F0 m pc ls (.ref r :: st.map tv))
    intro T hT Y
    obtain ⟨t, a, b⟩ := k1 T hT Y
    refine ⟨t, ?_, b⟩
    jvm_step Y.here [Y.here.top, ↓top_set Y.here.top, hC.1, hC.2.1, hd, show storeLocals ls _ (.ref r) = some ls2 from e2, Value.isRef]
    exact a
theorem x_iinc {q : Nat} {n : Int} {x v : Int32} (hd : decode cc pc = .ok (.iinc q n, 3)) (h : L[q]? = some (.int x)) (hv : x + Int32.ofInt n = v) (hn : q < nL) (ok : xok L q = true) (k : XW l D X own nm cc nL d mc ms K0 sz0 Z (pc + 3) (L.set q (.int v)) st K N R I J sz kc ks) : XW l D X own nm cc nL d mc ms K0 sz0 Z pc L st K N R I J sz kc ks := by
  intro p e Rm s m args below meth c H locs cells slots Q ls hC hH hl hE
  subst hv
  have hg : ls[q]? = some (.val (.int x)) := hl.2.2 _ _ h (by simp)
  obtain ⟨ls2, e2, h2⟩ := hl.st1 (v := .int (x + Int32.ofInt n)) hn rfl ok
  have k1 := k p e Rm s m args below meth c H locs cells slots Q ls2 hC hH h2 hE
  intro T hT Y
  obtain ⟨t, a, b⟩ := k1 T hT Y
  refine ⟨t, ?_, b⟩
  jvm_step Y.here [Y.here.top, ↓top_set Y.here.top, hC.1, hC.2.1, hd, hg, show storeLocals ls _ (.int (x + Int32.ofInt n)) = some ls2 from e2]
  exact a
theorem x_iadd {x y : Int32} (hd : decode cc pc = .ok (.iadd, 1)) (k : XW l D X own nm cc nL d mc ms K0 sz0 Z (pc + 1) L (.int (x + y) :: st) K N R I J sz kc ks) : XW l D X own nm cc nL d mc ms K0 sz0 Z pc L (.int y :: .int x :: st) K N R I J sz kc ks := by
  intro p e Rm s m args below meth c H locs cells slots Q ls hC hH hl hE
  exact lv_iadd hC.1 hC.2.1 hd (k p e Rm s m args below meth c H locs cells slots Q ls hC hH hl hE)
theorem x_isub {x y : Int32} (hd : decode cc pc = .ok (.isub, 1)) (k : XW l D X own nm cc nL d mc ms K0 sz0 Z (pc + 1) L (.int (x - y) :: st) K N R I J sz kc ks) : XW l D X own nm cc nL d mc ms K0 sz0 Z pc L (.int y :: .int x :: st) K N R I J sz kc ks := by
  intro p e Rm s m args below meth c H locs cells slots Q ls hC hH hl hE
  exact lv_isub hC.1 hC.2.1 hd (k p e Rm s m args below meth c H locs cells slots Q ls hC hH hl hE)
theorem x_imul {x y : Int32} (hd : decode cc pc = .ok (.imul, 1)) (k : XW l D X own nm cc nL d mc ms K0 sz0 Z (pc + 1) L (.int (x * y) :: st) K N R I J sz kc ks) : XW l D X own nm cc nL d mc ms K0 sz0 Z pc L (.int y :: .int x :: st) K N R I J sz kc ks := by
  intro p e Rm s m args below meth c H locs cells slots Q ls hC hH hl hE
  exact lv_imul hC.1 hC.2.1 hd (k p e Rm s m args below meth c H locs cells slots Q ls hC hH hl hE)
theorem x_iand {x y : Int32} (hd : decode cc pc = .ok (.iand, 1)) (k : XW l D X own nm cc nL d mc ms K0 sz0 Z (pc + 1) L (.int (x &&& y) :: st) K N R I J sz kc ks) : XW l D X own nm cc nL d mc ms K0 sz0 Z pc L (.int y :: .int x :: st) K N R I J sz kc ks := by
  intro p e Rm s m args below meth c H locs cells slots Q ls hC hH hl hE
  exact lv_iand hC.1 hC.2.1 hd (k p e Rm s m args below meth c H locs cells slots Q ls hC hH hl hE)
theorem x_idiv {x y : Int32} (hd : decode cc pc = .ok (.idiv, 1)) (hne : ¬ y = 0) (k : XW l D X own nm cc nL d mc ms K0 sz0 Z (pc + 1) L (.int (x / y) :: st) K N R I J sz kc ks) : XW l D X own nm cc nL d mc ms K0 sz0 Z pc L (.int y :: .int x :: st) K N R I J sz kc ks := by
  intro p e Rm s m args below meth c H locs cells slots Q ls hC hH hl hE
  exact lv_idiv hC.1 hC.2.1 hd hne (k p e Rm s m args below meth c H locs cells slots Q ls hC hH hl hE)
theorem x_irem {x y : Int32} (hd : decode cc pc = .ok (.irem, 1)) (hne : ¬ y = 0) (k : XW l D X own nm cc nL d mc ms K0 sz0 Z (pc + 1) L (.int (x - x / y * y) :: st) K N R I J sz kc ks) : XW l D X own nm cc nL d mc ms K0 sz0 Z pc L (.int y :: .int x :: st) K N R I J sz kc ks := by
  intro p e Rm s m args below meth c H locs cells slots Q ls hC hH hl hE
  exact lv_irem hC.1 hC.2.1 hd hne (k p e Rm s m args below meth c H locs cells slots Q ls hC hH hl hE)
theorem x_ladd {x y : Int64} (hd : decode cc pc = .ok (.ladd, 1)) (k : XW l D X own nm cc nL d mc ms K0 sz0 Z (pc + 1) L (.long (x + y) :: st) K N R I J sz kc ks) : XW l D X own nm cc nL d mc ms K0 sz0 Z pc L (.long y :: .long x :: st) K N R I J sz kc ks := by
  intro p e Rm s m args below meth c H locs cells slots Q ls hC hH hl hE
  exact lv_ladd hC.1 hC.2.1 hd (k p e Rm s m args below meth c H locs cells slots Q ls hC hH hl hE)
theorem x_lsub {x y : Int64} (hd : decode cc pc = .ok (.lsub, 1)) (k : XW l D X own nm cc nL d mc ms K0 sz0 Z (pc + 1) L (.long (x - y) :: st) K N R I J sz kc ks) : XW l D X own nm cc nL d mc ms K0 sz0 Z pc L (.long y :: .long x :: st) K N R I J sz kc ks := by
  intro p e Rm s m args below meth c H locs cells slots Q ls hC hH hl hE
  exact lv_lsub hC.1 hC.2.1 hd (k p e Rm s m args below meth c H locs cells slots Q ls hC hH hl hE)
theorem x_land {x y : Int64} (hd : decode cc pc = .ok (.land, 1)) (k : XW l D X own nm cc nL d mc ms K0 sz0 Z (pc + 1) L (.long (x &&& y) :: st) K N R I J sz kc ks) : XW l D X own nm cc nL d mc ms K0 sz0 Z pc L (.long y :: .long x :: st) K N R I J sz kc ks := by
  intro p e Rm s m args below meth c H locs cells slots Q ls hC hH hl hE
  exact lv_land hC.1 hC.2.1 hd (k p e Rm s m args below meth c H locs cells slots Q ls hC hH hl hE)
theorem x_lor {x y : Int64} (hd : decode cc pc = .ok (.lor, 1)) (k : XW l D X own nm cc nL d mc ms K0 sz0 Z (pc + 1) L (.long (x ||| y) :: st) K N R I J sz kc ks) : XW l D X own nm cc nL d mc ms K0 sz0 Z pc L (.long y :: .long x :: st) K N R I J sz kc ks := by
  intro p e Rm s m args below meth c H locs cells slots Q ls hC hH hl hE
  exact lv_lor hC.1 hC.2.1 hd (k p e Rm s m args below meth c H locs cells slots Q ls hC hH hl hE)
theorem x_lxor {x y : Int64} (hd : decode cc pc = .ok (.lxor, 1)) (k : XW l D X own nm cc nL d mc ms K0 sz0 Z (pc + 1) L (.long (x ^^^ y) :: st) K N R I J sz kc ks) : XW l D X own nm cc nL d mc ms K0 sz0 Z pc L (.long y :: .long x :: st) K N R I J sz kc ks := by
  intro p e Rm s m args below meth c H locs cells slots Q ls hC hH hl hE
  exact lv_lxor hC.1 hC.2.1 hd (k p e Rm s m args below meth c H locs cells slots Q ls hC hH hl hE)
theorem x_lshl {x v : Int64} {y : Int32} (hd : decode cc pc = .ok (.lshl, 1)) (hv : x <<< (y.toInt64 &&& 63) = v) (k : XW l D X own nm cc nL d mc ms K0 sz0 Z (pc + 1) L (.long v :: st) K N R I J sz kc ks) : XW l D X own nm cc nL d mc ms K0 sz0 Z pc L (.int y :: .long x :: st) K N R I J sz kc ks := by
  intro p e Rm s m args below meth c H locs cells slots Q ls hC hH hl hE
  exact lv_lshl hC.1 hC.2.1 hd hv (k p e Rm s m args below meth c H locs cells slots Q ls hC hH hl hE)
theorem x_lushr {x v : Int64} {y : Int32} (hd : decode cc pc = .ok (.lushr, 1)) (hv : (x.toUInt64 >>> (y.toInt64.toUInt64 &&& Int64.toUInt64 63)).toInt64 = v) (k : XW l D X own nm cc nL d mc ms K0 sz0 Z (pc + 1) L (.long v :: st) K N R I J sz kc ks) : XW l D X own nm cc nL d mc ms K0 sz0 Z pc L (.int y :: .long x :: st) K N R I J sz kc ks := by
  intro p e Rm s m args below meth c H locs cells slots Q ls hC hH hl hE
  exact lv_lushr hC.1 hC.2.1 hd hv (k p e Rm s m args below meth c H locs cells slots Q ls hC hH hl hE)
theorem x_lshr {x v : Int64} {y : Int32} (hd : decode cc pc = .ok (.lshr, 1)) (hv : x >>> (y.toInt64 &&& 63) = v) (k : XW l D X own nm cc nL d mc ms K0 sz0 Z (pc + 1) L (.long v :: st) K N R I J sz kc ks) : XW l D X own nm cc nL d mc ms K0 sz0 Z pc L (.int y :: .long x :: st) K N R I J sz kc ks := by
  intro p e Rm s m args below meth c H locs cells slots Q ls hC hH hl hE
  exact lv_lshr hC.1 hC.2.1 hd hv (k p e Rm s m args below meth c H locs cells slots Q ls hC hH hl hE)
theorem x_i2l {x : Int32} {v : Int64} (hd : decode cc pc = .ok (.i2l, 1)) (hv : x.toInt64 = v) (k : XW l D X own nm cc nL d mc ms K0 sz0 Z (pc + 1) L (.long v :: st) K N R I J sz kc ks) : XW l D X own nm cc nL d mc ms K0 sz0 Z pc L (.int x :: st) K N R I J sz kc ks := by
  intro p e Rm s m args below meth c H locs cells slots Q ls hC hH hl hE
  exact lv_i2l hC.1 hC.2.1 hd hv (k p e Rm s m args below meth c H locs cells slots Q ls hC hH hl hE)
theorem x_l2i {x : Int64} {v : Int32} (hd : decode cc pc = .ok (.l2i, 1)) (hv : x.toInt32 = v) (k : XW l D X own nm cc nL d mc ms K0 sz0 Z (pc + 1) L (.int v :: st) K N R I J sz kc ks) : XW l D X own nm cc nL d mc ms K0 sz0 Z pc L (.long x :: st) K N R I J sz kc ks := by
  intro p e Rm s m args below meth c H locs cells slots Q ls hC hH hl hE
  exact lv_l2i hC.1 hC.2.1 hd hv (k p e Rm s m args below meth c H locs cells slots Q ls hC hH hl hE)
theorem x_lcmp {x y : Int64} (hd : decode cc pc = .ok (.lcmp, 1)) (k : XW l D X own nm cc nL d mc ms K0 sz0 Z (pc + 1) L (.int (lg_cmp x y) :: st) K N R I J sz kc ks) : XW l D X own nm cc nL d mc ms K0 sz0 Z pc L (.long y :: .long x :: st) K N R I J sz kc ks := by
  intro p e Rm s m args below meth c H locs cells slots Q ls hC hH hl hE
  exact W.lcmp hC.1 hC.2.1 hd (k p e Rm s m args below meth c H locs cells slots Q ls hC hH hl hE)
theorem x_dup {v : Value} (hd : decode cc pc = .ok (.dup, 1)) (hc : v.category = 1) (k : XW l D X own nm cc nL d mc ms K0 sz0 Z (pc + 1) L (v :: v :: st) K N R I J sz kc ks) : XW l D X own nm cc nL d mc ms K0 sz0 Z pc L (v :: st) K N R I J sz kc ks := by
  intro p e Rm s m args below meth c H locs cells slots Q ls hC hH hl hE
  exact lv_dup hC.1 hC.2.1 hd (by rw [tv_cat]; exact hc) (k p e Rm s m args below meth c H locs cells slots Q ls hC hH hl hE)
theorem x_goto {off : Int} (tgt : Nat) (hd : decode cc pc = .ok (.goto off, 3)) (ht : (pc : Int) + off = (tgt : Int)) (k : XW l D X own nm cc nL d mc ms K0 sz0 Z (tgt) L (st) K N R I J sz kc ks) : XW l D X own nm cc nL d mc ms K0 sz0 Z pc L (st) K N R I J sz kc ks := by
  intro p e Rm s m args below meth c H locs cells slots Q ls hC hH hl hE
  exact lv_goto hC.1 hC.2.1 hd ht (k p e Rm s m args below meth c H locs cells slots Q ls hC hH hl hE)
theorem x_if_eq {x : Int32} {off : Int} (tgt : Nat) (hd : decode cc pc = .ok (.ifCond .eq off, 3)) (ht : (pc : Int) + off = (tgt : Int)) (kt : x = 0 → XW l D X own nm cc nL d mc ms K0 sz0 Z tgt L st K N R I J sz kc ks) (kf : ¬ x = 0 → XW l D X own nm cc nL d mc ms K0 sz0 Z (pc + 3) L st K N R I J sz kc ks) : XW l D X own nm cc nL d mc ms K0 sz0 Z pc L (.int x :: st) K N R I J sz kc ks := by
  intro p e Rm s m args below meth c H locs cells slots Q ls hC hH hl hE
  exact lv_if_eq hC.1 hC.2.1 hd ht (fun q => kt q p e Rm s m args below meth c H locs cells slots Q ls hC hH hl hE) (fun q => kf q p e Rm s m args below meth c H locs cells slots Q ls hC hH hl hE)
theorem x_icmp_eq {x y : Int32} {off : Int} (tgt : Nat) (hd : decode cc pc = .ok (.if_icmp .eq off, 3)) (ht : (pc : Int) + off = (tgt : Int)) (kt : x = y → XW l D X own nm cc nL d mc ms K0 sz0 Z tgt L st K N R I J sz kc ks) (kf : ¬ x = y → XW l D X own nm cc nL d mc ms K0 sz0 Z (pc + 3) L st K N R I J sz kc ks) : XW l D X own nm cc nL d mc ms K0 sz0 Z pc L (.int y :: .int x :: st) K N R I J sz kc ks := by
  intro p e Rm s m args below meth c H locs cells slots Q ls hC hH hl hE
  exact lv_icmp_eq hC.1 hC.2.1 hd ht (fun q => kt q p e Rm s m args below meth c H locs cells slots Q ls hC hH hl hE) (fun q => kf q p e Rm s m args below meth c H locs cells slots Q ls hC hH hl hE)
theorem x_if_ne {x : Int32} {off : Int} (tgt : Nat) (hd : decode cc pc = .ok (.ifCond .ne off, 3)) (ht : (pc : Int) + off = (tgt : Int)) (kt : ¬ x = 0 → XW l D X own nm cc nL d mc ms K0 sz0 Z tgt L st K N R I J sz kc ks) (kf : x = 0 → XW l D X own nm cc nL d mc ms K0 sz0 Z (pc + 3) L st K N R I J sz kc ks) : XW l D X own nm cc nL d mc ms K0 sz0 Z pc L (.int x :: st) K N R I J sz kc ks := by
  intro p e Rm s m args below meth c H locs cells slots Q ls hC hH hl hE
  exact lv_if_ne hC.1 hC.2.1 hd ht (fun q => kt q p e Rm s m args below meth c H locs cells slots Q ls hC hH hl hE) (fun q => kf q p e Rm s m args below meth c H locs cells slots Q ls hC hH hl hE)
theorem x_icmp_ne {x y : Int32} {off : Int} (tgt : Nat) (hd : decode cc pc = .ok (.if_icmp .ne off, 3)) (ht : (pc : Int) + off = (tgt : Int)) (kt : ¬ x = y → XW l D X own nm cc nL d mc ms K0 sz0 Z tgt L st K N R I J sz kc ks) (kf : x = y → XW l D X own nm cc nL d mc ms K0 sz0 Z (pc + 3) L st K N R I J sz kc ks) : XW l D X own nm cc nL d mc ms K0 sz0 Z pc L (.int y :: .int x :: st) K N R I J sz kc ks := by
  intro p e Rm s m args below meth c H locs cells slots Q ls hC hH hl hE
  exact lv_icmp_ne hC.1 hC.2.1 hd ht (fun q => kt q p e Rm s m args below meth c H locs cells slots Q ls hC hH hl hE) (fun q => kf q p e Rm s m args below meth c H locs cells slots Q ls hC hH hl hE)
theorem x_if_lt {x : Int32} {off : Int} (tgt : Nat) (hd : decode cc pc = .ok (.ifCond .lt off, 3)) (ht : (pc : Int) + off = (tgt : Int)) (kt : x < 0 → XW l D X own nm cc nL d mc ms K0 sz0 Z tgt L st K N R I J sz kc ks) (kf : ¬ x < 0 → XW l D X own nm cc nL d mc ms K0 sz0 Z (pc + 3) L st K N R I J sz kc ks) : XW l D X own nm cc nL d mc ms K0 sz0 Z pc L (.int x :: st) K N R I J sz kc ks := by
  intro p e Rm s m args below meth c H locs cells slots Q ls hC hH hl hE
  exact lv_if_lt hC.1 hC.2.1 hd ht (fun q => kt q p e Rm s m args below meth c H locs cells slots Q ls hC hH hl hE) (fun q => kf q p e Rm s m args below meth c H locs cells slots Q ls hC hH hl hE)
theorem x_icmp_lt {x y : Int32} {off : Int} (tgt : Nat) (hd : decode cc pc = .ok (.if_icmp .lt off, 3)) (ht : (pc : Int) + off = (tgt : Int)) (kt : x < y → XW l D X own nm cc nL d mc ms K0 sz0 Z tgt L st K N R I J sz kc ks) (kf : ¬ x < y → XW l D X own nm cc nL d mc ms K0 sz0 Z (pc + 3) L st K N R I J sz kc ks) : XW l D X own nm cc nL d mc ms K0 sz0 Z pc L (.int y :: .int x :: st) K N R I J sz kc ks := by
  intro p e Rm s m args below meth c H locs cells slots Q ls hC hH hl hE
  exact lv_icmp_lt hC.1 hC.2.1 hd ht (fun q => kt q p e Rm s m args below meth c H locs cells slots Q ls hC hH hl hE) (fun q => kf q p e Rm s m args below meth c H locs cells slots Q ls hC hH hl hE)
theorem x_if_ge {x : Int32} {off : Int} (tgt : Nat) (hd : decode cc pc = .ok (.ifCond .ge off, 3)) (ht : (pc : Int) + off = (tgt : Int)) (kt : 0 ≤ x → XW l D X own nm cc nL d mc ms K0 sz0 Z tgt L st K N R I J sz kc ks) (kf : ¬ 0 ≤ x → XW l D X own nm cc nL d mc ms K0 sz0 Z (pc + 3) L st K N R I J sz kc ks) : XW l D X own nm cc nL d mc ms K0 sz0 Z pc L (.int x :: st) K N R I J sz kc ks := by
  intro p e Rm s m args below meth c H locs cells slots Q ls hC hH hl hE
  exact lv_if_ge hC.1 hC.2.1 hd ht (fun q => kt q p e Rm s m args below meth c H locs cells slots Q ls hC hH hl hE) (fun q => kf q p e Rm s m args below meth c H locs cells slots Q ls hC hH hl hE)
theorem x_icmp_ge {x y : Int32} {off : Int} (tgt : Nat) (hd : decode cc pc = .ok (.if_icmp .ge off, 3)) (ht : (pc : Int) + off = (tgt : Int)) (kt : y ≤ x → XW l D X own nm cc nL d mc ms K0 sz0 Z tgt L st K N R I J sz kc ks) (kf : ¬ y ≤ x → XW l D X own nm cc nL d mc ms K0 sz0 Z (pc + 3) L st K N R I J sz kc ks) : XW l D X own nm cc nL d mc ms K0 sz0 Z pc L (.int y :: .int x :: st) K N R I J sz kc ks := by
  intro p e Rm s m args below meth c H locs cells slots Q ls hC hH hl hE
  exact lv_icmp_ge hC.1 hC.2.1 hd ht (fun q => kt q p e Rm s m args below meth c H locs cells slots Q ls hC hH hl hE) (fun q => kf q p e Rm s m args below meth c H locs cells slots Q ls hC hH hl hE)
theorem x_if_gt {x : Int32} {off : Int} (tgt : Nat) (hd : decode cc pc = .ok (.ifCond .gt off, 3)) (ht : (pc : Int) + off = (tgt : Int)) (kt : 0 < x → XW l D X own nm cc nL d mc ms K0 sz0 Z tgt L st K N R I J sz kc ks) (kf : ¬ 0 < x → XW l D X own nm cc nL d mc ms K0 sz0 Z (pc + 3) L st K N R I J sz kc ks) : XW l D X own nm cc nL d mc ms K0 sz0 Z pc L (.int x :: st) K N R I J sz kc ks := by
  intro p e Rm s m args below meth c H locs cells slots Q ls hC hH hl hE
  exact lv_if_gt hC.1 hC.2.1 hd ht (fun q => kt q p e Rm s m args below meth c H locs cells slots Q ls hC hH hl hE) (fun q => kf q p e Rm s m args below meth c H locs cells slots Q ls hC hH hl hE)
theorem x_icmp_gt {x y : Int32} {off : Int} (tgt : Nat) (hd : decode cc pc = .ok (.if_icmp .gt off, 3)) (ht : (pc : Int) + off = (tgt : Int)) (kt : y < x → XW l D X own nm cc nL d mc ms K0 sz0 Z tgt L st K N R I J sz kc ks) (kf : ¬ y < x → XW l D X own nm cc nL d mc ms K0 sz0 Z (pc + 3) L st K N R I J sz kc ks) : XW l D X own nm cc nL d mc ms K0 sz0 Z pc L (.int y :: .int x :: st) K N R I J sz kc ks := by
  intro p e Rm s m args below meth c H locs cells slots Q ls hC hH hl hE
  exact lv_icmp_gt hC.1 hC.2.1 hd ht (fun q => kt q p e Rm s m args below meth c H locs cells slots Q ls hC hH hl hE) (fun q => kf q p e Rm s m args below meth c H locs cells slots Q ls hC hH hl hE)
theorem x_if_le {x : Int32} {off : Int} (tgt : Nat) (hd : decode cc pc = .ok (.ifCond .le off, 3)) (ht : (pc : Int) + off = (tgt : Int)) (kt : x ≤ 0 → XW l D X own nm cc nL d mc ms K0 sz0 Z tgt L st K N R I J sz kc ks) (kf : ¬ x ≤ 0 → XW l D X own nm cc nL d mc ms K0 sz0 Z (pc + 3) L st K N R I J sz kc ks) : XW l D X own nm cc nL d mc ms K0 sz0 Z pc L (.int x :: st) K N R I J sz kc ks := by
  intro p e Rm s m args below meth c H locs cells slots Q ls hC hH hl hE
  exact lv_if_le hC.1 hC.2.1 hd ht (fun q => kt q p e Rm s m args below meth c H locs cells slots Q ls hC hH hl hE) (fun q => kf q p e Rm s m args below meth c H locs cells slots Q ls hC hH hl hE)
theorem x_icmp_le {x y : Int32} {off : Int} (tgt : Nat) (hd : decode cc pc = .ok (.if_icmp .le off, 3)) (ht : (pc : Int) + off = (tgt : Int)) (kt : x ≤ y → XW l D X own nm cc nL d mc ms K0 sz0 Z tgt L st K N R I J sz kc ks) (kf : ¬ x ≤ y → XW l D X own nm cc nL d mc ms K0 sz0 Z (pc + 3) L st K N R I J sz kc ks) : XW l D X own nm cc nL d mc ms K0 sz0 Z pc L (.int y :: .int x :: st) K N R I J sz kc ks := by
  intro p e Rm s m args below meth c H locs cells slots Q ls hC hH hl hE
  exact lv_icmp_le hC.1 hC.2.1 hd ht (fun q => kt q p e Rm s m args below meth c H locs cells slots Q ls hC hH hl hE) (fun q => kf q p e Rm s m args below meth c H locs cells slots Q ls hC hH hl hE)
theorem x_ifnull {r : Nat} {off : Int} (tgt : Nat) (hd : decode cc pc = .ok (.ifnull off, 3)) (ht : (pc : Int) + off = (tgt : Int)) (kt : r = 0 → XW l D X own nm cc nL d mc ms K0 sz0 Z tgt L st K N R I J sz kc ks) (kf : r ≠ 0 → XW l D X own nm cc nL d mc ms K0 sz0 Z (pc + 3) L st K N R I J sz kc ks) : XW l D X own nm cc nL d mc ms K0 sz0 Z pc L (.ref r :: st) K N R I J sz kc ks := by
  intro p e Rm s m args below meth c H locs cells slots Q ls hC hH hl hE
  cases r with
  | zero => exact lv_ifnullN hC.1 hC.2.1 hd ht (kt rfl p e Rm s m args below meth c H locs cells slots Q ls hC hH hl hE)
  | succ r => exact lv_ifnull hC.1 hC.2.1 hd (kf (Nat.succ_ne_zero r) p e Rm s m args below meth c H locs cells slots Q ls hC hH hl hE)
theorem x_ifnonnull {r : Nat} {off : Int} (tgt : Nat) (hd : decode cc pc = .ok (.ifnonnull off, 3)) (ht : (pc : Int) + off = (tgt : Int)) (kt : r ≠ 0 → XW l D X own nm cc nL d mc ms K0 sz0 Z tgt L st K N R I J sz kc ks) (kf : r = 0 → XW l D X own nm cc nL d mc ms K0 sz0 Z (pc + 3) L st K N R I J sz kc ks) : XW l D X own nm cc nL d mc ms K0 sz0 Z pc L (.ref r :: st) K N R I J sz kc ks := by
  intro p e Rm s m args below meth c H locs cells slots Q ls hC hH hl hE
  cases r with
  | zero => exact lv_ifnonnullN hC.1 hC.2.1 hd (kf rfl p e Rm s m args below meth c H locs cells slots Q ls hC hH hl hE)
  | succ r => exact lv_ifnonnull hC.1 hC.2.1 hd ht (kt (Nat.succ_ne_zero r) p e Rm s m args below meth c H locs cells slots Q ls hC hH hl hE)
theorem x_ldc {i : Nat} {v : Int32} (hd : decode cc pc = .ok (.ldc i, 2)) (hw : Cond.constant own i v ∈ xws) (k : XW l D X own nm cc nL d mc ms K0 sz0 Z (pc + 2) L (.int v :: st) K N R I J sz kc ks) : XW l D X own nm cc nL d mc ms K0 sz0 Z pc L (st) K N R I J sz kc ks := by
  intro p e Rm s m args below meth c H locs cells slots Q ls hC hH hl hE
  exact lv_ldc hC.1 hC.2.1 hC.2.2.2.1 (hC.2.2.2.2.1 _ hw) hd (k p e Rm s m args below meth c H locs cells slots Q ls hC hH hl hE)
theorem x_ldc2 {i : Nat} {v : Int64} (hd : decode cc pc = .ok (.ldc2_w i, 3)) (hw : Cond.constantLong own i v ∈ xws) (k : XW l D X own nm cc nL d mc ms K0 sz0 Z (pc + 3) L (.long v :: st) K N R I J sz kc ks) : XW l D X own nm cc nL d mc ms K0 sz0 Z pc L (st) K N R I J sz kc ks := by
  intro p e Rm s m args below meth c H locs cells slots Q ls hC hH hl hE
  exact lv_ldc2 hC.1 hC.2.1 hC.2.2.2.1 (hC.2.2.2.2.1 _ hw) hd (k p e Rm s m args below meth c H locs cells slots Q ls hC hH hl hE)
theorem x_tableOut {dflt lo hi : Int} {offs : Array Int} {len : Nat} {x : Int32} (tgt : Nat) (hd : decode cc pc = .ok (.tableswitch dflt lo hi offs, len)) (h : x.toInt < lo ∨ hi < x.toInt) (ht : (pc : Int) + dflt = (tgt : Int)) (k : XW l D X own nm cc nL d mc ms K0 sz0 Z (tgt) L (st) K N R I J sz kc ks) : XW l D X own nm cc nL d mc ms K0 sz0 Z pc L (.int x :: st) K N R I J sz kc ks := by
  intro p e Rm s m args below meth c H locs cells slots Q ls hC hH hl hE
  exact lv_tableOut hC.1 hC.2.1 hd h ht (k p e Rm s m args below meth c H locs cells slots Q ls hC hH hl hE)
theorem x_tableIn {dflt lo hi : Int} {offs : Array Int} {len : Nat} {x : Int32} {off : Int} (tgt : Nat) (hd : decode cc pc = .ok (.tableswitch dflt lo hi offs, len)) (h1 : ¬ x.toInt < lo) (h2 : ¬ hi < x.toInt) (ho : offs[(x.toInt - lo).toNat]? = some off) (ht : (pc : Int) + off = (tgt : Int)) (k : XW l D X own nm cc nL d mc ms K0 sz0 Z (tgt) L (st) K N R I J sz kc ks) : XW l D X own nm cc nL d mc ms K0 sz0 Z pc L (.int x :: st) K N R I J sz kc ks := by
  intro p e Rm s m args below meth c H locs cells slots Q ls hC hH hl hE
  exact lv_tableIn hC.1 hC.2.1 hd h1 h2 ho ht (k p e Rm s m args below meth c H locs cells slots Q ls hC hH hl hE)
end XR
