/-! Arrays, new cells, the JDK's own -/
section XA
variable {l : Launch} {D : va_G} {X : State → Prop} {own nm : String} {cc : ByteArray} {nL d mc ms : Nat} {K0 : Nat → Nat} {sz0 : Nat} {Z : ZT} {pc : Nat} {L st : List Value} {K N : Nat → Nat} {R : Nat → Nat → Nat} {I : Nat → Nat → Int32} {J : Nat → Nat → Int64} {sz kc ks : Nat}
theorem xv_in {i : Int32} {j n : Nat} (hi : i = nI j) (hj : j < n) (hn : n < 2147483648) {cA : ClassId} {f : Nat → Value} : ¬ (i < 0 ∨ (arrV cA n f).slots.size ≤ i.toNatClampNeg) := by
  rw [arrV_size, hi]
  exact nI_in hj hn
theorem xv_cl {i : Int32} {j n : Nat} (hi : i = nI j) (hj : j < n) (hn : n < 2147483648) : i.toNatClampNeg = j := by
  rw [hi]; exact nI_clamp (by omega)
theorem x_iald {r n : Nat} (j : Nat) {i : Int32} (hd : decode cc pc = .ok (.iaload, 1)) (hK : K r = 10) (hN : N r = n) (hi : i = nI j) (hj : j < n) (hn : n < 2147483648) (kk : XW l D X own nm cc nL d mc ms K0 sz0 Z (pc + 1) L (.int (I r j) :: st) K N R I J sz kc ks) : XW l D X own nm cc nL d mc ms K0 sz0 Z pc L (.int i :: .ref r :: st) K N R I J sz kc ks := by
  intro p e Rm s m args below meth c H locs cells slots Q ls hC hH hl hE
  have k1 := kk p e Rm s m args below meth c H locs cells slots Q ls hC hH hl hE
  cases r with
  | zero => exact absurd (hH.1.1.symm.trans hK) (by omega)
  | succ a =>
    obtain ⟨cA, h1, h2, h3⟩ := (hH.1.2 a).2.2.1 hK
    subst hN
    exact W.iald (v := tv (.int (I (a + 1) j))) hC.1 hC.2.1 h3 (h1 _ _) (fun q => by cases q) (xv_in hi hj hn) (by rw [xv_cl hi hj hn, arrV_read _ _ hj]; rfl) rfl rfl hd k1
theorem x_lald {r n : Nat} (j : Nat) {i : Int32} (hd : decode cc pc = .ok (.laload, 1)) (hK : K r = 11) (hN : N r = n) (hi : i = nI j) (hj : j < n) (hn : n < 2147483648) (kk : XW l D X own nm cc nL d mc ms K0 sz0 Z (pc + 1) L (.long (J r j) :: st) K N R I J sz kc ks) : XW l D X own nm cc nL d mc ms K0 sz0 Z pc L (.int i :: .ref r :: st) K N R I J sz kc ks := by
  intro p e Rm s m args below meth c H locs cells slots Q ls hC hH hl hE
  have k1 := kk p e Rm s m args below meth c H locs cells slots Q ls hC hH hl hE
  cases r with
  | zero => exact absurd (hH.1.1.symm.trans hK) (by omega)
  | succ a =>
    obtain ⟨cA, h1, h2, h3⟩ := (hH.1.2 a).2.2.2.1 hK
    subst hN
    exact W.lald (v := tv (.long (J (a + 1) j))) hC.1 hC.2.1 h3 (h1 _ _) (fun q => by cases q) (xv_in hi hj hn) (by rw [xv_cl hi hj hn, arrV_read _ _ hj]; rfl) rfl rfl hd k1
theorem x_zald {r n : Nat} (j : Nat) {i : Int32} (hd : decode cc pc = .ok (.baload, 1)) (hK : K r = 12) (hN : N r = n) (hi : i = nI j) (hj : j < n) (hn : n < 2147483648) (kk : XW l D X own nm cc nL d mc ms K0 sz0 Z (pc + 1) L (.int (I r j) :: st) K N R I J sz kc ks) : XW l D X own nm cc nL d mc ms K0 sz0 Z pc L (.int i :: .ref r :: st) K N R I J sz kc ks := by
  intro p e Rm s m args below meth c H locs cells slots Q ls hC hH hl hE
  have k1 := kk p e Rm s m args below meth c H locs cells slots Q ls hC hH hl hE
  cases r with
  | zero => exact absurd (hH.1.1.symm.trans hK) (by omega)
  | succ a =>
    obtain ⟨cA, h1, h2, h3⟩ := (hH.1.2 a).2.2.2.2.1 hK
    subst hN
    exact W.zald (v := tv (.int (I (a + 1) j))) hC.1 hC.2.1 h3 (h1 _ _) (fun q => by cases q) (xv_in hi hj hn) (by rw [xv_cl hi hj hn, arrV_read _ _ hj]; rfl) rfl rfl hd k1
theorem x_aald {r n : Nat} (j : Nat) {i : Int32} (hd : decode cc pc = .ok (.aaload, 1)) (hK : K r = 13) (hN : N r = n) (hi : i = nI j) (hj : j < n) (hn : n < 2147483648) (kk : XW l D X own nm cc nL d mc ms K0 sz0 Z (pc + 1) L (.ref (R r j) :: st) K N R I J sz kc ks) : XW l D X own nm cc nL d mc ms K0 sz0 Z pc L (.int i :: .ref r :: st) K N R I J sz kc ks := by
  intro p e Rm s m args below meth c H locs cells slots Q ls hC hH hl hE
  have k1 := kk p e Rm s m args below meth c H locs cells slots Q ls hC hH hl hE
  cases r with
  | zero => exact absurd (hH.1.1.symm.trans hK) (by omega)
  | succ a =>
    obtain ⟨cA, h1, h2, h3⟩ := (hH.1.2 a).2.2.2.2.2 hK
    subst hN
    exact W.aald (ty := .object RX1) (v := tv (.ref (R (a + 1) j))) hC.1 hC.2.1 h3 (h1 _ _) rfl (fun q => by cases q) (xv_in hi hj hn) (by rw [xv_cl hi hj hn, arrV_read _ _ hj]; rfl) rfl rfl hd k1
theorem x_iast {r n : Nat} (j : Nat) {i : Int32} {x : Int32} (hd : decode cc pc = .ok (.iastore, 1)) (hK : K r = 10) (hN : N r = n) (hi : i = nI j) (hj : j < n) (hn : n < 2147483648) (kk : XW l D X own nm cc nL d mc ms K0 sz0 Z (pc + 1) L st K N R (va_up I r (va_up (I r) j x)) J sz kc ks) : XW l D X own nm cc nL d mc ms K0 sz0 Z pc L (.int x :: .int i :: .ref r :: st) K N R I J sz kc ks := by
  intro p e Rm s m args below meth c H locs cells slots Q ls hC hH hl hE
  cases r with
  | zero => exact absurd (hH.1.1.symm.trans hK) (by omega)
  | succ a =>
    obtain ⟨cA, h1, h2, h3⟩ := (hH.1.2 a).2.2.1 hK
    subst hN
    refine W.iast hC.1 hC.2.1 h3 (h1 _ _) (fun q => by cases q) (xv_in hi hj hn) rfl rfl hd fun H' e1 e2 e3 => ?_
    rw [xv_cl hi hj hn]
    rw [xv_cl hi hj hn, arrV_store] at e1
    refine kk p e Rm s m args below meth c H' _ cells slots Q ls hC ⟨?_, e2.trans hH.2.1, hH.2.2.1, hH.2.2.2.1.put e2 e3 (hH.2.2.1 a (by omega)), hH.2.2.2.2⟩ hl hE
    have e1 : H'[a]? = some (arrV cA (N (a + 1)) (fun q => .int ((va_up (I (a + 1)) j x) q))) := by
      rw [e1]
      congr 2
      funext q
      by_cases hq : q = j
      · subst hq; simp only [updV, va_up, if_true]
      · simp only [updV, va_up, if_neg hq]
    have h9 := hH.1.row (Ra := R (a + 1)) (Ia := (va_up (I (a + 1)) j x)) (Ja := (J (a + 1))) e2 e3 (a := a) ⟨fun ci hci hk => by omega, fun _ => ⟨cA, h1, h2, e1⟩, fun z => by omega, fun z => by omega, fun z => by omega⟩
    rwa [va_up_id, va_up_id] at h9
theorem x_last {r n : Nat} (j : Nat) {i : Int32} {x : Int64} (hd : decode cc pc = .ok (.lastore, 1)) (hK : K r = 11) (hN : N r = n) (hi : i = nI j) (hj : j < n) (hn : n < 2147483648) (kk : XW l D X own nm cc nL d mc ms K0 sz0 Z (pc + 1) L st K N R I (va_up J r (va_up (J r) j x)) sz kc ks) : XW l D X own nm cc nL d mc ms K0 sz0 Z pc L (.long x :: .int i :: .ref r :: st) K N R I J sz kc ks := by
  intro p e Rm s m args below meth c H locs cells slots Q ls hC hH hl hE
  cases r with
  | zero => exact absurd (hH.1.1.symm.trans hK) (by omega)
  | succ a =>
    obtain ⟨cA, h1, h2, h3⟩ := (hH.1.2 a).2.2.2.1 hK
    subst hN
    refine W.last hC.1 hC.2.1 h3 (h1 _ _) (fun q => by cases q) (xv_in hi hj hn) rfl rfl hd fun H' e1 e2 e3 => ?_
    rw [xv_cl hi hj hn]
    rw [xv_cl hi hj hn, arrV_store] at e1
    refine kk p e Rm s m args below meth c H' _ cells slots Q ls hC ⟨?_, e2.trans hH.2.1, hH.2.2.1, hH.2.2.2.1.put e2 e3 (hH.2.2.1 a (by omega)), hH.2.2.2.2⟩ hl hE
    have e1 : H'[a]? = some (arrV cA (N (a + 1)) (fun q => .long ((va_up (J (a + 1)) j x) q))) := by
      rw [e1]
      congr 2
      funext q
      by_cases hq : q = j
      · subst hq; simp only [updV, va_up, if_true]
      · simp only [updV, va_up, if_neg hq]
    have h9 := hH.1.row (Ra := R (a + 1)) (Ia := (I (a + 1))) (Ja := (va_up (J (a + 1)) j x)) e2 e3 (a := a) ⟨fun ci hci hk => by omega, fun z => by omega, fun _ => ⟨cA, h1, h2, e1⟩, fun z => by omega, fun z => by omega⟩
    rwa [va_up_id, va_up_id] at h9
theorem x_zast {r n : Nat} (j : Nat) {i : Int32} {x : Int32} (hd : decode cc pc = .ok (.bastore, 1)) (hK : K r = 12) (hN : N r = n) (hi : i = nI j) (hj : j < n) (hn : n < 2147483648) (hb01 : x = 0 ∨ x = 1) (kk : XW l D X own nm cc nL d mc ms K0 sz0 Z (pc + 1) L st K N R (va_up I r (va_up (I r) j x)) J sz kc ks) : XW l D X own nm cc nL d mc ms K0 sz0 Z pc L (.int x :: .int i :: .ref r :: st) K N R I J sz kc ks := by
  intro p e Rm s m args below meth c H locs cells slots Q ls hC hH hl hE
  cases r with
  | zero => exact absurd (hH.1.1.symm.trans hK) (by omega)
  | succ a =>
    obtain ⟨cA, h1, h2, h3⟩ := (hH.1.2 a).2.2.2.2.1 hK
    subst hN
    refine W.zast hC.1 hC.2.1 h3 (h1 _ _) (fun q => by cases q) (xv_in hi hj hn) rfl rfl hd fun H' e1 e2 e3 => ?_
    rw [xv_cl hi hj hn]
    have hnar : narrow .boolean (.int x) = .int x := by rcases hb01 with rfl | rfl <;> rfl
    rw [hnar] at e1
    rw [xv_cl hi hj hn, arrV_store] at e1
    refine kk p e Rm s m args below meth c H' _ cells slots Q ls hC ⟨?_, e2.trans hH.2.1, hH.2.2.1, hH.2.2.2.1.put e2 e3 (hH.2.2.1 a (by omega)), hH.2.2.2.2⟩ hl hE
    have e1 : H'[a]? = some (arrV cA (N (a + 1)) (fun q => .int ((va_up (I (a + 1)) j x) q))) := by
      rw [e1]
      congr 2
      funext q
      by_cases hq : q = j
      · subst hq; simp only [updV, va_up, if_true]
      · simp only [updV, va_up, if_neg hq]
    have h9 := hH.1.row (Ra := R (a + 1)) (Ia := (va_up (I (a + 1)) j x)) (Ja := (J (a + 1))) e2 e3 (a := a) ⟨fun ci hci hk => by omega, fun z => by omega, fun z => by omega, fun _ => ⟨cA, h1, h2, e1⟩, fun z => by omega⟩
    rwa [va_up_id, va_up_id] at h9
theorem x_aast {r n q : Nat} (j : Nat) {i : Int32} (hd : decode cc pc = .ok (.aastore, 1)) (hK : K r = 13) (hN : N r = n) (hi : i = nI j) (hj : j < n) (hn : n < 2147483648) (hq : K q = 2) (kk : XW l D X own nm cc nL d mc ms K0 sz0 Z (pc + 1) L st K N (va_up R r (va_up (R r) j q)) I J sz kc ks) : XW l D X own nm cc nL d mc ms K0 sz0 Z pc L (.ref q :: .int i :: .ref r :: st) K N R I J sz kc ks := by
  intro p e Rm s m args below meth c H locs cells slots Q ls hC hH hl hE
  cases q with
  | zero => exact absurd (hH.1.1.symm.trans hq) (by omega)
  | succ v =>
  cases r with
  | zero => exact absurd (hH.1.1.symm.trans hK) (by omega)
  | succ a =>
    obtain ⟨cA, h1, h2, h3⟩ := (hH.1.2 a).2.2.2.2.2 hK
    subst hN
    obtain ⟨cellV, g1, g2, g3, -⟩ := (hH.1.2 v).2.1 1 (by omega) hq _ (show vwCl[1]? = some (RX1, TX1, 7) from rfl)
    have hcls := (hC.2.2.2.2.2.2.1.1 1 _ (show vwCl[1]? = some (RX1, TX1, 7) from rfl)).2
    have h2' := h2
    obtain ⟨kA, comp, k1, k2, k3, -⟩ := h2'
    have hcomp : comp = D.1 1 := Option.some.inj (k3.symm.trans hcls.1)
    subst hcomp
    obtain ⟨kC, hkC, -⟩ := id hcls.2
    refine W.aast hC.1 hC.2.1 h3 (fun q h => by cases h) (fun h => by cases h) k1 k2 rfl hkC ⟨fun z => xv_in (cA := cA) (f := fun _ => .null) hi hj hn (Or.inl z), by rw [arrV_size, xv_cl hi hj hn]; exact hj⟩ g1 (fun q h => by rw [g3] at h; cases h) (by rw [g2]; exact hkC) (by rw [g2]; exact va_assign hcls) rfl rfl hd fun H' e1 e2 e3 => ?_
    rw [xv_cl hi hj hn]
    rw [xv_cl hi hj hn, arrV_store] at e1
    refine kk p e Rm s m args below meth c H' _ cells slots Q ls hC ⟨?_, e2.trans hH.2.1, hH.2.2.1, hH.2.2.2.1.put e2 e3 (hH.2.2.1 a (by omega)), hH.2.2.2.2⟩ hl hE
    have e1 : H'[a]? = some (arrV cA (N (a + 1)) (fun q => xr ((va_up (R (a + 1)) j (v + 1)) q))) := by
      rw [e1]
      congr 2
      funext q
      by_cases hq : q = j
      · subst hq; simp only [updV, va_up, if_true]; rfl
      · simp only [updV, va_up, if_neg hq]
    have h9 := hH.1.row (Ra := va_up (R (a + 1)) j (v + 1)) (Ia := I (a + 1)) (Ja := J (a + 1)) e2 e3 (a := a) ⟨fun ci hci hk => by omega, fun z => by omega, fun z => by omega, fun z => by omega, fun _ => ⟨cA, h1, h2, e1⟩⟩
    rwa [va_up_id, va_up_id] at h9
def xnw (own : String) (idx ci n : Nat) : Prop := ci < 4 ∧ ∃ (C : String) (T : u_T), vwCl[ci]? = some (C, T, n) ∧ (∀ w ∈ u_ws C T n, w ∈ xws) ∧ (∀ k, k < n → parseFieldDescriptor (T k).2.2.1 = some (xty ci k)) ∧ (∀ k, k < n → defaultValue (xty ci k) = xf (fun _ => 0) (fun _ => 0) (xty ci k) k) ∧ Cond.classLink own idx C ∈ xws ∧ Cond.instantiable C n ∈ xws ∧ Cond.initialized C ∈ xws
theorem x_new {idx ci n : Nat} (hd : decode cc pc = .ok (.new idx, 3)) (f : xnw own idx ci n) (kk : XW l D X own nm cc nL d mc ms K0 sz0 Z (pc + 3) L (.ref (sz + 1) :: st) (va_up K (sz + 1) (ci + 1)) (va_up N (sz + 1) 0) (va_up R (sz + 1) (fun _ => 0)) (va_up I (sz + 1) (fun _ => 0)) (va_up J (sz + 1) (fun _ => 0)) (sz + 1) kc ks) : XW l D X own nm cc nL d mc ms K0 sz0 Z pc L st K N R I J sz (kc + 1) (ks + n) := by
  intro p e Rm s m args below meth c H locs cells slots Q ls hC hH hl hE
  obtain ⟨hci, C, T, hc, huw, hty, hdf, w1, w2, w3⟩ := f
  have hC0 := hC
  obtain ⟨hx, hb, hml, hown, hts, hnw, hKn, hmn, hf1, hf2, hmc, hms, hs0, hX⟩ := hC
  have hKn' := hKn.1 ci _ hc
  have hcb := hH.2.2.2.2.1
  have hsb := hH.2.2.2.2.2
  refine W.newcK hx hb hown (hts _ w1) (hts _ w2) (hts _ w3) rfl hd (by omega) (by omega) hKn'.2.1 hH.2.1 fun H1 kC hkC e1 z1 o1 => ?_
  refine kk p e Rm s m args below meth c H1 locs _ _ Q ls hC0 ⟨hH.1.push (k := ci + 1) (n := 0) (Ra := fun _ => 0) (Ia := fun _ => 0) (Ja := fun _ => 0) hH.2.1 z1 o1 ⟨fun cj hcj hkj q hq => ?_, fun z => by omega, fun z => by omega, fun z => by omega, fun z => by omega⟩, z1, fun q hq => ?_, ⟨Nat.le_trans hH.2.2.2.1.1 (by have := hH.2.1; omega), fun x h1 h2 => (o1 x (by have := hH.2.2.2.1.1; have := hH.2.1; omega)).trans (hH.2.2.2.1.2.1 x h1 h2), hH.2.2.2.1.2.2⟩, by omega, by omega⟩ hl hE
  · have hcc : cj = ci := by omega
    subst hcc
    cases hc.symm.trans hq
    exact (u_born (xty cj) hts huw hKn' hkC e1 hty).to hdf
  · by_cases h : q + 1 = sz + 1
    · have h1 := hH.2.2.2.1.1
      have h2 := hH.2.1
      exact Or.inr (by omega)
    · rw [va_up_ne _ _ h] at hq
      exact hH.2.2.1 q hq
theorem x_newi (n : Nat) {i : Int32} (hd : decode cc pc = .ok (.newarray .int, 2)) (hw : Cond.arrayClass .int ∈ xws) (hi : i = nI n) (hn : n < 65536) (kk : XW l D X own nm cc nL d mc ms K0 sz0 Z (pc + 2) L (.ref (sz + 1) :: st) (va_up K (sz + 1) 10) (va_up N (sz + 1) n) (va_up R (sz + 1) (fun _ => 0)) (va_up I (sz + 1) (fun _ => 0)) (va_up J (sz + 1) (fun _ => 0)) (sz + 1) kc ks) : XW l D X own nm cc nL d mc ms K0 sz0 Z pc L (.int i :: st) K N R I J sz (kc + 1) (ks + n) := by
  intro p e Rm s m args below meth c H locs cells slots Q ls hC hH hl hE
  have hcb := hH.2.2.2.2.1
  have hsb := hH.2.2.2.2.2
  have hmc : mc ≤ Rm.cells := hC.2.2.2.2.2.2.2.2.2.2.1
  have hms : ms ≤ Rm.slots := hC.2.2.2.2.2.2.2.2.2.2.2.1
  refine va_newaK hC.1 hC.2.1 (atype := .int) (hC.2.2.2.2.1 _ hw) rfl hd rfl (by rw [hi]; exact nI_pos (by omega)) (by rw [hi]; exact nI_clamp (by omega)) (show n * componentBytes .int ≤ 536870912 by simp only [componentBytes]; omega) (by omega) (by omega) hH.2.1 fun H1 cA e1 z1 o1 hAr hNm => ?_
  refine kk p e Rm s m args below meth c H1 locs _ _ Q ls hC ⟨hH.1.push (k := 10) (n := n) (Ra := fun _ => 0) (Ia := (fun _ => 0)) (Ja := (fun _ => 0)) hH.2.1 z1 o1 ⟨fun ci hci hk => by omega, fun _ => ⟨cA, hAr, hNm, e1⟩, fun z => by omega, fun z => by omega, fun z => by omega⟩, z1, fun q hq => ?_, ⟨Nat.le_trans hH.2.2.2.1.1 (by have := hH.2.1; omega), fun x h1 h2 => (o1 x (by have := hH.2.2.2.1.1; have := hH.2.1; omega)).trans (hH.2.2.2.1.2.1 x h1 h2), hH.2.2.2.1.2.2⟩, by omega, by omega⟩ hl hE
  by_cases h : q + 1 = sz + 1
  · have h1 := hH.2.2.2.1.1
    have h2 := hH.2.1
    have h3 : s.heap.size = sz0 := hC.2.2.2.2.2.2.2.2.2.2.2.2.1
    exact Or.inr (by omega)
  · rw [va_up_ne _ _ h] at hq
    exact hH.2.2.1 q hq
theorem x_newl (n : Nat) {i : Int32} (hd : decode cc pc = .ok (.newarray .long, 2)) (hw : Cond.arrayClass .long ∈ xws) (hi : i = nI n) (hn : n < 65536) (kk : XW l D X own nm cc nL d mc ms K0 sz0 Z (pc + 2) L (.ref (sz + 1) :: st) (va_up K (sz + 1) 11) (va_up N (sz + 1) n) (va_up R (sz + 1) (fun _ => 0)) (va_up I (sz + 1) (fun _ => 0)) (va_up J (sz + 1) (fun _ => 0)) (sz + 1) kc ks) : XW l D X own nm cc nL d mc ms K0 sz0 Z pc L (.int i :: st) K N R I J sz (kc + 1) (ks + n) := by
  intro p e Rm s m args below meth c H locs cells slots Q ls hC hH hl hE
  have hcb := hH.2.2.2.2.1
  have hsb := hH.2.2.2.2.2
  have hmc : mc ≤ Rm.cells := hC.2.2.2.2.2.2.2.2.2.2.1
  have hms : ms ≤ Rm.slots := hC.2.2.2.2.2.2.2.2.2.2.2.1
  refine va_newaK hC.1 hC.2.1 (atype := .long) (hC.2.2.2.2.1 _ hw) rfl hd rfl (by rw [hi]; exact nI_pos (by omega)) (by rw [hi]; exact nI_clamp (by omega)) (show n * componentBytes .long ≤ 536870912 by simp only [componentBytes]; omega) (by omega) (by omega) hH.2.1 fun H1 cA e1 z1 o1 hAr hNm => ?_
  refine kk p e Rm s m args below meth c H1 locs _ _ Q ls hC ⟨hH.1.push (k := 11) (n := n) (Ra := fun _ => 0) (Ia := (fun _ => 0)) (Ja := (fun _ => 0)) hH.2.1 z1 o1 ⟨fun ci hci hk => by omega, fun z => by omega, fun _ => ⟨cA, hAr, hNm, e1⟩, fun z => by omega, fun z => by omega⟩, z1, fun q hq => ?_, ⟨Nat.le_trans hH.2.2.2.1.1 (by have := hH.2.1; omega), fun x h1 h2 => (o1 x (by have := hH.2.2.2.1.1; have := hH.2.1; omega)).trans (hH.2.2.2.1.2.1 x h1 h2), hH.2.2.2.1.2.2⟩, by omega, by omega⟩ hl hE
  by_cases h : q + 1 = sz + 1
  · have h1 := hH.2.2.2.1.1
    have h2 := hH.2.1
    have h3 : s.heap.size = sz0 := hC.2.2.2.2.2.2.2.2.2.2.2.2.1
    exact Or.inr (by omega)
  · rw [va_up_ne _ _ h] at hq
    exact hH.2.2.1 q hq
theorem x_newz (n : Nat) {i : Int32} (hd : decode cc pc = .ok (.newarray .boolean, 2)) (hw : Cond.arrayClass .boolean ∈ xws) (hi : i = nI n) (hn : n < 65536) (kk : XW l D X own nm cc nL d mc ms K0 sz0 Z (pc + 2) L (.ref (sz + 1) :: st) (va_up K (sz + 1) 12) (va_up N (sz + 1) n) (va_up R (sz + 1) (fun _ => 0)) (va_up I (sz + 1) (fun _ => 0)) (va_up J (sz + 1) (fun _ => 0)) (sz + 1) kc ks) : XW l D X own nm cc nL d mc ms K0 sz0 Z pc L (.int i :: st) K N R I J sz (kc + 1) (ks + n) := by
  intro p e Rm s m args below meth c H locs cells slots Q ls hC hH hl hE
  have hcb := hH.2.2.2.2.1
  have hsb := hH.2.2.2.2.2
  have hmc : mc ≤ Rm.cells := hC.2.2.2.2.2.2.2.2.2.2.1
  have hms : ms ≤ Rm.slots := hC.2.2.2.2.2.2.2.2.2.2.2.1
  refine va_newaK hC.1 hC.2.1 (atype := .boolean) (hC.2.2.2.2.1 _ hw) rfl hd rfl (by rw [hi]; exact nI_pos (by omega)) (by rw [hi]; exact nI_clamp (by omega)) (show n * componentBytes .boolean ≤ 536870912 by simp only [componentBytes]; omega) (by omega) (by omega) hH.2.1 fun H1 cA e1 z1 o1 hAr hNm => ?_
  refine kk p e Rm s m args below meth c H1 locs _ _ Q ls hC ⟨hH.1.push (k := 12) (n := n) (Ra := fun _ => 0) (Ia := (fun _ => 0)) (Ja := (fun _ => 0)) hH.2.1 z1 o1 ⟨fun ci hci hk => by omega, fun z => by omega, fun z => by omega, fun _ => ⟨cA, hAr, hNm, e1⟩, fun z => by omega⟩, z1, fun q hq => ?_, ⟨Nat.le_trans hH.2.2.2.1.1 (by have := hH.2.1; omega), fun x h1 h2 => (o1 x (by have := hH.2.2.2.1.1; have := hH.2.1; omega)).trans (hH.2.2.2.1.2.1 x h1 h2), hH.2.2.2.1.2.2⟩, by omega, by omega⟩ hl hE
  by_cases h : q + 1 = sz + 1
  · have h1 := hH.2.2.2.1.1
    have h2 := hH.2.1
    have h3 : s.heap.size = sz0 := hC.2.2.2.2.2.2.2.2.2.2.2.2.1
    exact Or.inr (by omega)
  · rw [va_up_ne _ _ h] at hq
    exact hH.2.2.1 q hq
theorem x_newv {idx : Nat} (n : Nat) {i : Int32} (hd : decode cc pc = .ok (.anewarray idx, 3)) (hw : Cond.classLink own idx RX1 ∈ xws) (hw2 : Cond.arrayOver (.object RX1) ∈ xnest) (hi : i = nI n) (hn : n < 65536) (kk : XW l D X own nm cc nL d mc ms K0 sz0 Z (pc + 3) L (.ref (sz + 1) :: st) (va_up K (sz + 1) 13) (va_up N (sz + 1) n) (va_up R (sz + 1) (fun _ => 0)) (va_up I (sz + 1) (fun _ => 0)) (va_up J (sz + 1) (fun _ => 0)) (sz + 1) kc ks) : XW l D X own nm cc nL d mc ms K0 sz0 Z pc L (.int i :: st) K N R I J sz (kc + 1) (ks + n) := by
  intro p e Rm s m args below meth c H locs cells slots Q ls hC hH hl hE
  have hcb := hH.2.2.2.2.1
  have hsb := hH.2.2.2.2.2
  have hmc : mc ≤ Rm.cells := hC.2.2.2.2.2.2.2.2.2.2.1
  have hms : ms ≤ Rm.slots := hC.2.2.2.2.2.2.2.2.2.2.2.1
  have hcl : i.toNatClampNeg = n := by rw [hi]; exact nI_clamp (by omega)
  refine W.anew hC.1 hC.2.1 hC.2.2.2.1 (hC.2.2.2.2.1 _ hw) (va_AO.use (hC.2.2.2.2.2.1 _ hw2)) rfl hd rfl (by rw [hi]; exact nI_pos (by omega)) (by rw [hcl]; omega) (by omega) (by rw [hcl]; omega) fun cA kA comp g1 g2 g3 g4 => ?_
  rw [hcl, arrV_new, hH.2.1]
  have z1 : (H.push (arrV cA n (fun _ => Value.null))).size = sz + 1 := by rw [Array.size_push, hH.2.1]
  have e1 : (H.push (arrV cA n (fun _ => Value.null)))[sz]? = some (arrV cA n (fun _ => Value.null)) := by rw [← hH.2.1]; simp
  have o1 : ∀ q, q < sz → (H.push (arrV cA n (fun _ => Value.null)))[q]? = H[q]? := fun q hq => by rw [Array.getElem?_push, if_neg (by have := hH.2.1; omega)]
  refine kk p e Rm s m args below meth c _ locs _ _ Q ls hC ⟨hH.1.push (k := 13) (n := n) (Ra := fun _ => 0) (Ia := fun _ => 0) (Ja := fun _ => 0) hH.2.1 z1 o1 ⟨fun ci hci hk => by omega, fun z => by omega, fun z => by omega, fun z => by omega, fun _ => ⟨cA, fun n z => ⟨fun k h => (by cases h), kA, g2, comp, g3⟩, ⟨kA, comp, g2, g3, g4, g1⟩, e1⟩⟩, z1, fun q hq => ?_, ⟨Nat.le_trans hH.2.2.2.1.1 (by have := hH.2.1; omega), fun x h1 h2 => (o1 x (by have := hH.2.2.2.1.1; have := hH.2.1; omega)).trans (hH.2.2.2.1.2.1 x h1 h2), hH.2.2.2.1.2.2⟩, by omega, by omega⟩ hl hE
  by_cases h : q + 1 = sz + 1
  · have h1 := hH.2.2.2.1.1
    have h2 := hH.2.1
    have h3 : s.heap.size = sz0 := hC.2.2.2.2.2.2.2.2.2.2.2.2.1
    exact Or.inr (by omega)
  · rw [va_up_ne _ _ h] at hq
    exact hH.2.2.1 q hq
theorem x_min {idx : Nat} {x y : Int32} (hd : decode cc pc = .ok (.invokestatic idx, 3)) (w1 : Cond.methodLink own idx Lib.Math.min.name ∈ xws) (w2 : Cond.static Lib.Math.min.name ∈ xws) (w3 : Cond.initialized "java/lang/Math" ∈ xws) (w4 : Cond.code Lib.Math.min.name Lib.Math.min.code 2 (some .int) ∈ xws) (hdp : 1 ≤ d) (hst : (st.map fun v => v.category).sum ≤ 8) (kk : XW l D X own nm cc nL d mc ms K0 sz0 Z (pc + 3) L (.int (if y < x then y else x) :: st) K N R I J sz kc ks) : XW l D X own nm cc nL d mc ms K0 sz0 Z pc L (.int y :: .int x :: st) K N R I J sz kc ks := by
  intro p e Rm s m args below meth c H locs cells slots Q ls hC hH hl hE
  have k1 := kk p e Rm s m args below meth c H locs cells slots Q ls hC hH hl hE
  obtain ⟨hx, hb, hml, hown, hts, hnw, hKn, hmn, hf1, hf2, hmc, hms, hs0, hX⟩ := hC
  have hcb := hH.2.2.2.2.1
  have hsb := hH.2.2.2.2.2
  exact va_mmin hx hb (by rw [hml]; exact hl.1.symm) hown (hts _ w1) (hts _ w2) (hts _ w3) (hts _ w4) (by omega) (by
    have : ((st.map tv).map fun v => v.category).sum = (st.map fun v => v.category).sum := by rw [List.map_map]; congr 2; funext v; exact tv_cat v
    rw [this]; omega) (by omega) (by omega) hd k1
theorem x_objInit {idx r : Nat} (hd : decode cc pc = .ok (.invokespecial idx, 3)) (w1 : Cond.methodLink own idx objectInit ∈ xws) (w2 : Cond.instanceMethod objectInit ∈ xws) (w3 : Cond.code objectInit ⟨#[0xb1]⟩ 1 none ∈ xws) (hr : r ≠ 0) (hdp : 1 ≤ d) (hst : (st.map fun v => v.category).sum ≤ 8) (kk : XW l D X own nm cc nL d mc ms K0 sz0 Z (pc + 3) L st K N R I J sz kc ks) : XW l D X own nm cc nL d mc ms K0 sz0 Z pc L (.ref r :: st) K N R I J sz kc ks := by
  intro p e Rm s m args below meth c H locs cells slots Q ls hC hH hl hE
  have k1 := kk p e Rm s m args below meth c H locs cells slots Q ls hC hH hl hE
  obtain ⟨hx, hb, hml, hown, hts, hnw, hKn, hmn, hf1, hf2, hmc, hms, hs0, hX⟩ := hC
  cases r with
  | zero => exact absurd rfl hr
  | succ a =>
    refine W.objInit hx hb hown (hts _ w1) (hts _ w2) (hts _ w3) rfl (by rw [hml]; exact hl.1) rfl hd (by omega) (by
      have : ((st.map tv).map fun v => v.category).sum = (st.map fun v => v.category).sum := by rw [List.map_map]; congr 2; funext v; exact tv_cat v
      show 2 * 0 + ((st.map tv).map fun v => v.category).sum + 12 ≤ _
      rw [this]; omega) ?_
    exact k1
end XA
