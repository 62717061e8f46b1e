/-! Rules for the heap and for calls -/
def xfl (own : String) (idx ci k : Nat) : Prop := ci < 4 ∧ ∃ (C : String) (T : u_T) (n : Nat), vwCl[ci]? = some (C, T, n) ∧ k < n ∧ (∀ w ∈ u_ws C T n, w ∈ xws) ∧ (∀ k, k < n → parseFieldDescriptor (T k).2.2.1 = some (xty ci k)) ∧ (∀ a, a < n → ∀ b, b < n → a ≠ b → (T a).2.1 ≠ (T b).2.1) ∧
  (Cond.fieldLink own idx (T k).1 (T k).2.1 (T k).2.2.1 ∈ xws ∨ ∃ host, Cond.fieldLinkNest own idx (T k).1 (T k).2.1 (T k).2.2.1 host ∈ xnest)
def xfin (ci k : Nat) : Bool := match vwCl[ci]? with
  | some q => (q.2.1 k).2.2.2
  | none => false
def xdcl (ci k : Nat) : String := match vwCl[ci]? with
  | some q => (q.2.1 k).1
  | none => ""
section XG
variable {l : Launch} {D : va_G} {X : State → Prop} {own nm : String} {cc : ByteArray} {nL d mc ms : Nat} {K0 : Nat → Nat} {sz0 : Nat} {Z : ZT} {pc : Nat} {L st : List Value} {K N : Nat → Nat} {R : Nat → Nat → Nat} {I : Nat → Nat → Int32} {J : Nat → Nat → Int64} {sz kc ks : Nat}
theorem x_get {idx ci k r : Nat} (v : Value) (hd : decode cc pc = .ok (.getfield idx, 3)) (f : xfl own idx ci k) (hK : K r = ci + 1) (hv : tv v = xf (R r) (I r) (xty ci k) k) (kk : XW l D X own nm cc nL d mc ms K0 sz0 Z (pc + 3) L (v :: st) K N R I J sz kc ks) : XW l D X own nm cc nL d mc ms K0 sz0 Z pc L (.ref r :: st) K N R I J sz kc ks := by
  intro p e Rm s m args below meth c H locs cells slots Q ls hC hH hl hE
  have k1 := kk p e Rm s m args below meth c H locs cells slots Q ls hC hH hl hE
  obtain ⟨hci, C, T, n, hc, hk, huw, hty, hnm, hlk⟩ := f
  cases r with
  | zero => exact absurd (hH.1.1.symm.trans hK) (by omega)
  | succ a =>
    obtain ⟨cell, q1, q2, q3, q4⟩ := (hH.1.2 a).2.1 ci hci hK _ hc
    obtain ⟨hx, hb, hml, hown, hts, hnw, hKn, -⟩ := hC
    obtain ⟨hS, hfc, kC, hkC, hkind⟩ := hKn.1 ci _ hc
    obtain ⟨cf, kf, fi, fd, hi, hsl⟩ := hS k hk
    have hfst := (u_facts hfc hkC (u_lays hts huw hk) hi).1
    have hval : cell.slots[fd.slot]? = some (tv v) := by rw [hsl, q4 k hk, hv]
    rcases hlk with hw | ⟨host, hw⟩
    · exact W.getf hx hb hown (hts _ hw) hi hfst q1 (by rw [q3]; exact fun h => by cases h) hval rfl rfl hd k1
    · exact va_Wgetf hx hb hown (va_Nw.use rfl (hnw _ hw)) hi hfst q1 (by rw [q3]; exact fun h => by cases h) hval rfl rfl hd k1
theorem x_geti {idx ci k r : Nat} (hd : decode cc pc = .ok (.getfield idx, 3)) (f : xfl own idx ci k) (hK : K r = ci + 1) (hv : Value.int (I r k) = xf (R r) (I r) (xty ci k) k) (kk : XW l D X own nm cc nL d mc ms K0 sz0 Z (pc + 3) L (.int (I r k) :: st) K N R I J sz kc ks) : XW l D X own nm cc nL d mc ms K0 sz0 Z pc L (.ref r :: st) K N R I J sz kc ks := x_get (.int (I r k)) hd f hK hv kk
theorem x_getr {idx ci k r : Nat} (hd : decode cc pc = .ok (.getfield idx, 3)) (f : xfl own idx ci k) (hK : K r = ci + 1) (hv : xr (R r k) = xf (R r) (I r) (xty ci k) k) (kk : XW l D X own nm cc nL d mc ms K0 sz0 Z (pc + 3) L (.ref (R r k) :: st) K N R I J sz kc ks) : XW l D X own nm cc nL d mc ms K0 sz0 Z pc L (.ref r :: st) K N R I J sz kc ks := x_get (.ref (R r k)) hd f hK hv kk
/-- a field is written: the rows Ra, Ia of the cell are the new ones -/
theorem x_put {idx ci k r : Nat} (v : Value) {Ra : Nat → Nat} {Ia : Nat → Int32} (hd : decode cc pc = .ok (.putfield idx, 3)) (f : xfl own idx ci k) (hK : K r = ci + 1) (hfin : xfin ci k = false ∨ (nm = "<init>" ∧ xdcl ci k = own)) (hn : narrow (xty ci k) (tv v) = tv v) (hft : fits (xty ci k) (tv v) = true)
    (hrow : ∀ j, xf Ra Ia (xty ci j) j = if j = k then tv v else xf (R r) (I r) (xty ci j) j)
    (kk : XW l D X own nm cc nL d mc ms K0 sz0 Z (pc + 3) L st K N (va_up R r Ra) (va_up I r Ia) J sz kc ks) : XW l D X own nm cc nL d mc ms K0 sz0 Z pc L (v :: .ref r :: st) K N R I J sz kc ks := by
  intro p e Rm s m args below meth c H locs cells slots Q ls hC hH hl hE
  have f0 := f
  obtain ⟨hci, C, T, n, hc, hk, huw, hty, hnm, hlk⟩ := f
  cases r with
  | zero => exact absurd (hH.1.1.symm.trans hK) (by omega)
  | succ a =>
    obtain ⟨cell, q1, q2, q3, q4⟩ := (hH.1.2 a).2.1 ci hci hK _ hc
    have hC0 := hC
    obtain ⟨hx, hb, hml, hown, hts, hnw, hKn, hmn, -⟩ := hC
    have hap := va_apart (own := own) hts huw (xty ci) hty hnm hKn hc
    obtain ⟨hS, hfc, kC, hkC, hkind⟩ := hKn.1 ci _ hc
    obtain ⟨cf, kf, fi, fd, hi, hsl⟩ := hS k hk
    have hlays := u_lays hts huw hk
    have hfst := (u_facts hfc hkC hlays hi).1
    have hfit := u_fits hfc hkC hkind hlays hi (hty k hk) hn hft
    have hlt : fd.slot < cell.slots.size := by rw [hsl]; exact k2_hasslot (q4 k hk)
    have hfi : xfin ci k = (T k).2.2.2 := by simp [xfin, hc]
    have hdc : xdcl ci k = (T k).1 := by simp [xdcl, hc]
    have go : ∀ H' : Heap, H'[a]? = some (cell.setSlot fd.slot (tv v)) → H'.size = H.size → (∀ q, q ≠ a → H'[q]? = H[q]?) → W p l e Rm s m args below meth c H' (locs ++ [⟨a, fd.slot⟩]) cells slots Q (F0 m (pc + 3) ls (st.map tv)) := by
      intro H' e1 e2 e3
      refine kk p e Rm s m args below meth c H' _ cells slots Q ls hC0 ⟨?_, e2.trans hH.2.1, hH.2.2.1, hH.2.2.2.1.put e2 e3 (hH.2.2.1 a (by omega)), hH.2.2.2.2⟩ hl hE
      have h9 := hH.1.row (Ra := Ra) (Ia := Ia) (Ja := J (a + 1)) e2 e3 (a := a) ⟨fun cj hcj hkj q hq => by
        have hcc : cj = ci := by omega
        subst hcc
        cases hc.symm.trans hq
        rw [hsl] at e1
        exact t_OB.to (V := updV (fun k => xf (R (a + 1)) (I (a + 1)) (xty cj k) k) k (tv v)) ⟨_, e1, q2, q3, t_set q4 hap hk (tv v)⟩ (fun j _ => by rw [hrow j]; simp only [updV]), fun z => by omega, fun z => by omega, fun z => by omega, fun z => by omega⟩
      rwa [va_up_id] at h9
    have hcls : cell.cls = D.1 ci := q2
    rcases hfin with hfin | ⟨hini, hdecl⟩
    · have hlay := hts _ (huw _ (u_in_lay hk))
      unfold u_lay at hlay
      rw [hfi] at hfin
      rw [if_neg (by rw [hfin]; decide)] at hlay
      have h6 := u_store hfc hkC hkind hlay hi (hty k hk) hn hft
      rcases hlk with hw | ⟨host, hw⟩
      · exact W.putK hx hb (f := fd) ⟨hown, hts _ hw, ⟨_, _, _, hi⟩, hfst⟩ (by rw [q2]; exact h6) q1 q3 hlt rfl rfl hd go
      · exact va_WputK hx hb (f := fd) hown (va_Nw.use rfl (hnw _ hw)) hi hfst (by rw [q2]; exact h6) q1 q3 hlt rfl rfl hd go
    · rcases hlk with hw | ⟨host, hw⟩
      · by_cases hF : (T k).2.2.2 = true
        · have hlay := hts _ (huw _ (u_in_lay hk))
          unfold u_lay at hlay
          rw [if_pos hF] at hlay
          have hcf : m.cls = cf := by
            obtain ⟨_, _, c', _, _, _, -, -, hf', -, -, -, hown2, -⟩ := Cond.laysFinal_spec hlay
            have e1 : c' = cf := by have := hi.symm.trans hf'; simp at this; exact this.1.symm
            rw [← hdc, hdecl] at hown2
            rw [← e1]; exact Option.some.inj (hown.symm.trans hown2)
          exact W.putFinK hx hb hown (hts _ hw) hi hfst hcf (hmn.trans hini) (by rw [q2]; exact hfit) q1 q3 hlt rfl rfl hd go
        · have hlay := hts _ (huw _ (u_in_lay hk))
          unfold u_lay at hlay
          rw [if_neg hF] at hlay
          have h6 := u_store hfc hkC hkind hlay hi (hty k hk) hn hft
          exact W.putK hx hb (f := fd) ⟨hown, hts _ hw, ⟨_, _, _, hi⟩, hfst⟩ (by rw [q2]; exact h6) q1 q3 hlt rfl rfl hd go
      · have hlay := hts _ (huw _ (u_in_lay hk))
        unfold u_lay at hlay
        by_cases hF : (T k).2.2.2 = true
        · rw [if_pos hF] at hlay
          have hcf : m.cls = cf := by
            obtain ⟨_, _, c', _, _, _, -, -, hf', -, -, -, hown2, -⟩ := Cond.laysFinal_spec hlay
            have e1 : c' = cf := by have := hi.symm.trans hf'; simp at this; exact this.1.symm
            rw [← hdc, hdecl] at hown2
            rw [← e1]; exact Option.some.inj (hown.symm.trans hown2)
          have ha : a < H.size := (Array.getElem?_eq_some_iff.mp q1).1
          refine va_Wputf hx hb hown (va_Nw.use rfl (hnw _ hw)) hi hfst (Or.inr ⟨hcf, hmn.trans hini⟩) q1 (by rw [q3]; exact fun h => by cases h) hlt hfit.1 (by rw [q2, q3]; exact hfit.2) rfl rfl hd ?_
          refine go _ ?_ ?_ ?_
          · simp [Array.getElem?_setIfInBounds, ha]
          · simp
          · intro q hq
            simp [Array.getElem?_setIfInBounds, Ne.symm hq]
        · rw [if_neg hF] at hlay
          have h6 := u_store hfc hkC hkind hlay hi (hty k hk) hn hft
          exact va_WputK hx hb (f := fd) hown (va_Nw.use rfl (hnw _ hw)) hi hfst (by rw [q2]; exact h6) q1 q3 hlt rfl rfl hd go
theorem x_puti {idx ci k r : Nat} {x : Int32} (hd : decode cc pc = .ok (.putfield idx, 3)) (f : xfl own idx ci k) (hK : K r = ci + 1) (hfin : xfin ci k = false) (hk : xty ci k = .int ∨ (xty ci k = .boolean ∧ (x = 0 ∨ x = 1)))
    (kk : XW l D X own nm cc nL d mc ms K0 sz0 Z (pc + 3) L st K N R (va_up I r (va_up (I r) k x)) J sz kc ks) : XW l D X own nm cc nL d mc ms K0 sz0 Z pc L (.int x :: .ref r :: st) K N R I J sz kc ks := by
  refine x_put (.int x) (Ra := R r) (Ia := va_up (I r) k x) hd f hK (Or.inl hfin) ?_ ?_ (fun j => ?_) (by rw [va_up_id]; exact kk)
  · rcases hk with h | ⟨h, rfl | rfl⟩ <;> rw [h] <;> rfl
  · rcases hk with h | ⟨h, rfl | rfl⟩ <;> rw [h] <;> rfl
  · by_cases hj : j = k
    · subst hj
      rw [if_pos rfl]
      rcases hk with h | ⟨h, -⟩ <;> rw [h] <;> simp [xf, va_up_self, tv]
    · rw [if_neg hj]
      simp only [xf, va_up_ne _ _ hj]
theorem x_putr {idx ci k r q : Nat} (hd : decode cc pc = .ok (.putfield idx, 3)) (f : xfl own idx ci k) (hK : K r = ci + 1) (hfin : xfin ci k = false ∨ (nm = "<init>" ∧ xdcl ci k = own)) (hk : (∃ t, xty ci k = .object t) ∨ ∃ t, xty ci k = .array t)
    (kk : XW l D X own nm cc nL d mc ms K0 sz0 Z (pc + 3) L st K N (va_up R r (va_up (R r) k q)) I J sz kc ks) : XW l D X own nm cc nL d mc ms K0 sz0 Z pc L (.ref q :: .ref r :: st) K N R I J sz kc ks := by
  refine x_put (.ref q) (Ra := va_up (R r) k q) (Ia := I r) hd f hK hfin ?_ ?_ (fun j => ?_) (by rw [va_up_id]; exact kk)
  · rcases hk with ⟨t, h⟩ | ⟨t, h⟩ <;> rw [h] <;> cases q <;> rfl
  · rcases hk with ⟨t, h⟩ | ⟨t, h⟩ <;> rw [h] <;> cases q <;> rfl
  · by_cases hj : j = k
    · subst hj
      rw [if_pos rfl]
      rcases hk with ⟨t, h⟩ | ⟨t, h⟩ <;> rw [h] <;> simp [xf, va_up_self, tv]
    · rw [if_neg hj]
      simp only [xf, va_up_ne _ _ hj]
end XG
