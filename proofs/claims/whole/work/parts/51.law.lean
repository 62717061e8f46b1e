/-! The law: its two objects side by side -/
def xK (m : Nat) (K : Nat → Nat) : Nat → Nat := fun r => if m ≤ r ∧ r < m + 14 then 0 else K r
def mK (m : Nat) (K : Nat → Nat) : Nat → Nat := fun r => if m ≤ r ∧ r < m + 14 then K r else 0
theorem xK_o {m r : Nat} {K : Nat → Nat} (h : ¬ (m ≤ r ∧ r < m + 14)) : xK m K r = K r := if_neg h
theorem xK_i {m r : Nat} {K : Nat → Nat} (h : m ≤ r ∧ r < m + 14) : xK m K r = 0 := if_pos h
theorem mK_i {m r : Nat} {K : Nat → Nat} (h : m ≤ r ∧ r < m + 14) : mK m K r = K r := if_pos h
theorem mK_o {m r : Nat} {K : Nat → Nat} (h : ¬ (m ≤ r ∧ r < m + 14)) : mK m K r = 0 := if_neg h
theorem xK_n {m r : Nat} {K : Nat → Nat} (h : xK m K r ≠ 0) : ¬ (m ≤ r ∧ r < m + 14) := fun z => h (xK_i z)
theorem mK_n {m r : Nat} {K : Nat → Nat} (h : mK m K r ≠ 0) : m ≤ r ∧ r < m + 14 := by
  by_cases z : m ≤ r ∧ r < m + 14
  · exact z
  · exact absurd (mK_o z) h
theorem MW.keep {m : Nat} {K N K1 N1 : Nat → Nat} {R R1 : Nat → Nat → Nat} (mw : MW m K N R) (h : ∀ q, q < 14 → K1 (m + q) = K (m + q) ∧ N1 (m + q) = N (m + q) ∧ R1 (m + q) = R (m + q)) : MW m K1 N1 R1 := by
  have h0 := h 0 (by omega)
  simp only [Nat.add_zero] at h0
  unfold MW
  rw [h0.1, h0.2.2, (h 1 (by omega)).1, (h 1 (by omega)).2.1, (h 2 (by omega)).1, (h 2 (by omega)).2.1, (h 3 (by omega)).1, (h 3 (by omega)).2.1, (h 4 (by omega)).1, (h 4 (by omega)).2.1, (h 5 (by omega)).1, (h 5 (by omega)).2.1, (h 6 (by omega)).1, (h 6 (by omega)).2.1, (h 7 (by omega)).1, (h 7 (by omega)).2.1, (h 8 (by omega)).1, (h 8 (by omega)).2.1, (h 9 (by omega)).1, (h 9 (by omega)).2.1, (h 10 (by omega)).1, (h 10 (by omega)).2.1, (h 11 (by omega)).1, (h 11 (by omega)).2.1, (h 12 (by omega)).1, (h 12 (by omega)).2.1, (h 13 (by omega)).1, (h 13 (by omega)).2.1]
  exact mw
theorem MW.nz {m : Nat} {K N : Nat → Nat} {R : Nat → Nat → Nat} (mw : MW m K N R) : ∀ q, q < 14 → K (m + q) ≠ 0 := by
  obtain ⟨a0, ⟨-, a1, -⟩, ⟨-, a2, -⟩, ⟨-, a3, -⟩, ⟨-, a4, -⟩, ⟨-, a5, -⟩, ⟨-, a6, -⟩, ⟨-, a7, -⟩, ⟨-, a8, -⟩, ⟨-, a9, -⟩, ⟨-, a10, -⟩, ⟨-, a11, -⟩, ⟨-, a12, -⟩, ⟨-, a13, -⟩⟩ := mw
  intro q hq
  rcases (show q = 0 ∨ q = 1 ∨ q = 2 ∨ q = 3 ∨ q = 4 ∨ q = 5 ∨ q = 6 ∨ q = 7 ∨ q = 8 ∨ q = 9 ∨ q = 10 ∨ q = 11 ∨ q = 12 ∨ q = 13 by omega) with rfl | rfl | rfl | rfl | rfl | rfl | rfl | rfl | rfl | rfl | rfl | rfl | rfl | rfl <;> (try simp only [Nat.add_zero]) <;> omega
theorem xmg_t {α : Type} {K1 : Nat → Nat} {sz r : Nat} {f' f : Nat → α} (h : K1 r ≠ 0 ∨ sz < r) : xmg K1 sz f' f r = f' r := if_pos h
theorem xmg_f {α : Type} {K1 : Nat → Nat} {sz r : Nat} {f' f : Nat → α} (h : ¬ (K1 r ≠ 0 ∨ sz < r)) : xmg K1 sz f' f r = f r := if_neg h
def LI (x m : Nat) (K N : Nat → Nat) (R : Nat → Nat → Nat) (sz : Nat) : Prop := m = x + 8 ∧ m + 13 ≤ sz ∧ CW x (xK m K) N R ∧ MW m K N R
def LJ (x m : Nat) (I : Nat → Nat → Int32) (J : Nat → Nat → Int64) (K' N' : Nat → Nat) (R' : Nat → Nat → Nat) (I' : Nat → Nat → Int32) (J' : Nat → Nat → Int64) (K2 N2 : Nat → Nat) (R2 : Nat → Nat → Nat) (I2 : Nat → Nat → Int32) (J2 : Nat → Nat → Int64) (sz2 : Nat) : Prop :=
  m = x + 8 ∧ m + 13 ≤ sz2 ∧ MW m (mK m K2) N2 R2 ∧ (∀ q, q < 14 → I2 (m + q) = I (m + q) ∧ J2 (m + q) = J (m + q)) ∧ (∀ q, K' q ≠ 0 → xK m K2 q = K' q ∧ N2 q = N' q ∧ R2 q = R' q ∧ I2 q = I' q ∧ J2 q = J' q)
def LE (m : Nat) (K2 N2 : Nat → Nat) (R2 : Nat → Nat → Nat) (I2 : Nat → Nat → Int32) (J2 : Nat → Nat → Int64) (If : Nat → Nat → Int32) (Jf : Nat → Nat → Int64) (K3 N3 : Nat → Nat) (R3 : Nat → Nat → Nat) (I3 : Nat → Nat → Int32) (J3 : Nat → Nat → Int64) : Prop :=
  MW m K3 N3 R3 ∧ (∀ q, xK m K2 q ≠ 0 → xK m K3 q = xK m K2 q ∧ N3 q = N2 q ∧ R3 q = R2 q ∧ I3 q = I2 q ∧ J3 q = J2 q) ∧ (∀ q, q < 14 → I3 (m + q) = If (m + q) ∧ J3 (m + q) = Jf (m + q))
section
variable {l : Launch} {D : va_G} {X : State → Prop} {own nm : String} {cc : ByteArray} {nL d mc ms : Nat} {K0 : Nat → Nat} {sz0 : Nat} {Z : ZT} {pc : Nat} {L st : List Value} {K N : Nat → Nat} {R : Nat → Nat → Nat} {I : Nat → Nat → Int32} {J : Nat → Nat → Int64} {sz kc ks : Nat}
variable {x m : Nat} {K2 N2 K3 N3 K' N' : Nat → Nat} {R2 R3 R' : Nat → Nat → Nat} {I2 I3 I' If : Nat → Nat → Int32} {J2 J3 J' Jf : Nat → Nat → Int64} {sz2 mc1 ms1 : Nat}
theorem law_c {y : MethodName} {c1 : ByteArray} {nL1 n d1 idx : Nat} {ret1 : Option FieldType} {As st0 : List Value} {Z1 : ZT} (li : LI x m K N R sz) (hM : XM l D y c1 nL1 ret1 d1 mc1 ms1 (.ref x :: As) (xK m K) N R I J sz Z1)
    (hd : decode cc pc = .ok (.invokevirtual idx, 3)) (hlk : xlk own idx y) (hin : Cond.instanceMethod y ∈ xws) (hse : Cond.selects y.cls y y ∈ xws) (hcd : xcd y c1 nL1 ret1 n) (hcl : ∃ T nn, vwCl[2]? = some (y.cls, T, nn)) (hn : As.length = n) (hdp : d1 + 1 ≤ d) (hst0 : st0 = As.reverse ++ .ref x :: st) (hst : (st.map fun v => v.category).sum ≤ 8)
    (kk : ∀ (v : Option Value) (K' N' : Nat → Nat) (R' : Nat → Nat → Nat) (I' : Nat → Nat → Int32) (J' : Nat → Nat → Int64) (K2 N2 : Nat → Nat) (R2 : Nat → Nat → Nat) (I2 : Nat → Nat → Int32) (J2 : Nat → Nat → Int64) (sz2 : Nat), Z1 v K' N' R' I' J' sz2 → LJ x m I J K' N' R' I' J' K2 N2 R2 I2 J2 sz2 → XW l D X own nm cc nL d mc ms K0 sz0 Z (pc + 3) L (v.toList ++ st) K2 N2 R2 I2 J2 sz2 kc ks) :
    XW l D X own nm cc nL d mc ms K0 sz0 Z pc L st0 K N R I J sz (kc + mc1) (ks + ms1) := by
  intro p e Rm s m' args below meth c H locs cells slots Q ls hC hH hl hE
  obtain ⟨e8, hsz, cw, mw⟩ := li
  have hx : K x = 2 + 1 := by rw [← xK_o (m := m) (K := K) (r := x) (by omega)]; exact cw.k
  refine x_callV hM ⟨?_, fun r hr => ?_⟩ hd hlk hin hse hcd (by decide) hx hcl hn hdp hst0 hst (fun v K' N' R' I' J' sz' hz hle hdom h0 => kk v K' N' R' I' J' _ _ _ _ _ sz' hz ?_) p e Rm s m' args below meth c H locs cells slots Q ls hC hH hl hE
  · by_cases z : m ≤ 0 ∧ 0 < m + 14
    · exact xK_i z
    · rw [xK_o z]; exact hH.1.1
  · rw [xK_o (xK_n hr)]; exact ⟨rfl, rfl, rfl, rfl, rfl⟩
  · have inr : ∀ q, q < 14 → ¬ (xK m K (m + q) ≠ 0 ∨ sz < m + q) := fun q hq z => by
      rcases z with z | z
      · exact z (xK_i (by omega))
      · omega
    have out : ∀ q, K' q ≠ 0 → (xK m K q ≠ 0 ∨ sz < q) ∧ ¬ (m ≤ q ∧ q < m + 14) := by
      intro q hq
      cases q with
      | zero => exact absurd h0 hq
      | succ q =>
        rcases hdom q hq with z | z
        · exact ⟨Or.inl z, xK_n z⟩
        · exact ⟨Or.inr (by omega), by omega⟩
    refine ⟨e8, by omega, mw.keep fun q hq => ?_, fun q hq => ?_, fun q hq => ?_⟩
    · rw [mK_i (by omega)]
      exact ⟨xmg_f (inr q hq), xmg_f (inr q hq), xmg_f (inr q hq)⟩
    · exact ⟨xmg_f (inr q hq), xmg_f (inr q hq)⟩
    · obtain ⟨o1, o2⟩ := out q hq
      rw [xK_o o2]
      exact ⟨xmg_t o1, xmg_t o1, xmg_t o1, xmg_t o1, xmg_t o1⟩
theorem law_m {y : MethodName} {c1 : ByteArray} {nL1 n d1 idx : Nat} {ret1 : Option FieldType} {As st0 : List Value} {v : Value} (lj : LJ x m I' J' K' N' R' I2 J2 K N R I J sz) (hM : XM l D y c1 nL1 ret1 d1 0 0 (.ref m :: As) (mK m K) N R I J sz (Zx (some v) (mK m K) N R If Jf sz))
    (hd : decode cc pc = .ok (.invokevirtual idx, 3)) (hlk : xlk own idx y) (hin : Cond.instanceMethod y ∈ xws) (hse : Cond.selects y.cls y y ∈ xws) (hcd : xcd y c1 nL1 ret1 n) (hcl : ∃ T nn, vwCl[3]? = some (y.cls, T, nn)) (hn : As.length = n) (hdp : d1 + 1 ≤ d) (hst0 : st0 = As.reverse ++ .ref m :: st) (hst : (st.map fun v => v.category).sum ≤ 8)
    (kk : ∀ (K3 N3 : Nat → Nat) (R3 : Nat → Nat → Nat) (I3 : Nat → Nat → Int32) (J3 : Nat → Nat → Int64), LE m K N R I J If Jf K3 N3 R3 I3 J3 → XW l D X own nm cc nL d mc ms K0 sz0 Z (pc + 3) L (v :: st) K3 N3 R3 I3 J3 sz kc ks) :
    XW l D X own nm cc nL d mc ms K0 sz0 Z pc L st0 K N R I J sz kc ks := by
  intro p e Rm s m' args below meth c H locs cells slots Q ls hC hH hl hE
  obtain ⟨e8, hsz, mw, -, -⟩ := lj
  have hm : K m = 3 + 1 := by rw [← mK_i (m := m) (K := K) (r := m) (by omega)]; exact mw.1
  refine x_callV (mc1 := 0) (ms1 := 0) hM ⟨?_, fun r hr => ?_⟩ hd hlk hin hse hcd (by decide) hm hcl hn hdp hst0 hst (fun v0 K'' N'' R'' I'' J'' sz'' hz hle hdom h0 => ?_) p e Rm s m' args below meth c H locs cells slots Q ls hC hH hl hE
  · by_cases z : m ≤ 0 ∧ 0 < m + 14
    · rw [mK_i z]; exact hH.1.1
    · exact mK_o z
  · rw [mK_i (mK_n hr)]; exact ⟨rfl, rfl, rfl, rfl, rfl⟩
  · obtain ⟨rfl, rfl, rfl, rfl, rfl, rfl, rfl⟩ := hz
    refine kk _ _ _ _ _ ⟨mw.keep fun q hq => ?_, fun q hq => ?_, fun q hq => ?_⟩
    · have z : mK m K (m + q) ≠ 0 ∨ sz'' < m + q := Or.inl (mw.nz q hq)
      exact ⟨xmg_t z, xmg_t z, xmg_t z⟩
    · have o := xK_n hq
      have z : ¬ (mK m K q ≠ 0 ∨ sz'' < q) := by
        rintro (z | z)
        · exact z (mK_o o)
        · rw [xK_o o] at hq
          cases q with
          | zero => omega
          | succ q =>
            have := (hH.1.2 q).1 hq
            have := hH.2.1
            omega
      rw [xK_o o, xK_o o]
      exact ⟨xmg_f z, xmg_f z, xmg_f z, xmg_f z, xmg_f z⟩
    · have z : mK m K (m + q) ≠ 0 ∨ sz'' < m + q := Or.inl (mw.nz q hq)
      exact ⟨xmg_t z, xmg_t z⟩
theorem law_fin {nn s nc nv ce : Nat} (lj : LJ x m I J K' N' R' I' J' K2 N2 R2 I2 J2 sz2) (le : LE m K2 N2 R2 I2 J2 If Jf K3 N3 R3 I3 J3) (cw : CW x K' N' R') (cp : Cp x R' I' J' m If Jf nn s nc nv ce) : LI x m K3 N3 R3 sz2 ∧ Cp x R3 I3 J3 m I3 J3 nn s nc nv ce := by
  obtain ⟨e8, hsz, mw, mk, ck⟩ := lj
  obtain ⟨l1, l2, l3⟩ := le
  have ch : ∀ q, K' q ≠ 0 → xK m K3 q = K' q ∧ N3 q = N' q ∧ R3 q = R' q ∧ I3 q = I' q ∧ J3 q = J' q := by
    intro q hq
    obtain ⟨a1, a2, a3, a4, a5⟩ := ck q hq
    obtain ⟨b1, b2, b3, b4, b5⟩ := l2 q (by rw [a1]; exact hq)
    exact ⟨b1.trans a1, b2.trans a2, b3.trans a3, b4.trans a4, b5.trans a5⟩
  exact ⟨⟨e8, hsz, cw.keep fun q hq => ⟨(ch q hq).1, (ch q hq).2.1, (ch q hq).2.2.1⟩, l1⟩, cp.ext cw (fun q hq => (ch q hq).2.2) (fun q hq => l3 q (by omega))⟩
theorem LJ.cp {nn s nc nv ce : Nat} (lj : LJ x m I J K' N' R' I' J' K2 N2 R2 I2 J2 sz2) (li : LI x m K N R sz) (cp : Cp x R I J m I J nn s nc nv ce) : Cp x R I J m I2 J2 nn s nc nv ce :=
  cp.ext li.2.2.1 (fun q _ => ⟨rfl, rfl, rfl⟩) (fun q hq => lj.2.2.2.1 q (by omega))
end
