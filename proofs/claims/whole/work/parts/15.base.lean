section
variable {own nm : String} {cc : ByteArray} {nL : Nat} {rop : Instr} {d : Nat} {Q : List Value → Mem → Lng → Prop} {pc : Nat} {L : List (Option Value)} {st : List Value} {I : Mem} {J : Lng}
theorem w_iincv {a : Nat} {i : Int} {x c : Int32} (hd : decode cc pc = .ok (.iinc a i, 3)) (hc : Int32.ofInt i = c) (hv : L[a]? = some (some (.int x))) (hn : a < nL) (ho : q_ok L a = true) (K : q_w own nm cc nL rop d Q (pc + 3) (L.set a (some (.int (x + c)))) st I J) : q_w own nm cc nL rop d Q pc L st I J := by
  subst hc
  exact w_iinc hd hv hn ho K
theorem w_iald {t j : Nat} {e : Ent} {i : Int32} (hd : decode cc pc = .ok (.iaload, 1)) (he : SH[t]? = some e) (hc : e.1 = 0) (hj : i = nI j) (hlt : j < e.2.1) (hs : e.2.1 < 2147483648) (K : q_w own nm cc nL rop d Q (pc + 1) L (.int (I t j) :: st) I J) : q_w own nm cc nL rop d Q pc L (.int i :: .ref t :: st) I J := by
  subst hj
  refine w_iaload hd he hc (vp_in_nI hlt (by omega)) ?_
  rw [nI_clamp (by omega)]
  exact K
theorem w_iast {t j : Nat} {e : Ent} {i v : Int32} (hd : decode cc pc = .ok (.iastore, 1)) (he : SH[t]? = some e) (hc : e.1 = 0) (hj : i = nI j) (hlt : j < e.2.1) (hs : e.2.1 < 2147483648) (K : q_w own nm cc nL rop d Q (pc + 1) L st (upI I t j v) J) : q_w own nm cc nL rop d Q pc L (.int v :: .int i :: .ref t :: st) I J := by
  subst hj
  refine w_iastore hd he hc (vp_in_nI hlt (by omega)) ?_
  rw [nI_clamp (by omega)]
  exact K
theorem w_zald {t j : Nat} {e : Ent} {i : Int32} (hd : decode cc pc = .ok (.baload, 1)) (he : SH[t]? = some e) (hc : e.1 = 1) (hj : i = nI j) (hlt : j < e.2.1) (hs : e.2.1 < 2147483648) (K : q_w own nm cc nL rop d Q (pc + 1) L (.int (I t j) :: st) I J) : q_w own nm cc nL rop d Q pc L (.int i :: .ref t :: st) I J := by
  subst hj
  refine w_baload hd he hc (vp_in_nI hlt (by omega)) ?_
  rw [nI_clamp (by omega)]
  exact K
theorem w_zast {t j : Nat} {e : Ent} {i v : Int32} (hd : decode cc pc = .ok (.bastore, 1)) (he : SH[t]? = some e) (hc : e.1 = 1) (hj : i = nI j) (hlt : j < e.2.1) (hs : e.2.1 < 2147483648) (hv : vp_nar .boolean v = v) (K : q_w own nm cc nL rop d Q (pc + 1) L st (upI I t j v) J) : q_w own nm cc nL rop d Q pc L (.int v :: .int i :: .ref t :: st) I J := by
  subst hj
  refine w_bastore hd he hc (vp_in_nI hlt (by omega)) hv ?_
  rw [nI_clamp (by omega)]
  exact K
theorem w_aald {t j r a : Nat} {e : Ent} {i : Int32} (hd : decode cc pc = .ok (.aaload, 1)) (he : SH[t]? = some e) (hc : e.1 = a) (ha : a = 2 ∨ a = 3 ∨ a = 4) (hj : i = nI j) (hlt : j < e.2.1) (hs : e.2.1 < 2147483648) (hr : e.2.2.getD j none = some r) (K : q_w own nm cc nL rop d Q (pc + 1) L (.ref r :: st) I J) : q_w own nm cc nL rop d Q pc L (.int i :: .ref t :: st) I J := by
  subst hj
  refine w_aaload hd he hc ha (vp_in_nI hlt (by omega)) ?_ K
  rw [nI_clamp (by omega)]
  exact hr
/-- another name for the same state -/
theorem w_show {L2 : List (Option Value)} {st2 : List Value} {I2 : Mem} {J2 : Lng} (K : q_w own nm cc nL rop d Q pc L2 st2 I2 J2) (h1 : L2 = L) (h2 : st2 = st) (h3 : I2 = I) (h4 : J2 = J) : q_w own nm cc nL rop d Q pc L st I J := by
  subst h1; subst h2; subst h3; subst h4; exact K
end
/-- 1 or 0 -/
def zB (b : Bool) : Int32 := match b with
  | true => 1
  | false => 0
theorem zB_t : zB true = 1 := rfl
theorem zB_f : zB false = 0 := rfl
theorem zB_01 (b : Bool) : zB b = 0 ∨ zB b = 1 := by cases b <;> simp [zB]
theorem zB_eq0 {b : Bool} : zB b = 0 ↔ b = false := by cases b <;> simp [zB]
theorem zB_eq1 {b : Bool} : zB b = 1 ↔ b = true := by cases b <;> simp [zB]
theorem zB_inj {a b : Bool} : zB a = zB b ↔ a = b := by cases a <;> cases b <;> simp [zB]
/-- comparisons, as integers -/
theorem ti_lt {a b : Int32} : a < b ↔ a.toInt < b.toInt := Int32.lt_iff_toInt_lt
theorem ti_le {a b : Int32} : a ≤ b ↔ a.toInt ≤ b.toInt := Int32.le_iff_toInt_le
theorem ti_eq {a b : Int32} : a = b ↔ a.toInt = b.toInt := Int32.toInt_inj.symm
