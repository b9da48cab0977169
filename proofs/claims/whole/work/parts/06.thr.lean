/-! methods that return or throw: which of both, the function tells -/
def exN (k : Nat) : String := if k = 0 then "java/util/NoSuchElementException" else "java/lang/IllegalArgumentException"
def sme {α β : Type} (u : α ⊕ Nat) (f : α → Option β) (g : Nat → Option β) : Option β := match u with
  | .inl v => f v
  | .inr k => g k
theorem sme_l {α β : Type} {v : α} {f : α → Option β} {g : Nat → Option β} {y : β} (h : sme (.inl v) f g = some y) : f v = some y := h
theorem sme_r {α β : Type} {k : Nat} {f : α → Option β} {g : Nat → Option β} {y : β} (h : sme (.inr k) f g = some y) : g k = some y := h
def CtX (l : Launch) (y : MethodName) (cc : ByteArray) (nL : Nat) (rt : Option FieldType) (fr lo : Nat) (E : Ev) (As : List Value) (mm : Mem) (k : Nat) (mm' : Mem) : Prop := vx_Met l y (Cond.code y cc nL rt :: BIG) { frames := fr, cells := 1, slots := 6, locals := lo } (va_Pc As (WB E mm)) (va_Qv (fun (_ : Unit) => False) (fun _ _ => True) (eA E)) (vx_X (fun (_ : Unit) => True) (fun C _ t => C = exN k ∧ PB E mm' t) (eA E)) 1 6 (eA E)
section AMT
variable {p : Program} {l : Launch} {e : Env} {R : Room} {s : State} {m : MethodId} {args : Array Value} {below : List Frame} {meth : Method} {c : Code} {H : Heap} {locs : List Loc} {cells slots : Nat} {Q : State → Prop}
variable {cc : ByteArray} {pc : Nat} {ls : Array Slot} {rest st0 As : List Value} {E : Ev} {own : String} {mm mm' : Mem}
theorem am_thrV {y : MethodName} {bytes : ByteArray} {nLc fr lo n idx b ci k : Nat} {rt : Option FieldType} {rr : Nat → Option Nat} {T : u_T} {N : Nat} (X : Cx p s m args c cc own E) (hml : c.maxLocals = ls.size) (hS : wS E s mm H locs) (hM : CtX l y bytes nLc rt fr lo E (.ref b :: As) mm k mm') (hL : MV own idx y bytes nLc rt n) (hb : eS E b = some (.inr (.inl (ci, rr)))) (hc : vwCl[ci]? = some (y.cls, T, N)) (hR : fr + 1 ≤ R.frames ∧ 8 + (nLc + 11) + lo ≤ R.locals) (hcs : cells + 1 ≤ R.cells ∧ slots + 6 ≤ R.slots) (hn : As.length = n) (hst : st0 = As.reverse ++ .ref b :: rest) (hW : (rest.map fun v => v.category).sum ≤ 8) (hdg : decode cc pc = .ok (.invokevirtual idx, 3)) (kk : ∀ (H : Heap) (locs : List Loc) (ce : Cell) (q9 : Addr), wS E s mm' H locs → H[q9]? = some ce → ce.vm = .none → s.vm.findClass (exN k) = some ce.cls → vx_W p l e R s m args below meth c H locs (cells + 1) (slots + 6) Q (F0 m pc ls rest) q9) : W p l e R s m args below meth c H locs cells slots Q (F0 m pc ls st0) := by
  have hpre := am_pre X hS (.ref b :: As)
  obtain ⟨hx, hbb, hts, hown, hV, hO⟩ := X
  obtain ⟨h1, h2, h3, h4, h5, h6, h7, h8⟩ := hL
  refine vx_callv (vx_runV (Ts := BIG) (C := y.cls) ⟨hx, hbb, hml, hown, hts⟩ hM ⟨callB_of n hts (goodC h5) rfl rfl rfl (hts _ h4) (hts _ h1) ⟨h6, h7, h8⟩ hR, hts _ h2, hts _ h3⟩ ⟨blindB E mm _, am_recv hV hS hb hc, hpre⟩ rfl hn rfl hst (lv_room hW) hdg hcs) hS.2 (fun _ _ h => h) (fun _ h => h) (fun _ _ h => h) (fun C ce q9 u t H1 locs1 ht hvm _ hB hz hk hS1 g1 g2 g3 => ?_) (fun u t H1 locs1 ht hvm hp _ _ _ _ => hp.elim)
  obtain ⟨rfl, hB⟩ := hB
  subst ht
  exact kk _ locs1 ce q9 ⟨hB.1, hS1⟩ g1 g2 g3
theorem am_out {k : Nat} {ce : Cell} {q9 : Addr} (X : Cx p s m args c cc own E) (hS : wS E s mm H locs) (hxt : ∀ x ∈ c.exceptionTable.toList, False) (hlocks : meth.locks = false) (a1 : H[q9]? = some ce) (a2 : ce.vm = .none) (a3 : s.vm.findClass (exN k) = some ce.cls) : vx_W p l e R s m args below meth c H locs 1 6 (vx_MQ below (va_Qv (fun (_ : Unit) => False) (fun _ _ => True) (eA E)) (vx_X (fun (_ : Unit) => True) (fun C _ t => C = exN k ∧ PB E mm t) (eA E)) args s 1 6 (eA E)) (F0 m pc ls rest) q9 :=
  vx_out (fun x hx => (hxt x hx).elim) hlocks a1 a2 a3 (fun t ht _ => ⟨(), trivial, ⟨rfl, am_pb X hS ht⟩, hS.2.F ht⟩) hS.2.2.2 (Nat.le_refl _) (Nat.le_refl _)
end AMT
