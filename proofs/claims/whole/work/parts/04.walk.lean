/-! loops as functions, and the rows that a walk by program uses -/
def loopN {S X : Type} (step : S → Option (S ⊕ X)) : Nat → S → Option X
  | 0, _ => none
  | n + 1, st => (step st).bind fun y => match y with
    | .inl t => loopN step n t
    | .inr x => some x
def FU : Nat := 8000
def DP : Nat := 10
theorem loop_W {S X : Type} {step : S → Option (S ⊕ X)} {P : S → Prop} {ex : X} (hb : ∀ (st : S) (y : S ⊕ X), step st = some y → (∀ t, y = .inl t → P t) → (∀ x, y = .inr x → x = ex) → P st) : ∀ (n : Nat) (st : S), loopN step n st = some ex → P st := by
  intro n
  induction n with
  | zero => intro st h; cases h
  | succ n ih =>
    intro st h
    unfold loopN at h
    obtain ⟨y, h1, h2⟩ := Option.bind_eq_some_iff.mp h
    cases y with
    | inl t => exact hb st _ h1 (fun t' e => by cases e; exact ih t h2) (fun x e => by cases e)
    | inr x => exact hb st _ h1 (fun t e => by cases e) (fun x' e => by cases e; exact Option.some.inj h2)
theorem bs {α β : Type} {x : Option α} {f : α → Option β} {y : β} (h : x.bind f = some y) : ∃ v, x = some v ∧ f v = some y := Option.bind_eq_some_iff.mp h
theorem ifp {c : Prop} [Decidable c] {β : Type} {A B : Option β} {y : β} (h : (if c then A else B) = some y) (hc : c) : A = some y := by rw [if_pos hc] at h; exact h
theorem ifn {c : Prop} [Decidable c] {β : Type} {A B : Option β} {y : β} (h : (if c then A else B) = some y) (hc : ¬ c) : B = some y := by rw [if_neg hc] at h; exact h
def bd2 {α β γ : Type} (x : Option (α × β)) (f : α → β → Option γ) : Option γ := x.bind fun q => f q.1 q.2
theorem bs2 {α β γ : Type} {x : Option (α × β)} {f : α → β → Option γ} {y : γ} (h : bd2 x f = some y) : ∃ a b, x = some (a, b) ∧ f a b = some y := by
  obtain ⟨⟨a, b⟩, h1, h2⟩ := Option.bind_eq_some_iff.mp h
  exact ⟨a, b, h1, h2⟩
/-- a number gets a name -/
def lt1 {α β : Type} (x : α) (f : α → Option β) : Option β := f x
theorem lt1_n {α β : Type} {x z : α} {f : α → Option β} {y : β} (e : z = x) (h : lt1 x f = some y) : f z = some y := by
  subst e
  exact h
/-- there is an object of a class -/
def isO (sh : Shp) (ci a : Nat) : Option Unit := match sh a with
  | some (.inr (.inl (c, _))) => if c = ci then some () else none
  | _ => none
theorem isO_n {sh : Shp} {ci a : Nat} {u : Unit} (h : isO sh ci a = some u) : ∃ rr, sh a = some (.inr (.inl (ci, rr))) := by
  unfold isO at h
  split at h
  · rename_i c r hs
    split at h
    · rename_i hc
      subst hc
      exact ⟨r, hs⟩
    · cases h
  · cases h
theorem ts_out {x : Int32} {lo hi : Int} {n : Nat} (hlo : -2147483648 ≤ lo) (hhi : lo + n = hi + 1) (h : ∀ j : Nat, j < n → ¬ x = Int32.ofInt (lo + j)) : x.toInt < lo ∨ hi < x.toInt := by
  by_cases h1 : x.toInt < lo
  · exact Or.inl h1
  · by_cases h2 : hi < x.toInt
    · exact Or.inr h2
    · exfalso
      refine h (x.toInt - lo).toNat (by omega) ?_
      rw [show lo + ((x.toInt - lo).toNat : Int) = x.toInt by omega]
      exact (Int32.ofInt_toInt x).symm
def dvI (x y : Int32) : Option Int32 := if y = 0 then none else some (x / y)
def rmI (x y : Int32) : Option Int32 := if y = 0 then none else some (x - x / y * y)
def dvL (x y : Int64) : Option Int64 := if y = 0 then none else some (x / y)
def rmL (x y : Int64) : Option Int64 := if y = 0 then none else some (x - x / y * y)
def ckZ (x : Int32) : Option Int32 := if x = 0 ∨ x = 1 then some x else none
def uShr (x y : Int32) : Int32 := (x.toUInt32 >>> (y.toUInt32 &&& Int32.toUInt32 31)).toInt32
def mnI (x y : Int32) : Int32 := if y < x then y else x
def mxI (x y : Int32) : Int32 := if x < y then y else x
def mxL (x y : Int64) : Int64 := if y < x then x else y
def abI (x : Int32) : Int32 := if 0 ≤ x then x else 0 - x
section AMW
variable {p : Program} {l : Launch} {e : Env} {R : Room} {s : State} {m : MethodId} {args : Array Value} {below : List Frame} {meth : Method} {c : Code} {H : Heap} {locs : List Loc} {cells slots : Nat} {Q : State → Prop}
variable {cc : ByteArray} {pc : Nat} {ls : Array Slot} {rest : List Value} {E : Ev} {own : String} {mm mm' : Mem}
theorem am_in {y : MethodName} {nL : Nat} {rt : Option FieldType} {rm : Room} {As : List Value} {s₁ : State} (B : BodyLoose p l y (headSpec (Cond.code y cc nL rt :: BIG) rm) cc nL rt e s m args below meth c s₁) (hv : va_Pc As (WB E mm) args s) : args = As.toArray ∧ Cx p s m args c cc y.cls E ∧ wS E s mm s.heap [] ∧ meth.sig.returnType = rt ∧ meth.locks = false := by
  obtain ⟨h0, hP, hO, hV⟩ := hv
  have hts := atoms_spec (ws := Cond.code y cc nL rt :: BIG) B.pre
  exact ⟨h0, ⟨B.exec, B.bytes, fun w h => hts w (List.mem_cons_of_mem _ h), findClass_of_methodNamed B.named, hV, hO⟩, ⟨hP, va_S.rf⟩, B.returns, B.notSynchronized⟩
theorem am_entry {As : List Value} {nL : Nat} (h : (lg_sl As).length ≤ nL) (k : ∀ ls : Array Slot, lv_has ls nL (lv_args 0 As) → W p l e R s m args below meth c H locs cells slots Q (F0 m 0 ls [])) : W p l e R s m args below meth c H locs cells slots Q (entryFrame m As.toArray nL) := by
  rw [lg_entry_eq]
  exact k _ (lv_entry As h)
theorem am_pb {t : State} (X : Cx p s m args c cc own E) (hS : wS E s mm H locs) (ht : t.heap = H) : PB E mm t := by
  obtain ⟨-, -, -, -, hV, hO⟩ := X
  refine ⟨by rw [ht]; exact hS.1, ?_⟩
  rw [ht]
  exact ⟨Nat.le_trans hO.1 hS.2.1, fun q hq => (hS.2.2.1 q (Nat.lt_of_lt_of_le hq hO.1) (fun z => absurd hq (Nat.not_lt.mpr z))).trans (hO.2 q hq)⟩
theorem am_ri {v : Int32} {ty : FieldType} (X : Cx p s m args c cc own E) (hS : wS E s mm H locs) (hr : meth.sig.returnType = some ty) (hn : narrow ty (.int v) = .int v) (hdg : decode cc pc = .ok (.ireturn, 1)) (hlocks : meth.locks = false) : W p l e R s m args below meth c H locs 0 0 (MQ below (va_Qi (fun r' (_ : Unit) => r' = v) (fun _ t => PB E mm t) (eA E)) args s 0 0 (eA E)) (F0 m pc ls [.int v]) :=
  W.zret X.1 X.2.1 hr hn (fun _ ht _ => ⟨⟨v, (), rfl, rfl, am_pb X hS ht⟩, hS.2.F ht⟩) hS.2.2.2 hdg hlocks
theorem am_rv (X : Cx p s m args c cc own E) (hS : wS E s mm H locs) (hr : meth.sig.returnType = none) (hdg : decode cc pc = .ok (.return_, 1)) (hlocks : meth.locks = false) : W p l e R s m args below meth c H locs 0 0 (MQ below (va_Qv (fun (_ : Unit) => True) (fun _ t => PB E mm t) (eA E)) args s 0 0 (eA E)) (F0 m pc ls []) :=
  W.vret X.1 X.2.1 hr (fun _ ht _ => ⟨⟨(), rfl, trivial, am_pb X hS ht⟩, hS.2.F ht⟩) hS.2.2.2 hdg hlocks
theorem am_topr {x : Nat} (k : ∀ y : Nat, y = x → W p l e R s m args below meth c H locs cells slots Q (F0 m pc ls (.ref y :: rest))) : W p l e R s m args below meth c H locs cells slots Q (F0 m pc ls (.ref x :: rest)) := k x rfl
theorem ckZ_n {x v : Int32} (h : ckZ x = some v) : x = v ∧ narrow .boolean (.int v) = .int v := by
  unfold ckZ at h
  split at h
  · rename_i hc
    have e := Option.some.inj h
    subst e
    rcases hc with rfl | rfl
    · exact ⟨rfl, rfl⟩
    · exact ⟨rfl, rfl⟩
  · cases h
theorem dvI_n {x y v : Int32} (h : dvI x y = some v) : ¬ y = 0 ∧ x / y = v := by
  unfold dvI at h
  split at h
  · cases h
  · rename_i hc
    exact ⟨hc, Option.some.inj h⟩
theorem rmI_n {x y v : Int32} (h : rmI x y = some v) : ¬ y = 0 ∧ x - x / y * y = v := by
  unfold rmI at h
  split at h
  · cases h
  · rename_i hc
    exact ⟨hc, Option.some.inj h⟩
theorem dvL_n {x y v : Int64} (h : dvL x y = some v) : ¬ y = 0 ∧ x / y = v := by
  unfold dvL at h
  split at h
  · cases h
  · rename_i hc
    exact ⟨hc, Option.some.inj h⟩
theorem rmL_n {x y v : Int64} (h : rmL x y = some v) : ¬ y = 0 ∧ x - x / y * y = v := by
  unfold rmL at h
  split at h
  · cases h
  · rename_i hc
    exact ⟨hc, Option.some.inj h⟩
theorem am_rl {v : Int64} (X : Cx p s m args c cc own E) (hS : wS E s mm H locs) (hr : meth.sig.returnType = some .long) (hdg : decode cc pc = .ok (.lreturn, 1)) (hlocks : meth.locks = false) : W p l e R s m args below meth c H locs 0 0 (MQ below (va_Ql (fun r' (_ : Unit) => r' = v) (fun _ t => PB E mm t) (eA E)) args s 0 0 (eA E)) (F0 m pc ls [.long v]) :=
  W.lret X.1 X.2.1 hr (fun _ ht _ => ⟨⟨v, (), rfl, rfl, am_pb X hS ht⟩, hS.2.F ht⟩) hS.2.2.2 hdg hlocks
end AMW
