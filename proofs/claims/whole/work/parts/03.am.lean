/-! THE PLAIN MEMORY: a shape (which cells there are, never changed by a method) and numbers mm (address, place); what a method does to them is told as a function of them. -/
abbrev Mem : Type := Nat → Nat → Int32
abbrev Sh1 : Type := Nat ⊕ ((Nat × (Nat → Option Nat)) ⊕ (Nat × Nat × (Nat → Option Nat)))
abbrev Shp : Type := Nat → Option Sh1
abbrev Ev : Type := va_G × ClassId × (Nat → ClassId) × List Nat × Shp × State × (Nat → Nat) × (Nat → Nat) × Nat
abbrev eD (E : Ev) : va_G := E.1
abbrev eI (E : Ev) : ClassId := E.2.1
abbrev eT (E : Ev) : Nat → ClassId := E.2.2.1
abbrev eL (E : Ev) : List Nat := E.2.2.2.1
abbrev eS (E : Ev) : Shp := E.2.2.2.2.1
abbrev e0 (E : Ev) : State := E.2.2.2.2.2.1
/-- where the String constants lie, and their bytes; the row of FACTORIALS -/
abbrev eK (E : Ev) : Nat → Nat := E.2.2.2.2.2.2.1
abbrev eV (E : Ev) : Nat → Nat := E.2.2.2.2.2.2.2.1
abbrev eF (E : Ev) : Nat := E.2.2.2.2.2.2.2.2
/-- the String constants: class, entry, text -/
def sites : List (String × Nat × String) := [("PartedFellows", 393, "no such argument"), ("PartedFellows$College", 60, "fellow glass wall "), ("PartedFellows$Law", 73, "part much bend all taken turns day fellow least most "), ("PartedFellows$Work", 76, "part join take give swap day again "), ("PartedFellows", 400, "no such fellow"), ("PartedFellows", 403, "no such glass"), ("PartedFellowsModel", 178, "fellow"), ("PartedFellowsModel", 183, "glass"), ("PartedFellowsModel", 184, "wall"), ("PartedFellowsModel", 255, "least"), ("PartedFellowsModel", 260, "most"), ("PartedFellowsModel", 241, "part"), ("PartedFellowsModel", 243, "much"), ("PartedFellowsModel", 245, "bend"), ("PartedFellowsModel", 247, "all"), ("PartedFellowsModel", 249, "taken"), ("PartedFellowsModel", 251, "turns"), ("PartedFellowsModel", 253, "day"), ("PartedFellowsModel", 275, "join"), ("PartedFellowsModel", 277, "take"), ("PartedFellowsModel", 279, "give"), ("PartedFellowsModel", 281, "swap"), ("PartedFellowsModel", 283, "again")]
def sOwn (i : Nat) : String := (sites.getD i ("", 0, "")).1
def sIdx (i : Nat) : Nat := (sites.getD i ("", 0, "")).2.1
def sTxt (i : Nat) : String := (sites.getD i ("", 0, "")).2.2
def sLens : List Nat := [16, 18, 53, 35, 14, 13, 6, 5, 4, 5, 4, 4, 4, 4, 3, 5, 5, 3, 4, 4, 4, 4, 5]
def sBytes : List (List Int32) := [[110, 111, 32, 115, 117, 99, 104, 32, 97, 114, 103, 117, 109, 101, 110, 116], [102, 101, 108, 108, 111, 119, 32, 103, 108, 97, 115, 115, 32, 119, 97, 108, 108, 32], [112, 97, 114, 116, 32, 109, 117, 99, 104, 32, 98, 101, 110, 100, 32, 97, 108, 108, 32, 116, 97, 107, 101, 110, 32, 116, 117, 114, 110, 115, 32, 100, 97, 121, 32, 102, 101, 108, 108, 111, 119, 32, 108, 101, 97, 115, 116, 32, 109, 111, 115, 116, 32], [112, 97, 114, 116, 32, 106, 111, 105, 110, 32, 116, 97, 107, 101, 32, 103, 105, 118, 101, 32, 115, 119, 97, 112, 32, 100, 97, 121, 32, 97, 103, 97, 105, 110, 32], [110, 111, 32, 115, 117, 99, 104, 32, 102, 101, 108, 108, 111, 119], [110, 111, 32, 115, 117, 99, 104, 32, 103, 108, 97, 115, 115], [102, 101, 108, 108, 111, 119], [103, 108, 97, 115, 115], [119, 97, 108, 108], [108, 101, 97, 115, 116], [109, 111, 115, 116], [112, 97, 114, 116], [109, 117, 99, 104], [98, 101, 110, 100], [97, 108, 108], [116, 97, 107, 101, 110], [116, 117, 114, 110, 115], [100, 97, 121], [106, 111, 105, 110], [116, 97, 107, 101], [103, 105, 118, 101], [115, 119, 97, 112], [97, 103, 97, 105, 110]]
def sN : Nat := 23
def facs : List Int32 := [1, 1, 2, 6, 24, 120, 720]
/-- a long as two ints -/
def hiL (v : Int64) : Int32 := Int32.ofNat (v.toBitVec.toNat / 2 ^ 32)
def loL (v : Int64) : Int32 := Int32.ofNat (v.toBitVec.toNat % 2 ^ 32)
def cmb (h z : Int32) : Int64 := Int64.ofNat (h.toBitVec.toNat * 2 ^ 32 + z.toBitVec.toNat)
theorem cmb_of (v : Int64) : cmb (hiL v) (loL v) = v := by
  have hv : v.toBitVec.toNat < 2 ^ 64 := v.toBitVec.isLt
  have h1 : (hiL v).toBitVec.toNat = v.toBitVec.toNat / 2 ^ 32 := pk_tn (n := v.toBitVec.toNat / 2 ^ 32) (by omega)
  have h2 : (loL v).toBitVec.toNat = v.toBitVec.toNat % 2 ^ 32 := pk_tn (n := v.toBitVec.toNat % 2 ^ 32) (by omega)
  unfold cmb
  rw [h1, h2, show v.toBitVec.toNat / 2 ^ 32 * 2 ^ 32 + v.toBitVec.toNat % 2 ^ 32 = v.toBitVec.toNat by omega]
  apply Int64.toBitVec_inj.mp
  apply BitVec.eq_of_toNat_eq
  rw [Int64.toBitVec_ofNat']
  simp
def eA (E : Ev) : Nat → Prop := fun q => (e0 E).heap.size ≤ q
def up2 (mm : Mem) (a k : Nat) (v : Int32) : Mem := fun b j => if b = a ∧ j = k then v else mm b j
/-- how many fields a class has; which are references -/
def nF (ci : Nat) : Nat := match vwCl[ci]? with
  | some q => q.2.2
  | none => 0
def isRf (ci k : Nat) : Bool := match vwCl[ci]? with
  | some q => decide (((q.2.1 k).2.2.1) ≠ "I")
  | none => false
/-- a field of whole numbers -/
def rI (sh : Shp) (mm : Mem) (ci a k : Nat) : Option Int32 := match sh a with
  | some (.inr (.inl (c, _))) => if c = ci then some (mm a k) else none
  | _ => none
/-- a field that is a reference -/
def rR (sh : Shp) (ci a k : Nat) : Option Nat := match sh a with
  | some (.inr (.inl (c, r))) => if c = ci then r k else none
  | _ => none
def wI (sh : Shp) (mm : Mem) (ci a k : Nat) (v : Int32) : Option Mem := match sh a with
  | some (.inr (.inl (c, _))) => if c = ci then some (up2 mm a k v) else none
  | _ => none
def aL (sh : Shp) (mm : Mem) (a : Nat) (i : Int32) : Option Int32 := match sh a with
  | some (.inl n) => if i < 0 ∨ n ≤ i.toNatClampNeg then none else some (mm a i.toNatClampNeg)
  | _ => none
def aS (sh : Shp) (mm : Mem) (a : Nat) (i v : Int32) : Option Mem := match sh a with
  | some (.inl n) => if i < 0 ∨ n ≤ i.toNatClampNeg then none else some (up2 mm a i.toNatClampNeg v)
  | _ => none
def aN (sh : Shp) (a : Nat) : Option Int32 := match sh a with
  | some (.inl n) => some (Int32.ofNat n)
  | some (.inr (.inr (t, n, _))) => if t < 3 then some (Int32.ofNat n) else none
  | _ => none
def aR (sh : Shp) (a : Nat) (i : Int32) : Option Nat := match sh a with
  | some (.inr (.inr (t, n, r))) => if i < 0 ∨ n ≤ i.toNatClampNeg ∨ 3 ≤ t then none else r i.toNatClampNeg
  | _ => none
def cpy2 (mm : Mem) (a b sp dp n : Nat) : Mem := fun x j => if x = b ∧ dp ≤ j ∧ j < dp + n then mm a (sp + (j - dp)) else mm x j
def aC (sh : Shp) (mm : Mem) (a : Nat) (sp : Int32) (b : Nat) (dp n : Int32) : Option Mem := match sh a, sh b with
  | some (.inl n0), some (.inl n1) => if sp < 0 ∨ dp < 0 ∨ n < 0 ∨ n0 < sp.toNatClampNeg + n.toNatClampNeg ∨ n1 < dp.toNatClampNeg + n.toNatClampNeg then none else some (cpy2 mm a b sp.toNatClampNeg dp.toNatClampNeg n.toNatClampNeg)
  | _, _ => none
def flds (ci : Nat) (r : Nat → Option Nat) (f : Nat → Int32) : List Value := (List.range (nF ci)).map (fun k => if isRf ci k then va_rf (r k) else .int (f k))
def cO1 (E : Ev) (f : Nat → Int32) (c : Option Sh1) : va_E := match c with
  | some (.inl n) => .inl (eI E, n, .inl f)
  | some (.inr (.inl (ci, r))) => .inr (ci, flds ci r f)
  | some (.inr (.inr (t, n, r))) => if t = 3 then .inl (eT E 3, n, .inr (.inl (fun j => cmb (f (2 * j)) (f (2 * j + 1))))) else .inl (eT E t, n, .inr (.inr (.inr (.inr r))))
  | none => .inr (0, [])
def cO (E : Ev) (mm : Mem) (a : Nat) : va_E := cO1 E (mm a) (eS E a)
def tyL (E : Ev) : List (ClassId × FieldType) := [(eI E, .int), (eT E 0, .object RX2), (eT E 1, .object RX3), (eT E 2, .array .int), (eT E 3, .long)]
def lL (sh : Shp) (mm : Mem) (a : Nat) (i : Int32) : Option Int64 := match sh a with
  | some (.inr (.inr (t, n, _))) => if t = 3 then (if i < 0 ∨ n ≤ i.toNatClampNeg then none else some (cmb (mm a (2 * i.toNatClampNeg)) (mm a (2 * i.toNatClampNeg + 1)))) else none
  | _ => none
def lS (sh : Shp) (mm : Mem) (a : Nat) (i : Int32) (v : Int64) : Option Mem := match sh a with
  | some (.inr (.inr (t, n, _))) => if t = 3 then (if i < 0 ∨ n ≤ i.toNatClampNeg then none else some (up2 (up2 mm a (2 * i.toNatClampNeg) (hiL v)) a (2 * i.toNatClampNeg + 1) (loL v))) else none
  | _ => none
def sLn (i : Nat) : Option Int32 := if i < sN then some (Int32.ofNat (sLens.getD i 0)) else none
def sCh (i : Nat) (k : Int32) : Option Int32 := if i < sN ∧ ¬ k < 0 ∧ k.toNatClampNeg < sLens.getD i 0 then some ((sBytes.getD i []).getD k.toNatClampNeg 0) else none
def fcL (i : Int32) : Option Int32 := if i < 0 ∨ 7 ≤ i.toNatClampNeg then none else some (facs.getD i.toNatClampNeg 0)
def tyR : Nat → FieldType := fun t => match t with
  | 0 => .object RX2
  | 1 => .object RX3
  | _ => .array .int
def BIG : List Cond := lw_tbl.filter goodWord
theorem inB {w : Cond} (h : w ∈ lw_tbl) (g : goodWord w = true) : w ∈ BIG := List.mem_filter.mpr ⟨h, g⟩
theorem inBi {w : Cond} (i : Nat) (h : (decide (lw_tbl[i]? = some w) && goodWord w) = true) : w ∈ BIG := by
  simp only [Bool.and_eq_true, decide_eq_true_eq] at h
  exact inB (List.mem_of_getElem? h.1) h.2
theorem goodC {w : Cond} (h : w ∈ BIG) : GoodIn BIG (w :: BIG) := fun v hv => by
  have hm : v ∈ BIG := by
    rcases List.mem_cons.mp hv with rfl | hv
    · exact h
    · exact hv
  exact ⟨hm, good_of_word (List.mem_filter.mp hm).2⟩
def isNst : Cond → Bool
  | .fieldLinkNest .. => true
  | .methodLinkNest .. => true
  | .declares .. => true
  | .castable .. => true
  | .arrayOver .. => true
  | _ => false
def NW : List Cond := lw_tbl.filter isNst
theorem inNi {w : Cond} (i : Nat) (h : (decide (lw_tbl[i]? = some w) && isNst w) = true) : w ∈ NW := by
  simp only [Bool.and_eq_true, decide_eq_true_eq] at h
  exact List.mem_filter.mpr ⟨List.mem_of_getElem? h.1, h.2⟩
theorem nw_warm {s U : State} (hW : s.WarmedH U.vm) (h : ∀ w ∈ NW, va_Nw w s) : ∀ w ∈ NW, va_Nw w U := by
  intro w hw
  have hz := (List.mem_filter.mp hw).2
  have h1 := h w hw
  cases w <;> first | (simp [isNst] at hz; done) | exact va_Nw.warmF hW h1 | exact va_Nw.warmM hW h1 | exact va_Nw.warmD hW h1 | exact va_Nw.warmC hW h1 | exact ((Cond.arrayOver_setVmC (args := #[]) hW.alike _).trans h1 : _ = true)
theorem nw_use {w : Cond} {A : Array Value} {U : State} (g : isNst w = true) (h : va_Nw w U) : w.before A U = true := by
  cases w <;> first | (simp [isNst] at g; done) | exact va_Nw.use rfl h | exact h
theorem nw_of {w : Cond} {A : Array Value} {U : State} (g : isNst w = true) (h : w.before A U = true) : va_Nw w U := by
  cases w <;> first | (simp [isNst] at g; done) | exact va_Nw.of rfl h | exact h
theorem nw_same {w : Cond} {s U : State} (g : isNst w = true) (hv : s.vm = U.vm) (h : va_Nw w s) : va_Nw w U := by
  cases w <;> first | (simp [isNst] at g; done) | exact va_Nw.same rfl hv h | exact ((Cond.arrayOver_setVmC (args := #[]) (s := s) (vm' := U.vm) (by rw [hv]; exact Vm.Alike.refl _) _).trans h : _ = true)
/-- what stays: the cells are apart and new, every cell of the shape is among them -/
def wN (E : Ev) : Prop := (eL E).Nodup ∧ (∀ a ∈ eL E, eA E a) ∧ ∀ (a : Nat) (c : Sh1), eS E a = some c → a ∈ eL E
/-- what stays of the start: String constants, FACTORIALS, statics of the JDK, what can't be cast -/
def wC (E : Ev) (U : State) : Prop := vk_S sN sLens sBytes (eK E) (eV E) (eA E) U (e0 E).heap ∧ (∀ i, i < sN → vk_R (sOwn i) (sIdx i) (sTxt i) (eK E i) U) ∧ va_Z "PartedFellows" "FACTORIALS" "[I" (.ref (eF E)) (eA E) U (e0 E).heap ∧ va_T .int (eF E) 7 (fun j => .int (facs.getD j 0)) (eA E) U (e0 E).heap ∧ va_Z "java/lang/String" "COMPACT_STRINGS" "Z" (.int 1) (eA E) U (e0 E).heap ∧ va_Zq "jdk/internal/util/Preconditions" "SIOOBE_FORMATTER" "Ljava/util/function/BiFunction;" (eA E) U (e0 E).heap ∧ vx_Zq Bundle.tN "UNASSIGNED_STACK" Bundle.steD (eA E) U (e0 E).heap ∧ vx_Zq Bundle.tN "SUPPRESSED_SENTINEL" Bundle.listD (eA E) U (e0 E).heap ∧ va_Nc "java/lang/IllegalArgumentException" "java/util/NoSuchElementException" U
def wV (E : Ev) (U : State) : Prop := va_K (eD E) vwCl (tyL E) U ∧ wN E ∧ (∀ w ∈ NW, va_Nw w U) ∧ wC E U
theorem wC.moved {E : Ev} {s U : State} (hW : s.vm.Alike U.vm) (hR : ∀ i, i < sN → vk_R (sOwn i) (sIdx i) (sTxt i) (eK E i) U) (h : wC E s) : wC E U := ⟨h.1.moved hW, hR, h.2.2.1.moved hW, h.2.2.2.1.moved hW, h.2.2.2.2.1.moved hW, h.2.2.2.2.2.1.moved hW, h.2.2.2.2.2.2.1.moved hW, h.2.2.2.2.2.2.2.1.moved hW, h.2.2.2.2.2.2.2.2.moved hW⟩
theorem wC.warm {E : Ev} {s U : State} (hW : s.WarmedH U.vm) (h : wC E s) : wC E U := wC.moved hW.alike (fun i hi => (h.2.1 i hi).warm hW) h
theorem wC.same {E : Ev} {s U : State} (hv : s.vm = U.vm) (h : wC E s) : wC E U := wC.moved (by rw [hv]; exact Vm.Alike.refl _) (fun i hi => (h.2.1 i hi).same hv.symm) h
def wO (E : Ev) (H : Heap) : Prop := (e0 E).heap.size ≤ H.size ∧ ∀ q : Nat, q < (e0 E).heap.size → H[q]? = (e0 E).heap[q]?
def wP (E : Ev) (mm : Mem) (H : Heap) : Prop := va_P (eD E) vwCl (va_pl (eL E) (cO E mm)) H
def WB (E : Ev) (mm : Mem) (U : State) : Prop := wP E mm U.heap ∧ wO E U.heap ∧ wV E U
def PB (E : Ev) (mm : Mem) (t : State) : Prop := wP E mm t.heap ∧ wO E t.heap
def wS (E : Ev) (s : State) (mm : Mem) (H : Heap) (locs : List Loc) : Prop := wP E mm H ∧ va_S (eA E) s.heap H locs
theorem wV.warm {E : Ev} {s U : State} (hW : s.WarmedH U.vm) (h : wV E s) : wV E U := ⟨va_K.moved hW.alike h.1, h.2.1, nw_warm hW h.2.2.1, h.2.2.2.warm hW⟩
theorem wV.same {E : Ev} {s U : State} (hv : s.vm = U.vm) (h : wV E s) : wV E U := ⟨va_K.moved (by rw [hv]; exact Vm.Alike.refl _) h.1, h.2.1, fun w hw => nw_same (List.mem_filter.mp hw).2 hv (h.2.2.1 w hw), h.2.2.2.same hv⟩
theorem blindB (E : Ev) (mm : Mem) (As : List Value) : FrameBlind (va_Pc As (WB E mm)) := fun a U g mk q => ⟨q.1, q.2.1, q.2.2.1, wV.same (s := U) (U := U.calling g mk a) rfl q.2.2.2⟩
theorem wN.D {E : Ev} (h : wN E) (f : Nat → va_E) : va_D (eA E) (va_pl (eL E) f) := by
  refine ⟨fun i j p q hi hj e => ?_, fun k q hk => ?_⟩
  · simp only [va_pl, List.getElem?_map] at hi hj
    cases hx : (eL E)[i]? with
    | none => rw [hx] at hi; cases hi
    | some x =>
      cases hy : (eL E)[j]? with
      | none => rw [hy] at hj; cases hj
      | some y =>
        rw [hx] at hi
        rw [hy] at hj
        cases hi
        cases hj
        have e : x = y := e
        subst e
        exact (List.getElem?_inj (List.getElem?_eq_some_iff.mp hx).1 h.1).mp (hx.trans hy.symm)
  · simp only [va_pl, List.getElem?_map] at hk
    cases hx : (eL E)[k]? with
    | none => rw [hx] at hk; cases hk
    | some x =>
      rw [hx] at hk
      cases hk
      exact h.2.1 x (List.mem_of_getElem? hx)
theorem wN.at {E : Ev} (h : wN E) (mm : Mem) {a : Nat} {c : Sh1} (hc : eS E a = some c) : ∃ k : Nat, (va_pl (eL E) (cO E mm))[k]? = some (a, cO E mm a) := va_pl_get (X := []) (h.2.2 a c hc)
theorem wP.put {E : Ev} (hN : wN E) {mm mm' : Mem} {a k : Nat} {c : Sh1} (hc : eS E a = some c) (hk : (va_pl (eL E) (cO E mm))[k]? = some (a, cO E mm a)) (ho : ∀ b, b ≠ a → mm' b = mm b) {H : Heap} (h : va_P (eD E) vwCl ((va_pl (eL E) (cO E mm)).set k (a, cO E mm' a)) H) : wP E mm' H := by
  have e1 : (va_pl (eL E) (cO E mm)).set k (a, cO E mm' a) = va_pl (eL E) (va_up (cO E mm) a (cO E mm' a)) := va_pl_set (X := []) (hN.D _) (hN.2.2 a c hc) hk
  have e2 : va_up (cO E mm) a (cO E mm' a) = cO E mm' := by
    funext b
    by_cases hb : b = a
    · subst hb
      simp [va_up]
    · simp [va_up, hb, cO, ho b hb]
  rw [e1, e2] at h
  exact h
theorem up2_at (mm : Mem) (a k : Nat) (v : Int32) : up2 mm a k v a = fun j => if j = k then v else mm a j := by
  funext j
  simp [up2]
theorem up2_ne (mm : Mem) {a b : Nat} (k : Nat) (v : Int32) (h : b ≠ a) : up2 mm a k v b = mm b := by
  funext j
  simp [up2, h]
theorem flds_get {ci k : Nat} {r : Nat → Option Nat} {f : Nat → Int32} (hk : k < nF ci) (hr : isRf ci k = false) : (flds ci r f)[k]? = some (.int (f k)) := by
  simp [flds, List.getElem?_map, List.getElem?_range hk, hr]
theorem flds_getR {ci k : Nat} {r : Nat → Option Nat} {f : Nat → Int32} (hk : k < nF ci) (hr : isRf ci k = true) : (flds ci r f)[k]? = some (va_rf (r k)) := by
  simp [flds, List.getElem?_map, List.getElem?_range hk, hr]
theorem flds_len {ci : Nat} {r : Nat → Option Nat} {f : Nat → Int32} : (flds ci r f).length = nF ci := by simp [flds]
theorem flds_set {ci k : Nat} {r : Nat → Option Nat} {f : Nat → Int32} (hk : k < nF ci) (hr : isRf ci k = false) (v : Int32) : (flds ci r f).set k (.int v) = flds ci r (fun j => if j = k then v else f j) := by
  apply List.ext_getElem?
  intro j
  by_cases hj : j = k
  · subst hj
    rw [List.getElem?_set_self (by rw [flds_len]; exact hk), flds_get hk hr]
    simp
  · rw [List.getElem?_set_ne (Ne.symm hj)]
    by_cases hl : j < nF ci
    · cases hq : isRf ci j with
      | false => rw [flds_get hl hq, flds_get hl hq]; simp [hj]
      | true => rw [flds_getR hl hq, flds_getR hl hq]
    · rw [List.getElem?_eq_none (by rw [flds_len]; omega), List.getElem?_eq_none (by rw [flds_len]; omega)]
theorem cO_o {E : Ev} (mm : Mem) {a ci : Nat} {r : Nat → Option Nat} (hs : eS E a = some (.inr (.inl (ci, r)))) : cO E mm a = .inr (ci, flds ci r (mm a)) := by
  show cO1 E (mm a) (eS E a) = _
  rw [hs]
  rfl
theorem cO_i {E : Ev} (mm : Mem) {a n : Nat} (hs : eS E a = some (.inl n)) : cO E mm a = .inl (eI E, n, .inl (mm a)) := by
  show cO1 E (mm a) (eS E a) = _
  rw [hs]
  rfl
theorem cO_r {E : Ev} (mm : Mem) {a t n : Nat} {r : Nat → Option Nat} (hs : eS E a = some (.inr (.inr (t, n, r)))) (ht : t < 3) : cO E mm a = .inl (eT E t, n, .inr (.inr (.inr (.inr r)))) := by
  show cO1 E (mm a) (eS E a) = _
  rw [hs]
  show (if t = 3 then _ else _) = _
  exact if_neg (by omega)
theorem cO_l {E : Ev} (mm : Mem) {a n : Nat} {r : Nat → Option Nat} (hs : eS E a = some (.inr (.inr (3, n, r)))) : cO E mm a = .inl (eT E 3, n, .inr (.inl (fun j => cmb (mm a (2 * j)) (mm a (2 * j + 1))))) := by
  show cO1 E (mm a) (eS E a) = _
  rw [hs]
  rfl
theorem rI_spec {sh : Shp} {mm : Mem} {ci a k : Nat} {v : Int32} (h : rI sh mm ci a k = some v) : ∃ r, sh a = some (.inr (.inl (ci, r))) ∧ mm a k = v := by
  unfold rI at h
  split at h
  · rename_i c r hs
    split at h
    · rename_i hc
      subst hc
      exact ⟨r, hs, Option.some.inj h⟩
    · cases h
  · cases h
theorem rR_spec {sh : Shp} {ci a k q : Nat} (h : rR sh ci a k = some q) : ∃ r, sh a = some (.inr (.inl (ci, r))) ∧ r k = some q := by
  unfold rR at h
  split at h
  · rename_i c r hs
    split at h
    · rename_i hc
      subst hc
      exact ⟨r, hs, h⟩
    · cases h
  · cases h
theorem wI_spec {sh : Shp} {mm mm' : Mem} {ci a k : Nat} {v : Int32} (h : wI sh mm ci a k v = some mm') : ∃ r, sh a = some (.inr (.inl (ci, r))) ∧ up2 mm a k v = mm' := by
  unfold wI at h
  split at h
  · rename_i c r hs
    split at h
    · rename_i hc
      subst hc
      exact ⟨r, hs, Option.some.inj h⟩
    · cases h
  · cases h
theorem aL_spec {sh : Shp} {mm : Mem} {a : Nat} {i v : Int32} (h : aL sh mm a i = some v) : ∃ n, sh a = some (.inl n) ∧ vp_in i n ∧ mm a i.toNatClampNeg = v := by
  unfold aL at h
  split at h
  · rename_i n hs
    split at h
    · cases h
    · rename_i hc
      exact ⟨n, hs, hc, Option.some.inj h⟩
  · cases h
theorem aS_spec {sh : Shp} {mm mm' : Mem} {a : Nat} {i v : Int32} (h : aS sh mm a i v = some mm') : ∃ n, sh a = some (.inl n) ∧ vp_in i n ∧ up2 mm a i.toNatClampNeg v = mm' := by
  unfold aS at h
  split at h
  · rename_i n hs
    split at h
    · cases h
    · rename_i hc
      exact ⟨n, hs, hc, Option.some.inj h⟩
  · cases h
theorem aR_spec {sh : Shp} {a q : Nat} {i : Int32} (h : aR sh a i = some q) : ∃ t n r, sh a = some (.inr (.inr (t, n, r))) ∧ t < 3 ∧ vp_in i n ∧ r i.toNatClampNeg = some q := by
  unfold aR at h
  split at h
  · rename_i t n r hs
    split at h
    · cases h
    · rename_i hc
      exact ⟨t, n, r, hs, Nat.not_le.mp (fun q => hc (Or.inr (Or.inr q))), fun q => hc (q.elim Or.inl (fun q => Or.inr (Or.inl q))), h⟩
  · cases h
theorem tyL_at (E : Ev) {t : Nat} (h : t < 3) : (tyL E)[t + 1]? = some (eT E t, tyR t) := by
  rcases (show t = 0 ∨ t = 1 ∨ t = 2 by omega) with rfl | rfl | rfl <;> rfl
theorem tyR_ref (t : Nat) : (tyR t).isReference = true := by
  match t with
  | 0 => rfl
  | 1 => rfl
  | _ + 2 => rfl
/-- what a method's walk stands on -/
def Cx (p : Program) (s : State) (m : MethodId) (args : Array Value) (c : Code) (cc : ByteArray) (own : String) (E : Ev) : Prop := p.tables.exec = Jvm.exec ∧ c.code = cc ∧ (∀ w ∈ BIG, w.before args s = true) ∧ s.vm.findClass own = some m.cls ∧ wV E s ∧ wO E s.heap
/-- a field's link -/
def FL (own : String) (idx ci k : Nat) : Prop := ∃ (C : String) (T : u_T) (N : Nat), vwCl[ci]? = some (C, T, N) ∧ nF ci = N ∧ k < N ∧ (∀ w ∈ u_ws C T N, w ∈ BIG) ∧ (Cond.fieldLink own idx (T k).1 (T k).2.1 (T k).2.2.1 ∈ BIG ∨ ∃ host, Cond.fieldLinkNest own idx (T k).1 (T k).2.1 (T k).2.2.1 host ∈ NW)
/-- .. of a field of whole numbers that may be written -/
def FP (own : String) (idx ci k : Nat) : Prop := ∃ (C : String) (T : u_T) (N : Nat) (ty : Nat → FieldType), vwCl[ci]? = some (C, T, N) ∧ nF ci = N ∧ k < N ∧ (∀ w ∈ u_ws C T N, w ∈ BIG) ∧ (Cond.fieldLink own idx (T k).1 (T k).2.1 (T k).2.2.1 ∈ BIG ∨ ∃ host, Cond.fieldLinkNest own idx (T k).1 (T k).2.1 (T k).2.2.1 host ∈ NW) ∧ (∀ k, k < N → parseFieldDescriptor (T k).2.2.1 = some (ty k)) ∧ (∀ a, a < N → ∀ b, b < N → a ≠ b → (T a).2.1 ≠ (T b).2.1) ∧ (T k).2.2.2 = false ∧ parseFieldDescriptor (T k).2.2.1 = some .int
section AMR
variable {p : Program} {l : Launch} {e : Env} {R : Room} {s : State} {m : MethodId} {args : Array Value} {below : List Frame} {meth : Method} {c : Code} {H : Heap} {locs : List Loc} {cells slots : Nat} {Q : State → Prop}
variable {cc : ByteArray} {pc : Nat} {ls : Array Slot} {rest : List Value} {E : Ev} {own : String} {mm mm' : Mem}
theorem am_gi {idx ci k a : Nat} {v : Int32} (X : Cx p s m args c cc own E) (hS : wS E s mm H locs) (hF : FL own idx ci k) (hr : isRf ci k = false) (hv : rI (eS E) mm ci a k = some v) (hdg : decode cc pc = .ok (.getfield idx, 3)) (kk : W p l e R s m args below meth c H locs cells slots Q (F0 m (pc + 3) ls (.int v :: rest))) : W p l e R s m args below meth c H locs cells slots Q (F0 m pc ls (.ref a :: rest)) := by
  obtain ⟨hx, hb, hts, hown, hV, -⟩ := X
  obtain ⟨C, T, N, hc, hN, hk, hin, hlk⟩ := hF
  obtain ⟨r, hs, he⟩ := rI_spec hv
  obtain ⟨q0, hq⟩ := hV.2.1.at mm hs
  rw [cO_o mm hs] at hq
  have hg : (flds ci r (mm a))[k]? = some (.int v) := by rw [← he]; exact flds_get (by rw [hN]; exact hk) hr
  rcases hlk with hlk | ⟨host, hlk⟩
  · exact va_get hx hb hts hin hown hV.1 hS.1 q0 hq hc k hk (hts _ hlk) (fun _ h => h) hg hdg kk
  · exact va_getN hx hb hts hin hown hV.1 hS.1 q0 hq hc k hk (va_Nw.use rfl (hV.2.2.1 _ hlk)) (fun _ h => h) hg hdg kk
theorem am_gr {idx ci k a q : Nat} (X : Cx p s m args c cc own E) (hS : wS E s mm H locs) (hF : FL own idx ci k) (hr : isRf ci k = true) (hv : rR (eS E) ci a k = some q) (hdg : decode cc pc = .ok (.getfield idx, 3)) (kk : W p l e R s m args below meth c H locs cells slots Q (F0 m (pc + 3) ls (.ref q :: rest))) : W p l e R s m args below meth c H locs cells slots Q (F0 m pc ls (.ref a :: rest)) := by
  obtain ⟨hx, hb, hts, hown, hV, -⟩ := X
  obtain ⟨C, T, N, hc, hN, hk, hin, hlk⟩ := hF
  obtain ⟨r, hs, he⟩ := rR_spec hv
  obtain ⟨q0, hq⟩ := hV.2.1.at mm hs
  rw [cO_o mm hs] at hq
  have hg : (flds ci r (mm a))[k]? = some (.ref q) := by rw [flds_getR (by rw [hN]; exact hk) hr, he]; rfl
  rcases hlk with hlk | ⟨host, hlk⟩
  · exact va_get hx hb hts hin hown hV.1 hS.1 q0 hq hc k hk (hts _ hlk) (fun _ h => h) hg hdg kk
  · exact va_getN hx hb hts hin hown hV.1 hS.1 q0 hq hc k hk (va_Nw.use rfl (hV.2.2.1 _ hlk)) (fun _ h => h) hg hdg kk
theorem am_pi {idx ci k a : Nat} {v : Int32} (X : Cx p s m args c cc own E) (hS : wS E s mm H locs) (hF : FP own idx ci k) (hr : isRf ci k = false) (hv : wI (eS E) mm ci a k v = some mm') (hdg : decode cc pc = .ok (.putfield idx, 3)) (kk : ∀ (H : Heap) (locs : List Loc), wS E s mm' H locs → W p l e R s m args below meth c H locs cells slots Q (F0 m (pc + 3) ls rest)) : W p l e R s m args below meth c H locs cells slots Q (F0 m pc ls (.int v :: .ref a :: rest)) := by
  obtain ⟨hx, hb, hts, hown, hV, -⟩ := X
  obtain ⟨C, T, N, ty, hc, hN, hk, hin, hlk, hty, hnm, hfin, hd⟩ := hF
  obtain ⟨r, hs, rfl⟩ := wI_spec hv
  obtain ⟨q0, hq0⟩ := hV.2.1.at mm hs
  have hq := hq0
  rw [cO_o mm hs] at hq
  have hl : k < (flds ci r (mm a)).length := by rw [flds_len, hN]; exact hk
  have key : ∀ (H1 : Heap) (locs1 : List Loc), va_P (eD E) vwCl ((va_pl (eL E) (cO E mm)).set q0 (a, .inr (ci, (flds ci r (mm a)).set k (.int v)))) H1 → va_D (eA E) ((va_pl (eL E) (cO E mm)).set q0 (a, .inr (ci, (flds ci r (mm a)).set k (.int v)))) → va_S (eA E) s.heap H1 locs1 → W p l e R s m args below meth c H1 locs1 cells slots Q (F0 m (pc + 3) ls rest) := by
    intro H1 locs1 h1 _ h3
    refine kk H1 locs1 ⟨wP.put hV.2.1 hs hq0 (fun b hb => up2_ne mm k v hb) ?_, h3⟩
    rw [cO_o _ hs, up2_at, ← flds_set (by rw [hN]; exact hk) hr]
    exact h1
  rcases hlk with hlk | ⟨host, hlk⟩
  · exact va_put hx hb hts hin ty hty hnm hown hV.1 hS.1 (hV.2.1.D _) hS.2 q0 hq hc k hk (hts _ hlk) (fun _ h => h) hfin hd rfl rfl hl hdg key
  · exact va_putN hx hb hts hin ty hty hnm hown hV.1 hS.1 (hV.2.1.D _) hS.2 q0 hq hc k hk (va_Nw.use rfl (hV.2.2.1 _ hlk)) (fun _ h => h) hfin hd rfl rfl hl hdg key
theorem am_ald {a : Nat} {i v : Int32} (X : Cx p s m args c cc own E) (hS : wS E s mm H locs) (hv : aL (eS E) mm a i = some v) (hdg : decode cc pc = .ok (.iaload, 1)) (kk : W p l e R s m args below meth c H locs cells slots Q (F0 m (pc + 1) ls (.int v :: rest))) : W p l e R s m args below meth c H locs cells slots Q (F0 m pc ls (.int i :: .ref a :: rest)) := by
  obtain ⟨hx, hb, hts, hown, hV, -⟩ := X
  obtain ⟨n, hs, hin, rfl⟩ := aL_spec hv
  obtain ⟨q0, hq⟩ := hV.2.1.at mm hs
  rw [cO_i mm hs] at hq
  exact va_iald hx hb hV.1 hS.1 q0 0 hq rfl hin hdg kk
theorem am_ast {a : Nat} {i v : Int32} (X : Cx p s m args c cc own E) (hS : wS E s mm H locs) (hv : aS (eS E) mm a i v = some mm') (hdg : decode cc pc = .ok (.iastore, 1)) (kk : ∀ (H : Heap) (locs : List Loc), wS E s mm' H locs → W p l e R s m args below meth c H locs cells slots Q (F0 m (pc + 1) ls rest)) : W p l e R s m args below meth c H locs cells slots Q (F0 m pc ls (.int v :: .int i :: .ref a :: rest)) := by
  obtain ⟨hx, hb, hts, hown, hV, -⟩ := X
  obtain ⟨n, hs, hin, rfl⟩ := aS_spec hv
  obtain ⟨q0, hq0⟩ := hV.2.1.at mm hs
  have hq := hq0
  rw [cO_i mm hs] at hq
  refine va_iast hx hb hV.1 hS.1 (hV.2.1.D _) hS.2 q0 0 hq rfl hin hdg (fun H1 locs1 h1 _ h3 => kk H1 locs1 ⟨wP.put hV.2.1 hs hq0 (fun b hb => up2_ne mm _ v hb) ?_, h3⟩)
  rw [cO_i _ hs, up2_at]
  exact h1
theorem am_len {a : Nat} {v : Int32} (X : Cx p s m args c cc own E) (hS : wS E s mm H locs) (hv : aN (eS E) a = some v) (hdg : decode cc pc = .ok (.arraylength, 1)) (kk : W p l e R s m args below meth c H locs cells slots Q (F0 m (pc + 1) ls (.int v :: rest))) : W p l e R s m args below meth c H locs cells slots Q (F0 m pc ls (.ref a :: rest)) := by
  obtain ⟨hx, hb, hts, hown, hV, -⟩ := X
  unfold aN at hv
  split at hv
  · rename_i n hs
    obtain ⟨q0, hq⟩ := hV.2.1.at mm hs
    rw [cO_i mm hs] at hq
    exact va_alen hx hb hV.1 hS.1 q0 0 hq rfl (Option.some.inj hv) hdg kk
  · rename_i t n r hs
    split at hv
    · rename_i ht
      obtain ⟨q0, hq⟩ := hV.2.1.at mm hs
      rw [cO_r mm hs ht] at hq
      exact va_alen hx hb hV.1 hS.1 q0 (t + 1) hq (tyL_at E ht) (Option.some.inj hv) hdg kk
    · cases hv
  · cases hv
theorem am_ara {a q : Nat} {i : Int32} (X : Cx p s m args c cc own E) (hS : wS E s mm H locs) (hv : aR (eS E) a i = some q) (hdg : decode cc pc = .ok (.aaload, 1)) (kk : W p l e R s m args below meth c H locs cells slots Q (F0 m (pc + 1) ls (.ref q :: rest))) : W p l e R s m args below meth c H locs cells slots Q (F0 m pc ls (.int i :: .ref a :: rest)) := by
  obtain ⟨hx, hb, hts, hown, hV, -⟩ := X
  obtain ⟨t, n, r, hs, ht, hin, hq1⟩ := aR_spec hv
  obtain ⟨q0, hq⟩ := hV.2.1.at mm hs
  rw [cO_r mm hs ht] at hq
  have hlt : i.toNatClampNeg < n := Nat.not_le.mp fun q => hin (Or.inr q)
  exact W.aald (v := .ref q) (ty := tyR t) hx hb (hS.1 q0 _ hq) ((hV.1.2 (t + 1) _ (tyL_at E ht)).1 n (fun j => va_rf (r j))) (tyR_ref t) (fun q => by cases q) (by show ¬ (i < 0 ∨ (arrV _ _ _).slots.size ≤ _); rw [arrV_size]; exact hin) (by show (arrV _ _ _).slots[_]? = _; rw [arrV_read _ _ hlt, hq1]; rfl) rfl rfl hdg kk
theorem am_lld {a : Nat} {i : Int32} {v : Int64} (X : Cx p s m args c cc own E) (hS : wS E s mm H locs) (hv : lL (eS E) mm a i = some v) (hdg : decode cc pc = .ok (.laload, 1)) (kk : W p l e R s m args below meth c H locs cells slots Q (F0 m (pc + 1) ls (.long v :: rest))) : W p l e R s m args below meth c H locs cells slots Q (F0 m pc ls (.int i :: .ref a :: rest)) := by
  obtain ⟨hx, hb, hts, hown, hV, -⟩ := X
  unfold lL at hv
  split at hv
  · rename_i t n r hs
    split at hv
    · rename_i ht
      subst ht
      split at hv
      · cases hv
      · rename_i hc
        have e := Option.some.inj hv
        obtain ⟨q0, hq⟩ := hV.2.1.at mm hs
        rw [cO_l mm hs] at hq
        subst e
        exact va_lald hx hb hV.1 hS.1 q0 4 hq rfl hc hdg kk
    · cases hv
  · cases hv
theorem am_lst {a : Nat} {i : Int32} {v : Int64} (X : Cx p s m args c cc own E) (hS : wS E s mm H locs) (hv : lS (eS E) mm a i v = some mm') (hdg : decode cc pc = .ok (.lastore, 1)) (kk : ∀ (H : Heap) (locs : List Loc), wS E s mm' H locs → W p l e R s m args below meth c H locs cells slots Q (F0 m (pc + 1) ls rest)) : W p l e R s m args below meth c H locs cells slots Q (F0 m pc ls (.long v :: .int i :: .ref a :: rest)) := by
  obtain ⟨hx, hb, hts, hown, hV, -⟩ := X
  unfold lS at hv
  split at hv
  · rename_i t n r hs
    split at hv
    · rename_i ht
      subst ht
      split at hv
      · cases hv
      · rename_i hc
        have e := Option.some.inj hv
        obtain ⟨q0, hq0⟩ := hV.2.1.at mm hs
        have hq := hq0
        rw [cO_l mm hs] at hq
        subst e
        refine va_last hx hb hV.1 hS.1 (hV.2.1.D _) hS.2 q0 4 hq rfl hc hdg (fun H1 locs1 h1 _ h3 => kk H1 locs1 ⟨wP.put hV.2.1 hs hq0 (fun b hb => by rw [up2_ne _ _ _ hb, up2_ne _ _ _ hb]) ?_, h3⟩)
        rw [cO_l _ hs]
        rw [show (fun j => cmb (up2 (up2 mm a (2 * i.toNatClampNeg) (hiL v)) a (2 * i.toNatClampNeg + 1) (loL v) a (2 * j)) (up2 (up2 mm a (2 * i.toNatClampNeg) (hiL v)) a (2 * i.toNatClampNeg + 1) (loL v) a (2 * j + 1))) = vp_updL (fun j => cmb (mm a (2 * j)) (mm a (2 * j + 1))) i.toNatClampNeg v by
          funext j
          by_cases hj : j = i.toNatClampNeg
          · subst hj
            simp [up2, vp_updL, cmb_of]
          · have h1 : ¬ 2 * j = 2 * i.toNatClampNeg + 1 := by omega
            have h2 : ¬ 2 * j = 2 * i.toNatClampNeg := by omega
            have h3 : ¬ 2 * j + 1 = 2 * i.toNatClampNeg := by omega
            simp [up2, vp_updL, hj, h1, h2, h3]]
        exact h1
    · cases hv
  · cases hv
theorem am_fac {i v : Int32} (X : Cx p s m args c cc own E) (hS : wS E s mm H locs) (hv : fcL i = some v) (hdg : decode cc pc = .ok (.iaload, 1)) (kk : W p l e R s m args below meth c H locs cells slots Q (F0 m (pc + 1) ls (.int v :: rest))) : W p l e R s m args below meth c H locs cells slots Q (F0 m pc ls (.int i :: .ref (eF E) :: rest)) := by
  obtain ⟨hx, hb, hts, hown, hV, hO⟩ := X
  unfold fcL at hv
  split at hv
  · cases hv
  · rename_i hc
    exact va_ti hx hb (hV.2.2.2.2.2.2.1.kept (fun a ha _ => hO.2 a ha)) hS.2 hc (by show Value.int _ = _; rw [Option.some.inj hv]) hdg kk
theorem am_gfac {idx : Nat} (X : Cx p s m args c cc RX11 E) (hS : wS E s mm H locs) (hl : Cond.fieldLink RX11 idx "PartedFellows" "FACTORIALS" "[I" ∈ BIG) (hdg : decode cc pc = .ok (.getstatic idx, 3)) (kk : W p l e R s m args below meth c H locs cells slots Q (F0 m (pc + 3) ls (.ref (eF E) :: rest))) : W p l e R s m args below meth c H locs cells slots Q (F0 m pc ls rest) := by
  obtain ⟨hx, hb, hts, hown, hV, hO⟩ := X
  exact va_gets hx hb (hV.2.2.2.2.2.1.kept (fun a ha _ => hO.2 a ha)) hS.2 hown (hts _ hl) (fun _ h => h) hdg kk
theorem am_ldcS {idx i : Nat} (X : Cx p s m args c cc own E) (hi : i < sN) (ho : sOwn i = own) (hk : sIdx i = idx) (hdg : decode cc pc = .ok (.ldc idx, 2)) (kk : W p l e R s m args below meth c H locs cells slots Q (F0 m (pc + 2) ls (.ref (eK E i) :: rest))) : W p l e R s m args below meth c H locs cells slots Q (F0 m pc ls rest) := by
  obtain ⟨hx, hb, hts, hown, hV, hO⟩ := X
  subst ho
  subst hk
  exact va_ldcS hx hb hown (hV.2.2.2.2.1 i hi) hdg kk
theorem am_ldcSW {idx i : Nat} (X : Cx p s m args c cc own E) (hi : i < sN) (ho : sOwn i = own) (hk : sIdx i = idx) (hdg : decode cc pc = .ok (.ldc_w idx, 3)) (kk : W p l e R s m args below meth c H locs cells slots Q (F0 m (pc + 3) ls (.ref (eK E i) :: rest))) : W p l e R s m args below meth c H locs cells slots Q (F0 m pc ls rest) := by
  obtain ⟨hx, hb, hts, hown, hV, hO⟩ := X
  subst ho
  subst hk
  have hZ := hV.2.2.2.2.1 i hi
  intro T hT Y
  obtain ⟨t, a1, b1⟩ := kk T hT Y
  exact ⟨t, Y.ldcStringW hx (text := sTxt i) (index := sIdx i) (a := eK E i) hown hZ.1 hZ.2 (g := F0 m pc ls rest) rfl (by rw [hb]; exact hdg) t a1, b1⟩
theorem am_cpy {idx a b : Nat} {sp dp n : Int32} (X : Cx p s m args c cc own E) (hml : c.maxLocals = ls.size) (hS : wS E s mm H locs) (hv : aC (eS E) mm a sp b dp n = some mm') (hlink : Cond.methodLink own idx arraycopyName ∈ BIG) (hnat : Cond.native arraycopyName ∈ BIG) (hstat : Cond.static arraycopyName ∈ BIG) (hini : Cond.initialized "java/lang/System" ∈ BIG) (hframes : 1 ≤ R.frames) (hlocals : (rest.map fun v => v.category).sum + (nativeFrameWords "java/lang/System" "arraycopy" 5 + 11) ≤ R.locals) (hdg : decode cc pc = .ok (.invokestatic idx, 3)) (kk : ∀ (H : Heap) (locs : List Loc), wS E s mm' H locs → W p l e R s m args below meth c H locs cells slots Q (F0 m (pc + 3) ls rest)) : W p l e R s m args below meth c H locs cells slots Q (F0 m pc ls (.int n :: .int dp :: .ref b :: .int sp :: .ref a :: rest)) := by
  obtain ⟨hx, hb, hts, hown, hV, -⟩ := X
  unfold aC at hv
  split at hv
  · rename_i n0 n1 hs0 hs1
    split at hv
    · cases hv
    · rename_i hc
      have hm := Option.some.inj hv
      obtain ⟨q0, hq0⟩ := hV.2.1.at mm hs0
      obtain ⟨q1, hq10⟩ := hV.2.1.at mm hs1
      have hq1 := hq10
      rw [cO_i mm hs0] at hq0
      rw [cO_i mm hs1] at hq1
      refine va_copyi hx hb hml hown (hts _ hlink) (hts _ hnat) (hts _ hstat) (hts _ hini) hV.1 hS.1 (hV.2.1.D _) hS.2 q0 q1 0 0 (ty := .int) hq0 hq1 rfl rfl rfl (fun q => hc (Or.inl q)) (fun q => hc (Or.inr (Or.inl q))) (fun q => hc (Or.inr (Or.inr (Or.inl q)))) (Nat.not_lt.mp (fun q => hc (Or.inr (Or.inr (Or.inr (Or.inl q)))))) (Nat.not_lt.mp (fun q => hc (Or.inr (Or.inr (Or.inr (Or.inr q)))))) (fun _ _ => rfl) hframes hlocals hdg (fun H1 locs1 h1 _ h3 => kk H1 locs1 ⟨?_, h3⟩)
      subst hm
      refine wP.put hV.2.1 hs1 hq10 (fun x hx => by funext j; simp [cpy2, hx]) ?_
      rw [cO_i _ hs1]
      rw [show cpy2 mm a b sp.toNatClampNeg dp.toNatClampNeg n.toNatClampNeg b = va_cpy (mm a) (mm b) sp.toNatClampNeg dp.toNatClampNeg n.toNatClampNeg by funext j; simp [cpy2, va_cpy]]
      exact h1
  · cases hv
end AMR
/-- a contract: the method's answer and the numbers behind it -/
def CtI (l : Launch) (y : MethodName) (cc : ByteArray) (nL : Nat) (rt : Option FieldType) (fr lo : Nat) (E : Ev) (As : List Value) (mm : Mem) (r : Int32) (mm' : Mem) : Prop := Met l y (Cond.code y cc nL rt :: BIG) { frames := fr, cells := 0, slots := 0, locals := lo } (va_Pc As (WB E mm)) (va_Qi (fun r' (_ : Unit) => r' = r) (fun _ t => PB E mm' t) (eA E)) 0 0 (eA E)
def CtL (l : Launch) (y : MethodName) (cc : ByteArray) (nL : Nat) (rt : Option FieldType) (fr lo : Nat) (E : Ev) (As : List Value) (mm : Mem) (r : Int64) (mm' : Mem) : Prop := Met l y (Cond.code y cc nL rt :: BIG) { frames := fr, cells := 0, slots := 0, locals := lo } (va_Pc As (WB E mm)) (va_Ql (fun r' (_ : Unit) => r' = r) (fun _ t => PB E mm' t) (eA E)) 0 0 (eA E)
def CtV (l : Launch) (y : MethodName) (cc : ByteArray) (nL : Nat) (rt : Option FieldType) (fr lo : Nat) (E : Ev) (As : List Value) (mm mm' : Mem) : Prop := Met l y (Cond.code y cc nL rt :: BIG) { frames := fr, cells := 0, slots := 0, locals := lo } (va_Pc As (WB E mm)) (va_Qv (fun (_ : Unit) => True) (fun _ t => PB E mm' t) (eA E)) 0 0 (eA E)
/-- a call's words: of an instance method, of a static one -/
def MV (own : String) (idx : Nat) (y : MethodName) (bytes : ByteArray) (nL : Nat) (rt : Option FieldType) (n : Nat) : Prop := Cond.methodLink own idx y ∈ BIG ∧ Cond.instanceMethod y ∈ BIG ∧ Cond.selects y.cls y y ∈ BIG ∧ Cond.initialized y.cls ∈ BIG ∧ Cond.code y bytes nL rt ∈ BIG ∧ y.cls ≠ "java/lang/invoke/MethodHandle" ∧ y.cls ≠ "java/lang/invoke/VarHandle" ∧ (parseMethodDescriptor y.desc).map (fun d => d.parameters.length) = some n
def MS (own : String) (idx : Nat) (y : MethodName) (bytes : ByteArray) (nL : Nat) (rt : Option FieldType) (n : Nat) : Prop := (Cond.methodLink own idx y ∈ BIG ∨ ∃ host, Cond.methodLinkNest own idx y host ∈ NW) ∧ Cond.static y ∈ BIG ∧ Cond.initialized y.cls ∈ BIG ∧ Cond.code y bytes nL rt ∈ BIG ∧ y.cls ≠ "java/lang/invoke/MethodHandle" ∧ y.cls ≠ "java/lang/invoke/VarHandle" ∧ (parseMethodDescriptor y.desc).map (fun d => d.parameters.length) = some n
/-- a call's words, of a private instance method of a nest mate -/
def MVN (own : String) (idx : Nat) (y : MethodName) (bytes : ByteArray) (nL : Nat) (rt : Option FieldType) (n : Nat) : Prop := (∃ host, Cond.methodLinkNest own idx y host ∈ NW) ∧ Cond.instanceMethod y ∈ BIG ∧ Cond.selects y.cls y y ∈ BIG ∧ Cond.initialized y.cls ∈ BIG ∧ Cond.code y bytes nL rt ∈ BIG ∧ y.cls ≠ "java/lang/invoke/MethodHandle" ∧ y.cls ≠ "java/lang/invoke/VarHandle" ∧ (parseMethodDescriptor y.desc).map (fun d => d.parameters.length) = some n
section AMC
variable {p : Program} {l : Launch} {e : Env} {R : Room} {s : State} {m : MethodId} {args : Array Value} {below : List Frame} {meth : Method} {c : Code} {H : Heap} {locs : List Loc} {cells slots : Nat} {Q : State → Prop}
variable {cc : ByteArray} {pc : Nat} {ls : Array Slot} {rest st0 As : List Value} {E : Ev} {own : String} {mm mm' : Mem}
variable {y : MethodName} {bytes : ByteArray} {nLc fr lo n idx b ci : Nat} {rt : Option FieldType} {rr : Nat → Option Nat} {T : u_T} {N : Nat}
theorem am_recv {C : String} (hV : wV E s) (hS : wS E s mm H locs) (hb : eS E b = some (.inr (.inl (ci, rr)))) (hc : vwCl[ci]? = some (C, T, N)) : ∃ cellB : Cell, H[b]? = some cellB ∧ cellB.vm.isStatics = false ∧ s.vm.findClass C = some cellB.cls := by
  obtain ⟨q0, hq⟩ := hV.2.1.at mm hb
  rw [cO_o mm hb] at hq
  exact va_recv hV.1 hS.1 hc hq
theorem am_pre (X : Cx p s m args c cc own E) (hS : wS E s mm H locs) (Av : List Value) : ∀ U : State, U.heap = H → s.WarmedH U.vm → va_Pc Av (WB E mm) Av.toArray U := by
  obtain ⟨-, -, -, -, hV, hO⟩ := X
  intro U hU hW
  refine ⟨rfl, by rw [hU]; exact hS.1, ?_, wV.warm hW hV⟩
  rw [hU]
  exact ⟨Nat.le_trans hO.1 hS.2.1, fun q hq => (hS.2.2.1 q (Nat.lt_of_lt_of_le hq hO.1) (fun z => absurd hq (Nat.not_lt.mpr z))).trans (hO.2 q hq)⟩
theorem am_runV {Qc : Array Value → State → Outcome → State → Prop} (X : Cx p s m args c cc own E) (hml : c.maxLocals = ls.size) (hS : wS E s mm H locs) (hM : Met l y (Cond.code y bytes nLc rt :: BIG) { frames := fr, cells := 0, slots := 0, locals := lo } (va_Pc (.ref b :: As) (WB E mm)) Qc 0 0 (eA E)) (hL : MV own idx y bytes nLc rt n) (hb : eS E b = some (.inr (.inl (ci, rr)))) (hc : vwCl[ci]? = some (y.cls, T, N)) (hR : fr + 1 ≤ R.frames ∧ 8 + (nLc + 11) + lo ≤ R.locals) (hcs : cells ≤ R.cells ∧ slots ≤ R.slots) (hn : As.length = n) (hst : st0 = As.reverse ++ .ref b :: rest) (hW : (rest.map fun v => v.category).sum ≤ 8) (hdg : decode cc pc = .ok (.invokevirtual idx, 3)) : va_Run p l e R s m args below meth c H locs cells slots 0 0 (F0 m pc ls st0) rest (Qc (Value.ref b :: As).toArray) (eA E) := by
  have hpre := am_pre X hS (.ref b :: As)
  obtain ⟨hx, hbb, hts, hown, hV, hO⟩ := X
  obtain ⟨h1, h2, h3, h4, h5, h6, h7, h8⟩ := hL
  exact va_runV (Ts := BIG) (C := y.cls) ⟨hx, hbb, hml, hown, hts⟩ hM ⟨callB_of n hts (goodC h5) rfl rfl rfl (hts _ h4) (hts _ h1) ⟨h6, h7, h8⟩ hR, hts _ h2, hts _ h3⟩ ⟨blindB E mm _, am_recv hV hS hb hc, hpre⟩ rfl hn rfl hst (lv_room hW) hdg hcs
theorem am_runVN {Qc : Array Value → State → Outcome → State → Prop} (X : Cx p s m args c cc own E) (hml : c.maxLocals = ls.size) (hS : wS E s mm H locs) (hM : Met l y (Cond.code y bytes nLc rt :: BIG) { frames := fr, cells := 0, slots := 0, locals := lo } (va_Pc (.ref b :: As) (WB E mm)) Qc 0 0 (eA E)) (hL : MVN own idx y bytes nLc rt n) (hb : eS E b = some (.inr (.inl (ci, rr)))) (hc : vwCl[ci]? = some (y.cls, T, N)) (hR : fr + 1 ≤ R.frames ∧ 8 + (nLc + 11) + lo ≤ R.locals) (hcs : cells ≤ R.cells ∧ slots ≤ R.slots) (hn : As.length = n) (hst : st0 = As.reverse ++ .ref b :: rest) (hW : (rest.map fun v => v.category).sum ≤ 8) (hdg : decode cc pc = .ok (.invokevirtual idx, 3)) : va_Run p l e R s m args below meth c H locs cells slots 0 0 (F0 m pc ls st0) rest (Qc (Value.ref b :: As).toArray) (eA E) := by
  have hpre := am_pre X hS (.ref b :: As)
  obtain ⟨hx, hbb, hts, hown, hV, hO⟩ := X
  obtain ⟨⟨host, h1⟩, h2, h3, h4, h5, h6, h7, h8⟩ := hL
  exact va_runVN (Ts := BIG) (C := y.cls) ⟨hx, hbb, hml, hown, hts⟩ hM ⟨va_cnB n hts (goodC h5) rfl rfl rfl (hV.2.2.1 _ h1) (hts _ h4) ⟨h6, h7, h8⟩ hR, hts _ h2, hts _ h3⟩ ⟨blindB E mm _, am_recv hV hS hb hc, hpre⟩ rfl hn rfl hst (lv_room hW) hdg hcs
theorem am_runS {Qc : Array Value → State → Outcome → State → Prop} (X : Cx p s m args c cc own E) (hml : c.maxLocals = ls.size) (hS : wS E s mm H locs) (hM : Met l y (Cond.code y bytes nLc rt :: BIG) { frames := fr, cells := 0, slots := 0, locals := lo } (va_Pc As (WB E mm)) Qc 0 0 (eA E)) (hL : MS own idx y bytes nLc rt n) (hR : fr + 1 ≤ R.frames ∧ 8 + (nLc + 11) + lo ≤ R.locals) (hcs : cells ≤ R.cells ∧ slots ≤ R.slots) (hn : As.length = n) (hst : st0 = As.reverse ++ rest) (hW : (rest.map fun v => v.category).sum ≤ 8) (hdg : decode cc pc = .ok (.invokestatic idx, 3)) : va_Run p l e R s m args below meth c H locs cells slots 0 0 (F0 m pc ls st0) rest (Qc As.toArray) (eA E) := by
  have hpre := am_pre X hS As
  obtain ⟨hx, hbb, hts, hown, hV, hO⟩ := X
  obtain ⟨h1, h2, h4, h5, h6, h7, h8⟩ := hL
  rcases h1 with h1 | ⟨host, h1⟩
  · exact va_runS (Ts := BIG) ⟨hx, hbb, hml, hown, hts⟩ hM ⟨callB_of n hts (goodC h5) rfl rfl rfl (hts _ h4) (hts _ h1) ⟨h6, h7, h8⟩ hR, hts _ h2⟩ ⟨blindB E mm _, hpre⟩ rfl hn rfl hst (lv_room hW) hdg hcs
  · exact va_runSN (Ts := BIG) ⟨hx, hbb, hml, hown, hts⟩ hM ⟨va_cnB n hts (goodC h5) rfl rfl rfl (hV.2.2.1 _ h1) (hts _ h4) ⟨h6, h7, h8⟩ hR, hts _ h2, trivial⟩ ⟨blindB E mm _, hpre⟩ rfl hn rfl hst (lv_room hW) hdg hcs
theorem am_endi {r : Int32} {a : Array Value} (hS : wS E s mm H locs) (hr : va_Run p l e R s m args below meth c H locs cells slots 0 0 (F0 m pc ls st0) rest (va_Qi (fun r' (_ : Unit) => r' = r) (fun _ t => PB E mm' t) (eA E) a) (eA E)) (kk : ∀ (H : Heap) (locs : List Loc), wS E s mm' H locs → W p l e R s m args below meth c H locs cells slots Q (F0 m (pc + 3) ls (.int r :: rest))) : W p l e R s m args below meth c H locs cells slots Q (F0 m pc ls st0) := by
  refine va_calli hr hS.2 (fun _ _ h => h) (fun _ h => h) (fun r' u t H1 locs1 ht hvm hp hB hz hk hS1 => ?_)
  subst hp
  subst ht
  exact kk _ locs1 ⟨hB.1, hS1⟩
theorem am_endl {r : Int64} {a : Array Value} (hS : wS E s mm H locs) (hr : va_Run p l e R s m args below meth c H locs cells slots 0 0 (F0 m pc ls st0) rest (va_Ql (fun r' (_ : Unit) => r' = r) (fun _ t => PB E mm' t) (eA E) a) (eA E)) (kk : ∀ (H : Heap) (locs : List Loc), wS E s mm' H locs → W p l e R s m args below meth c H locs cells slots Q (F0 m (pc + 3) ls (.long r :: rest))) : W p l e R s m args below meth c H locs cells slots Q (F0 m pc ls st0) := by
  refine va_calll hr hS.2 (fun _ _ h => h) (fun _ h => h) (fun r' u t H1 locs1 ht hvm hp hB hz hk hS1 => ?_)
  subst hp
  subst ht
  exact kk _ locs1 ⟨hB.1, hS1⟩
theorem am_endv {a : Array Value} (hS : wS E s mm H locs) (hr : va_Run p l e R s m args below meth c H locs cells slots 0 0 (F0 m pc ls st0) rest (va_Qv (fun (_ : Unit) => True) (fun _ t => PB E mm' t) (eA E) a) (eA E)) (kk : ∀ (H : Heap) (locs : List Loc), wS E s mm' H locs → W p l e R s m args below meth c H locs cells slots Q (F0 m (pc + 3) ls rest)) : W p l e R s m args below meth c H locs cells slots Q (F0 m pc ls st0) := by
  refine va_callv hr hS.2 (fun _ _ h => h) (fun _ h => h) (fun u t H1 locs1 ht hvm hp hB hz hk hS1 => ?_)
  subst ht
  exact kk _ locs1 ⟨hB.1, hS1⟩
end AMC
