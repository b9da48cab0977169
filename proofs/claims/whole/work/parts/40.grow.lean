/-! cells that are made: a list of cells, numbered from the start's heap on; references by number -/
abbrev RC : Type := Nat ⊕ ((Nat × List (Option Nat)) ⊕ (Nat × Nat × List (Option Nat)))
def shf (B : Nat) (c : RC) : Sh1 := match c with
  | .inl n => .inl n
  | .inr (.inl (ci, rs)) => .inr (.inl (ci, fun k => (rs.getD k none).map (fun j => B + j)))
  | .inr (.inr (t, n, rs)) => .inr (.inr (t, n, fun k => (rs.getD k none).map (fun j => B + j)))
def shL (B : Nat) (cs : List RC) : Shp := fun a => if a < B then none else (cs[a - B]?).map (shf B)
abbrev eB (E : Ev) : Nat := (e0 E).heap.size
def mkR (E : Ev) (cs : List RC) : Ev := (eD E, eI E, eT E, List.range' (eB E) cs.length, shL (eB E) cs, e0 E, eK E, eV E, eF E)
def Zr (E : Ev) (cs : List RC) (mm : Mem) : Prop := ∀ a j : Nat, eB E + cs.length ≤ a → mm a j = 0
theorem shL_at (B : Nat) (cs : List RC) (i : Nat) : shL B cs (B + i) = (cs[i]?).map (shf B) := by
  unfold shL
  rw [if_neg (by omega), show B + i - B = i by omega]
theorem shL_some {B : Nat} {cs : List RC} {a : Nat} {c : Sh1} (h : shL B cs a = some c) : ∃ i, i < cs.length ∧ a = B + i := by
  unfold shL at h
  split at h
  · cases h
  · rename_i h1
    cases hc : cs[a - B]? with
    | none => rw [hc] at h; cases h
    | some x => exact ⟨a - B, (List.getElem?_eq_some_iff.mp hc).1, by omega⟩
theorem wN_mkR (E : Ev) (cs : List RC) : wN (mkR E cs) := by
  refine ⟨List.nodup_range', fun a ha => ?_, fun a c hc => ?_⟩
  · exact (List.mem_range'_1.mp ha).1
  · obtain ⟨i, hi, rfl⟩ := shL_some hc
    exact List.mem_range'_1.mpr ⟨Nat.le_add_right _ _, Nat.add_lt_add_left hi _⟩
theorem pl_at (E : Ev) (cs : List RC) (f : Nat → va_E) {k : Nat} (hk : k < cs.length) : (va_pl (List.range' (eB E) cs.length) f)[k]? = some (eB E + k, f (eB E + k)) := by
  simp [va_pl, List.getElem?_map, List.getElem?_range' (by exact hk : k < cs.length)]
theorem pl_len (E : Ev) (cs : List RC) (f : Nat → va_E) : (va_pl (List.range' (eB E) cs.length) f).length = cs.length := by simp [va_pl]
theorem cO_mk {E : Ev} {cs : List RC} (mm : Mem) (i : Nat) : cO (mkR E cs) mm (eB E + i) = cO1 E (mm (eB E + i)) ((cs[i]?).map (shf (eB E))) := by
  show cO1 (mkR E cs) (mm (eB E + i)) (shL (eB E) cs (eB E + i)) = _
  rw [shL_at]
  rfl
section GRW
variable {p : Program} {l : Launch} {e : Env} {R : Room} {s : State} {m : MethodId} {args : Array Value} {below : List Frame} {meth : Method} {c : Code} {H : Heap} {locs : List Loc} {cells slots : Nat} {Q : State → Prop}
variable {cc : ByteArray} {pc : Nat} {ls : Array Slot} {rest : List Value} {E : Ev} {own : String} {mm mm' : Mem} {cs cs' : List RC}
theorem Cx.to (cs' : List RC) (X : Cx p s m args c cc own (mkR E cs)) : Cx p s m args c cc own (mkR E cs') := ⟨X.1, X.2.1, X.2.2.1, X.2.2.2.1, ⟨X.2.2.2.2.1.1, wN_mkR E cs', X.2.2.2.2.1.2.2⟩, X.2.2.2.2.2⟩
/-- one cell more -/
theorem wP_grow {H1 : Heap} {x : RC} (hP : wP (mkR E cs) mm H) (ho : ∀ q : Nat, q < H.size → H1[q]? = H[q]?) (hn : va_at (eD E) vwCl (eB E + cs.length, cO1 E (mm (eB E + cs.length)) (some (shf (eB E) x))) H1) : wP (mkR E (cs ++ [x])) mm H1 := by
  intro k q hk
  have hk0 : k < (cs ++ [x]).length := by
    have h9 : k < (va_pl (List.range' (eB E) (cs ++ [x]).length) (cO (mkR E (cs ++ [x])) mm)).length := (List.getElem?_eq_some_iff.mp hk).1
    rw [pl_len E (cs ++ [x])] at h9
    exact h9
  have e1 := pl_at E (cs ++ [x]) (cO (mkR E (cs ++ [x])) mm) hk0
  have e2 : q = (eB E + k, cO (mkR E (cs ++ [x])) mm (eB E + k)) := Option.some.inj (hk.symm.trans e1)
  rw [e2, cO_mk]
  by_cases hl : k < cs.length
  · rw [List.getElem?_append_left hl]
    have h3 := (hP.kept (fun j y hy => ho y.1 ((hP j y hy).lt))) k _ (pl_at E cs (cO (mkR E cs) mm) hl)
    rw [cO_mk] at h3
    exact h3
  · have hke : k = cs.length := by
      rw [List.length_append] at hk0
      simp at hk0
      omega
    subst hke
    rw [show (cs ++ [x])[cs.length]? = some x by simp]
    exact hn
theorem Zr.grow {x : RC} (h : Zr E cs mm) : Zr E (cs ++ [x]) mm := fun a j ha => h a j (by rw [List.length_append] at ha; omega)
/-- one cell changed -/
theorem wP_set {H1 : Heap} {i : Nat} {e1 : va_E} (hl : cs'.length = cs.length) (hi : i < cs.length) (ho : ∀ j, j ≠ i → cs'[j]? = cs[j]?) (he : cO (mkR E cs') mm (eB E + i) = e1) (h : va_P (eD E) vwCl ((va_pl (List.range' (eB E) cs.length) (cO (mkR E cs) mm)).set i (eB E + i, e1)) H1) : wP (mkR E cs') mm H1 := by
  have e : (va_pl (List.range' (eB E) cs.length) (cO (mkR E cs) mm)).set i (eB E + i, e1) = va_pl (List.range' (eB E) cs'.length) (cO (mkR E cs') mm) := by
    apply List.ext_getElem?
    intro k
    by_cases hk : k = i
    · subst hk
      rw [List.getElem?_set_self (by rw [pl_len]; exact hi), pl_at E cs' _ (by rw [hl]; exact hi), he]
    · rw [List.getElem?_set_ne (Ne.symm hk)]
      by_cases hkl : k < cs.length
      · rw [pl_at E cs _ hkl, pl_at E cs' _ (by rw [hl]; exact hkl), cO_mk, cO_mk, ho k hk]
      · rw [List.getElem?_eq_none (by rw [pl_len]; omega), List.getElem?_eq_none (by rw [pl_len]; omega)]
  rw [e] at h
  exact h
theorem am_newO {ci idx N : Nat} {C : String} {T : u_T} {ty : Nat → FieldType} (X : Cx p s m args c cc own (mkR E cs)) (hS : wS (mkR E cs) s mm H locs) (hz : Zr E cs mm) (hn : H.size = eB E + cs.length) (hc : vwCl[ci]? = some (C, T, N)) (hin : ∀ w ∈ u_ws C T N, w ∈ BIG) (hty : ∀ k, k < N → parseFieldDescriptor (T k).2.2.1 = some (ty k)) (hcl : Cond.classLink own idx C ∈ BIG) (hinst : Cond.instantiable C N ∈ BIG) (hini : Cond.initialized C ∈ BIG) (hfs : ∀ j, j < N → defaultValue (ty j) = vp_V (flds ci (fun _ => none) (fun _ => 0)) j) (hcells : cells + 1 ≤ R.cells) (hslots : slots + N ≤ R.slots) (hdg : decode cc pc = .ok (.new idx, 3))
    (kk : ∀ H1 : Heap, wS (mkR E (cs ++ [.inr (.inl (ci, []))])) s mm H1 locs → H1.size = eB E + (cs ++ [(.inr (.inl (ci, [])) : RC)]).length → W p l e R s m args below meth c H1 locs (cells + 1) (slots + N) Q (F0 m (pc + 3) ls (.ref (eB E + cs.length) :: rest))) : W p l e R s m args below meth c H locs cells slots Q (F0 m pc ls rest) := by
  obtain ⟨hx, hb, hts, hown, hV, hO⟩ := X
  have hKn := hV.1.1 ci _ hc
  refine W.newcK hx hb hown (hts _ hcl) (hts _ hinst) (hts _ hini) rfl hdg hcells hslots hKn.2.1 hn fun H1 kC hkC e1 z1 o1 => ?_
  refine kk H1 ⟨wP_grow hS.1 (fun q hq => o1 q (by rw [← hn]; exact hq)) ?_, Nat.le_trans hS.2.1 (by omega), fun q h1 h2 => (o1 q (by rw [← hn]; exact Nat.lt_of_lt_of_le h1 hS.2.1)).trans (hS.2.2.1 q h1 h2), hS.2.2.2⟩ (by rw [z1, List.length_append]; rfl)
  refine ⟨_, hc, ?_⟩
  have hb1 := (u_born ty hts hin hKn hkC e1 hty).to hfs
  rw [show (fun k => ((([] : List (Option Nat)).getD k none).map (fun j => eB E + j))) = (fun _ => none) by funext k; simp, show mm (eB E + cs.length) = (fun _ => 0) by funext j; exact hz _ j (Nat.le_refl _)]
  exact hb1
theorem am_newI {n : Int32} {N' : Nat} (X : Cx p s m args c cc own (mkR E cs)) (hS : wS (mkR E cs) s mm H locs) (hz : Zr E cs mm) (hn : H.size = eB E + cs.length) (harr : Cond.arrayClass .int ∈ BIG) (h0 : ¬ n < 0) (hN : n.toNatClampNeg = N') (hb4 : N' * 4 ≤ 536870912) (hcells : cells + 1 ≤ R.cells) (hslots : slots + N' ≤ R.slots) (hdg : decode cc pc = .ok (.newarray .int, 2))
    (kk : ∀ H1 : Heap, wS (mkR E (cs ++ [.inl N'])) s mm H1 locs → H1.size = eB E + (cs ++ [(.inl N' : RC)]).length → W p l e R s m args below meth c H1 locs (cells + 1) (slots + N') Q (F0 m (pc + 2) ls (.ref (eB E + cs.length) :: rest))) : W p l e R s m args below meth c H locs cells slots Q (F0 m pc ls (.int n :: rest)) := by
  obtain ⟨hx, hb, hts, hown, hV, hO⟩ := X
  refine va_newaK (atype := .int) hx hb (hts _ harr) rfl hdg rfl h0 hN hb4 hcells hslots hn fun H1 cA e1 z1 o1 hAr hNm => ?_
  have hcA : cA = eI E := Option.some.inj (hNm.symm.trans (hV.1.2 0 (eI E, .int) rfl).2)
  subst hcA
  refine kk H1 ⟨wP_grow hS.1 (fun q hq => o1 q (by rw [← hn]; exact hq)) ?_, Nat.le_trans hS.2.1 (by omega), fun q h1 h2 => (o1 q (by rw [← hn]; exact Nat.lt_of_lt_of_le h1 hS.2.1)).trans (hS.2.2.1 q h1 h2), hS.2.2.2⟩ (by rw [z1, List.length_append]; rfl)
  show H1[eB E + cs.length]? = some (vp_cell (eI E) (N', .inl (mm (eB E + cs.length))))
  rw [show mm (eB E + cs.length) = (fun _ => 0) by funext j; exact hz _ j (Nat.le_refl _)]
  exact e1
theorem am_newJ {n : Int32} {N' : Nat} (X : Cx p s m args c cc own (mkR E cs)) (hS : wS (mkR E cs) s mm H locs) (hz : Zr E cs mm) (hn : H.size = eB E + cs.length) (harr : Cond.arrayClass .long ∈ BIG) (h0 : ¬ n < 0) (hN : n.toNatClampNeg = N') (hb4 : N' * 8 ≤ 536870912) (hcells : cells + 1 ≤ R.cells) (hslots : slots + N' ≤ R.slots) (hdg : decode cc pc = .ok (.newarray .long, 2))
    (kk : ∀ H1 : Heap, wS (mkR E (cs ++ [.inr (.inr (3, N', []))])) s mm H1 locs → H1.size = eB E + (cs ++ [(.inr (.inr (3, N', [])) : RC)]).length → W p l e R s m args below meth c H1 locs (cells + 1) (slots + N') Q (F0 m (pc + 2) ls (.ref (eB E + cs.length) :: rest))) : W p l e R s m args below meth c H locs cells slots Q (F0 m pc ls (.int n :: rest)) := by
  obtain ⟨hx, hb, hts, hown, hV, hO⟩ := X
  refine va_newaK (atype := .long) hx hb (hts _ harr) rfl hdg rfl h0 hN hb4 hcells hslots hn fun H1 cA e1 z1 o1 hAr hNm => ?_
  have hcA : cA = eT E 3 := Option.some.inj (hNm.symm.trans (hV.1.2 4 (eT E 3, .long) rfl).2)
  subst hcA
  refine kk H1 ⟨wP_grow hS.1 (fun q hq => o1 q (by rw [← hn]; exact hq)) ?_, Nat.le_trans hS.2.1 (by omega), fun q h1 h2 => (o1 q (by rw [← hn]; exact Nat.lt_of_lt_of_le h1 hS.2.1)).trans (hS.2.2.1 q h1 h2), hS.2.2.2⟩ (by rw [z1, List.length_append]; rfl)
  show H1[eB E + cs.length]? = some (vp_cell (eT E 3) (N', .inr (.inl (fun j => cmb (mm (eB E + cs.length) (2 * j)) (mm (eB E + cs.length) (2 * j + 1))))))
  rw [show mm (eB E + cs.length) = (fun _ => 0) by funext j; exact hz _ j (Nat.le_refl _), show (fun _ : Nat => cmb 0 0) = (fun _ => (0 : Int64)) by funext j; decide +kernel]
  exact e1
theorem am_newR {n : Int32} {N' t idx : Nat} {C : String} (X : Cx p s m args c cc own (mkR E cs)) (hS : wS (mkR E cs) s mm H locs) (hn : H.size = eB E + cs.length) (ht : t < 3) (hC : tyR t = .object C) (hcl : Cond.classLink own idx C ∈ BIG) (hov : Cond.arrayOver (.object C) ∈ NW) (h0 : ¬ n < 0) (hN : n.toNatClampNeg = N') (hb4 : N' * 4 ≤ 536870912) (hcells : cells + 1 ≤ R.cells) (hslots : slots + N' ≤ R.slots) (hdg : decode cc pc = .ok (.anewarray idx, 3))
    (kk : ∀ H1 : Heap, wS (mkR E (cs ++ [.inr (.inr (t, N', []))])) s mm H1 locs → H1.size = eB E + (cs ++ [(.inr (.inr (t, N', [])) : RC)]).length → W p l e R s m args below meth c H1 locs (cells + 1) (slots + N') Q (F0 m (pc + 3) ls (.ref (eB E + cs.length) :: rest))) : W p l e R s m args below meth c H locs cells slots Q (F0 m pc ls (.int n :: rest)) := by
  obtain ⟨hx, hb, hts, hown, hV, hO⟩ := X
  subst hN
  refine W.anew hx hb hown (hts _ hcl) (nw_use rfl (hV.2.2.1 _ hov)) rfl hdg rfl h0 hb4 hcells hslots fun cA kA comp f1 f2 f3 f4 => ?_
  generalize hH1 : H.push ({ cls := cA, slots := Array.replicate n.toNatClampNeg .null, vm := .none } : Cell) = H1
  have z1 : H1.size = H.size + 1 := by rw [← hH1, Array.size_push]
  have e1 : H1[H.size]? = some (arrV cA n.toNatClampNeg (fun _ => .null)) := by rw [← hH1, Array.getElem?_push_size, ← arrV_new]
  have o1 : ∀ q : Nat, q < H.size → H1[q]? = H[q]? := fun q hq => by rw [← hH1, Array.getElem?_push, if_neg (Nat.ne_of_lt hq)]
  have hra := (hV.1.2 (t + 1) _ (tyL_at (mkR E cs) ht)).2
  rw [hC] at hra
  obtain ⟨kA2, comp2, g1, g2, g3, g4⟩ := hra
  have hcA : cA = eT E t := Option.some.inj (f1.symm.trans g4)
  subst hcA
  rw [hn] at e1 ⊢
  refine kk H1 ⟨wP_grow hS.1 o1 ?_, Nat.le_trans hS.2.1 (by omega), fun q h1 h2 => (o1 q (Nat.lt_of_lt_of_le h1 hS.2.1)).trans (hS.2.2.1 q h1 h2), hS.2.2.2⟩ (by rw [z1, hn, List.length_append]; rfl)
  have e9 : cO1 E (mm (eB E + cs.length)) (some (shf (eB E) (.inr (.inr (t, n.toNatClampNeg, []))))) = .inl (eT E t, n.toNatClampNeg, .inr (.inr (.inr (.inr (fun _ => none))))) := by
    show (if t = 3 then _ else _) = _
    rw [if_neg (by omega)]
    simp
  rw [e9]
  exact e1
end GRW
