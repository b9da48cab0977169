section GRM
variable {p : Program} {l : Launch} {e : Env} {R : Room} {s : State} {m : MethodId} {args : Array Value} {below : List Frame} {meth : Method} {c : Code} {H : Heap} {locs : List Loc} {cells slots : Nat} {Q : State → Prop}
variable {cc : ByteArray} {pc : Nat} {ls : Array Slot} {rest : List Value} {E : Ev} {own : String} {mm mm' : Mem} {cs cs' : List RC}
theorem wP_many {H1 : Heap} {xs : List RC} (hP : wP (mkR E cs) mm H) (ho : ∀ q : Nat, q < H.size → H1[q]? = H[q]?) (hn : ∀ (j : Nat) (x : RC), xs[j]? = some x → va_at (eD E) vwCl (eB E + (cs.length + j), cO1 E (mm (eB E + (cs.length + j))) (some (shf (eB E) x))) H1) : wP (mkR E (cs ++ xs)) mm H1 := by
  intro k q hk
  have hk0 : k < (cs ++ xs).length := by
    have h9 : k < (va_pl (List.range' (eB E) (cs ++ xs).length) (cO (mkR E (cs ++ xs)) mm)).length := (List.getElem?_eq_some_iff.mp hk).1
    rw [pl_len E (cs ++ xs)] at h9
    exact h9
  have e1 := pl_at E (cs ++ xs) (cO (mkR E (cs ++ xs)) mm) hk0
  have e2 : q = (eB E + k, cO (mkR E (cs ++ xs)) mm (eB E + k)) := Option.some.inj (hk.symm.trans e1)
  rw [e2, cO_mk]
  by_cases hl : k < cs.length
  · rw [List.getElem?_append_left hl]
    have h3 := (hP.kept (fun j y hy => ho y.1 ((hP j y hy).lt))) k _ (pl_at E cs (cO (mkR E cs) mm) hl)
    rw [cO_mk] at h3
    exact h3
  · rw [List.length_append] at hk0
    rw [List.getElem?_append_right (by omega)]
    have h4 : (k - cs.length) < xs.length := by omega
    have h5 := hn (k - cs.length) _ (List.getElem?_eq_getElem h4)
    rw [show cs.length + (k - cs.length) = k by omega] at h5
    rw [List.getElem?_eq_getElem h4]
    exact h5
/-- new int[n][k]: the row of rows, then the rows -/
def nwM (cs : List RC) (n k : Nat) : List RC := cs ++ ((.inr (.inr (2, n, (List.range n).map (fun j => some (cs.length + 1 + j)))) : RC) :: List.replicate n (.inl k))
theorem nwM_len (cs : List RC) (n k : Nat) : (nwM cs n k).length = cs.length + (n + 1) := by simp [nwM]
theorem am_nO {ci idx N : Nat} {C : String} {T : u_T} {ty : Nat → FieldType} (X : Cx p s m args c cc own (mkR E cs)) (hS : wS (mkR E cs) s mm H locs) (hz : Zr E cs mm) (hcnt : s.heap.size + cells = eB E + cs.length) (hc : vwCl[ci]? = some (C, T, N)) (hin : ∀ w ∈ u_ws C T N, w ∈ BIG) (hty : ∀ k, k < N → parseFieldDescriptor (T k).2.2.1 = some (ty k)) (hcl : Cond.classLink own idx C ∈ BIG) (hinst : Cond.instantiable C N ∈ BIG) (hini : Cond.initialized C ∈ BIG) (hfs : ∀ j, j < N → defaultValue (ty j) = vp_V (flds ci (fun _ => none) (fun _ => 0)) j) (hcells : cells + 1 ≤ R.cells) (hslots : slots + N ≤ R.slots) (hdg : decode cc pc = .ok (.new idx, 3))
    (kk : ∀ H1 : Heap, wS (mkR E (cs ++ [.inr (.inl (ci, []))])) s mm H1 locs → W p l e R s m args below meth c H1 locs (cells + 1) (slots + N) Q (F0 m (pc + 3) ls (.ref (eB E + cs.length) :: rest))) : W p l e R s m args below meth c H locs cells slots Q (F0 m pc ls rest) :=
  fun T hT Y => am_newO X hS hz (am_cnt X hS hcnt hT Y) hc hin hty hcl hinst hini hfs hcells hslots hdg (fun H1 h _ => kk H1 h) T hT Y
theorem am_nI {n : Int32} {N' : Nat} (X : Cx p s m args c cc own (mkR E cs)) (hS : wS (mkR E cs) s mm H locs) (hz : Zr E cs mm) (hcnt : s.heap.size + cells = eB E + cs.length) (harr : Cond.arrayClass .int ∈ BIG) (h0 : ¬ n < 0) (hN : n.toNatClampNeg = N') (hb4 : N' * 4 ≤ 536870912) (hcells : cells + 1 ≤ R.cells) (hslots : slots + N' ≤ R.slots) (hdg : decode cc pc = .ok (.newarray .int, 2))
    (kk : ∀ H1 : Heap, wS (mkR E (cs ++ [.inl N'])) s mm H1 locs → W p l e R s m args below meth c H1 locs (cells + 1) (slots + N') Q (F0 m (pc + 2) ls (.ref (eB E + cs.length) :: rest))) : W p l e R s m args below meth c H locs cells slots Q (F0 m pc ls (.int n :: rest)) :=
  fun T hT Y => am_newI X hS hz (am_cnt X hS hcnt hT Y) harr h0 hN hb4 hcells hslots hdg (fun H1 h _ => kk H1 h) T hT Y
theorem am_nJ {n : Int32} {N' : Nat} (X : Cx p s m args c cc own (mkR E cs)) (hS : wS (mkR E cs) s mm H locs) (hz : Zr E cs mm) (hcnt : s.heap.size + cells = eB E + cs.length) (harr : Cond.arrayClass .long ∈ BIG) (h0 : ¬ n < 0) (hN : n.toNatClampNeg = N') (hb4 : N' * 8 ≤ 536870912) (hcells : cells + 1 ≤ R.cells) (hslots : slots + N' ≤ R.slots) (hdg : decode cc pc = .ok (.newarray .long, 2))
    (kk : ∀ H1 : Heap, wS (mkR E (cs ++ [.inr (.inr (3, N', []))])) s mm H1 locs → W p l e R s m args below meth c H1 locs (cells + 1) (slots + N') Q (F0 m (pc + 2) ls (.ref (eB E + cs.length) :: rest))) : W p l e R s m args below meth c H locs cells slots Q (F0 m pc ls (.int n :: rest)) :=
  fun T hT Y => am_newJ X hS hz (am_cnt X hS hcnt hT Y) harr h0 hN hb4 hcells hslots hdg (fun H1 h _ => kk H1 h) T hT Y
theorem am_nR {n : Int32} {N' t idx : Nat} {C : String} (X : Cx p s m args c cc own (mkR E cs)) (hS : wS (mkR E cs) s mm H locs) (hcnt : s.heap.size + cells = eB E + cs.length) (ht : t < 3) (hC : tyR t = .object C) (hcl : Cond.classLink own idx C ∈ BIG) (hov : Cond.arrayOver (.object C) ∈ NW) (h0 : ¬ n < 0) (hN : n.toNatClampNeg = N') (hb4 : N' * 4 ≤ 536870912) (hcells : cells + 1 ≤ R.cells) (hslots : slots + N' ≤ R.slots) (hdg : decode cc pc = .ok (.anewarray idx, 3))
    (kk : ∀ H1 : Heap, wS (mkR E (cs ++ [.inr (.inr (t, N', []))])) s mm H1 locs → W p l e R s m args below meth c H1 locs (cells + 1) (slots + N') Q (F0 m (pc + 3) ls (.ref (eB E + cs.length) :: rest))) : W p l e R s m args below meth c H locs cells slots Q (F0 m pc ls (.int n :: rest)) :=
  fun T hT Y => am_newR X hS (am_cnt X hS hcnt hT Y) ht hC hcl hov h0 hN hb4 hcells hslots hdg (fun H1 h _ => kk H1 h) T hT Y
theorem am_mul {n k : Int32} {N' K' idx : Nat} (X : Cx p s m args c cc own (mkR E cs)) (hS : wS (mkR E cs) s mm H locs) (hz : Zr E cs mm) (hcnt : s.heap.size + cells = eB E + cs.length) (hcl : Cond.classLink own idx ("[" ++ (FieldType.array .int).toString) ∈ BIG) (hov : Cond.arrayOver (.array .int) ∈ NW) (harr : Cond.arrayClass .int ∈ BIG) (hn0 : ¬ n < 0) (hk0 : ¬ k < 0) (hN : n.toNatClampNeg = N') (hM : k.toNatClampNeg = K') (hb1 : N' * 4 ≤ 536870912) (hb2 : K' * componentBytes .int ≤ 536870912) (hb3 : K' ≤ 536870912) (hcells : cells + (1 + N') ≤ R.cells) (hslots : slots + (N' + N' * K') ≤ R.slots) (hdg : decode cc pc = .ok (.multianewarray idx 2, 4))
    (kk : ∀ H1 : Heap, wS (mkR E (nwM cs N' K')) s mm H1 locs → W p l e R s m args below meth c H1 locs (cells + 1 + N') (slots + N' + N' * K') Q (F0 m (pc + 4) ls (.ref (eB E + cs.length) :: rest))) : W p l e R s m args below meth c H locs cells slots Q (F0 m pc ls (.int k :: .int n :: rest)) := by
  intro T hT Y
  have hn := am_cnt X hS hcnt hT Y
  obtain ⟨hx, hb, hts, hown, hV, hO⟩ := X
  refine va_mnaX (X := []) (L := List.range' (eB E) cs.length) (f := cO (mkR E cs) mm) (ty := .int) (cy := eI E) (z := (K', .inl (fun _ => 0))) (A := eA E) (H0 := s.heap) hx hb hown (hts _ hcl) (nw_use rfl (hV.2.2.1 _ hov)) (hts _ harr) (hV.1.2 0 (eI E, .int) rfl).2 hV.1 hS.1 (hV.2.1.D _) hS.2 (fun q hq => Nat.le_trans hO.1 hq) hn0 hk0 hN hM hb1 hb2 hb3 rfl rfl hcells hslots (fun c => by rw [vp_cell_i]; first | rfl | (simp [Jvm.Free.Multi.innerC, arrV, defaultValue]; done) | exact (arrV_new ..).symm | exact arrV_new ..) hdg (fun q r cA H1 e1 e2 ho g1 g2 hcA _ _ _ _ _ hS1 => ?_) T hT Y
  subst e1
  have hcA2 : cA = eT E 2 := Option.some.inj (hcA.symm.trans (hV.1.2 3 (eT E 2, .array .int) rfl).2)
  subst hcA2
  rw [hn] at g1 g2 ⊢
  refine kk H1 ⟨wP_many hS.1 (fun q hq => ho q hq) (fun j x hx => ?_), hS1⟩
  cases j with
  | zero =>
    cases hx
    show H1[eB E + cs.length]? = some (vp_cell (eT E 2) (N', .inr (.inr (.inr (.inr (fun k => (((List.range N').map (fun j => some (cs.length + 1 + j))).getD k none).map (fun j => eB E + j)))))))
    rw [g1]
    have hfun : (fun i => if i < N' then some (eB E + cs.length + 1 + i) else none) = (fun k => (((List.range N').map (fun j => some (cs.length + 1 + j))).getD k none).map (fun j => eB E + j)) := by
      funext i
      by_cases hi : i < N'
      · simp [hi, List.getD, List.getElem?_map, List.getElem?_range hi]
        omega
      · have h9 : (List.range N')[i]? = none := List.getElem?_eq_none (by rw [List.length_range]; omega)
        simp [hi, List.getD, List.getElem?_map, h9]
    rw [hfun]
  | succ j =>
    rw [List.getElem?_cons_succ, List.getElem?_replicate] at hx
    split at hx
    · rename_i hj
      cases hx
      show H1[eB E + (cs.length + (j + 1))]? = some (vp_cell (eI E) (K', .inl (mm (eB E + (cs.length + (j + 1))))))
      rw [show mm (eB E + (cs.length + (j + 1))) = (fun _ => 0) by funext z; exact hz _ z (by omega), show eB E + (cs.length + (j + 1)) = eB E + cs.length + 1 + j by omega]
      exact g2 j hj
    · cases hx
end GRM
