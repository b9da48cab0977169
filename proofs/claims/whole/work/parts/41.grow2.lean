/-! ===== BEGIN new T[n][m]: the outer array a place, the inner ones among the pooled ===== -/
/-- f, but v at every address of l -/
def vr_up {α : Type} (f : Nat → α) (l : List Nat) (v : α) : Nat → α := fun a => if a ∈ l then v else f a
theorem vr_up_in {α : Type} {f : Nat → α} {l : List Nat} {v : α} {a : Nat} (h : a ∈ l) : vr_up f l v a = v := if_pos h
theorem vr_up_ne {α : Type} {f : Nat → α} {l : List Nat} {v : α} {a : Nat} (h : a ∉ l) : vr_up f l v a = f a := if_neg h
theorem vr_rows {L l : List Nat} {f : Nat → va_E} {e : va_E} (h : ∀ a, a ∈ l → a ∉ L) : va_pl L f ++ l.map (fun a => (a, e)) = va_pl (L ++ l) (vr_up f l e) := by
  unfold va_pl
  rw [List.map_append]
  congr 1
  · apply List.map_congr_left
    intro a ha
    rw [vr_up_ne (fun q => h a q ha)]
  · apply List.map_congr_left
    intro a ha
    rw [vr_up_in ha]
theorem vr_lay {X rows : va_W} {x : Nat × va_E} {pl : va_W} {D : va_G} {cl : List vw_C} {H : Heap} (hP : va_P D cl (((X ++ pl) ++ [x]) ++ rows) H) : va_P D cl ((X ++ [x]) ++ (pl ++ rows)) H := by
  rw [List.append_assoc (X ++ pl)] at hP
  have h := va_P.swap hP
  rw [← List.append_assoc X] at h
  have h2 := va_P.swap h
  rw [List.append_assoc (X ++ [x])] at h2
  exact h2
theorem vr_layD {X rows : va_W} {x : Nat × va_E} {pl : va_W} {A : Nat → Prop} (hD : va_D A (((X ++ pl) ++ [x]) ++ rows)) : va_D A ((X ++ [x]) ++ (pl ++ rows)) := by
  rw [List.append_assoc (X ++ pl)] at hD
  have h := va_D.swap hD
  rw [← List.append_assoc X] at h
  have h2 := va_D.swap h
  rw [List.append_assoc (X ++ [x])] at h2
  exact h2
theorem vr_outer (c : ClassId) (N h0 : Nat) : ∀ i : Nat, Jvm.Free.Multi.outerC c N h0 i = arrV c N (fun j => va_rf (if j < i then some (h0 + 1 + j) else none))
  | 0 => by
    show ({ cls := c, slots := Array.replicate N .null, vm := .none } : Cell) = _
    rw [arrV_new]
    refine congrArg (arrV c N) (funext fun j => ?_)
    simp [va_rf]
  | i + 1 => by
    show (Jvm.Free.Multi.outerC c N h0 i).setSlot i (.ref (h0 + 1 + i)) = _
    rw [vr_outer c N h0 i, arrV_store]
    refine congrArg (arrV c N) (funext fun j => ?_)
    by_cases e : j = i
    · subst e
      simp [updV, va_rf]
    · by_cases h : j < i
      · simp [updV, e, h, Nat.lt_succ_of_lt h]
      · simp [updV, e, h, show ¬ j < i + 1 by omega]
section VGM
variable {p : Program} {l : Launch} {e : Env} {R : Room} {s : State} {m : MethodId} {args : Array Value} {below : List Frame} {meth : Method} {c : Code} {H : Heap} {locs : List Loc} {cells slots : Nat} {Q : State → Prop}
variable {cc : ByteArray} {pc : Nat} {ls : Array Slot} {rest : List Value} {D : va_G} {cl : List vw_C} {A : Nat → Prop} {a : Nat} {tys : List (ClassId × FieldType)} {ws : va_W} {H0 : Heap}
theorem va_mnaX {X : va_W} {L : List Nat} {f : Nat → va_E} {cc : ByteArray} (hexec : p.tables.exec = Jvm.exec) (hb : c.code = cc) {own : String} {index : Nat} {ty : FieldType} {cy : ClassId} (hown : s.vm.findClass own = some m.cls) (hclink : (Cond.classLink own index ("[" ++ (FieldType.array ty).toString)).before args s = true) (hover : (Cond.arrayOver (FieldType.array ty)).before args s = true) (harr : (Cond.arrayClass ty).before args s = true) (hcy : s.vm.findClass (FieldType.array ty).toString = some cy)
    (hK : va_K D cl tys s) (hP : va_P D cl (X ++ va_pl L f) H) (hD : va_D A (X ++ va_pl L f)) (hS : va_S A H0 H locs) (hA : ∀ q, H0.size ≤ q → A q) {n k : Int32} {N' K' : Nat} {z : vp_A} (hn : ¬ n < 0) (hk : ¬ k < 0) (hN : n.toNatClampNeg = N') (hM : k.toNatClampNeg = K')
    (hb1 : N' * 4 ≤ 536870912) (hb2 : K' * componentBytes ty ≤ 536870912) (hb3 : K' ≤ 536870912) (hdf : fits ty (defaultValue ty) = true) (hdd : (defaultValue ty).isDefault = true) (hcells : cells + (1 + N') ≤ R.cells) (hslots : slots + (N' + N' * K') ≤ R.slots) (hz : ∀ c : ClassId, Jvm.Free.Multi.innerC c K' (defaultValue ty) = vp_cell c z) (hdg : decode cc pc = .ok (.multianewarray index 2, 4))
    (kk : ∀ (q : Nat) (r : Nat → Nat) (cA : ClassId) (H1 : Heap), q = H.size → (∀ i : Nat, r i = H.size + 1 + i) → (∀ x : Nat, x < H.size → H1[x]? = H[x]?) → H1[H.size]? = some (vp_cell cA (N', .inr (.inr (.inr (.inr (fun i => if i < N' then some (H.size + 1 + i) else none)))))) → (∀ j : Nat, j < N' → H1[H.size + 1 + j]? = some (vp_cell cy z)) → s.vm.findClass ("[" ++ (FieldType.array ty).toString) = some cA → (∀ i j : Nat, i < N' → j < N' → r i = r j → i = j) → (∀ i : Nat, i < N' → r i ∉ L) → va_K D cl (tys ++ [(cA, .array ty)]) s →
      va_P D cl ((X ++ [(q, .inl (cA, N', .inr (.inr (.inr (.inr (fun i => if i < N' then some (r i) else none))))))]) ++ va_pl (L ++ (List.range N').map r) (vr_up f ((List.range N').map r) (.inl (cy, z)))) H1 → va_D A ((X ++ [(q, .inl (cA, N', .inr (.inr (.inr (.inr (fun i => if i < N' then some (r i) else none))))))]) ++ va_pl (L ++ (List.range N').map r) (vr_up f ((List.range N').map r) (.inl (cy, z)))) → va_S A H0 H1 locs →
      W p l e R s m args below meth c H1 locs (cells + 1 + N') (slots + N' + N' * K') Q (F0 m (pc + 4) ls (.ref q :: rest))) : W p l e R s m args below meth c H locs cells slots Q (F0 m pc ls (.int k :: .int n :: rest)) := by
  subst hN
  subst hM
  intro T hT Xs
  obtain ⟨vm₁, cA, comp, -, fA, fC, hO, -, X', step⟩ := Xs.multianewarray2F hexec hown hclink hover harr (g := F0 m pc ls (.int k :: .int n :: rest)) rfl (by rw [hb]; exact hdg) rfl hn hk hb1 hb2 hb3 hdf hdd hcells hslots
  have ec : some cy = some comp := hcy.symm.trans fC
  cases ec
  generalize hF : Jvm.Free.Multi.fill (T.setVm vm₁) cA cy n.toNatClampNeg k.toNatClampNeg (defaultValue ty) n.toNatClampNeg = F at X' step
  have hTh : (T.setVm vm₁).heap = H := hT
  obtain ⟨f1, f2, -, -⟩ := Jvm.Free.Multi.fill_facts (T.setVm vm₁) cA cy n.toNatClampNeg k.toNatClampNeg (defaultValue ty) n.toNatClampNeg
  rw [hF, hTh] at f1 f2
  have hold : ∀ x : Nat, x < H.size → F.heap[x]? = H[x]? := fun x hx => by
    have := Jvm.Free.Multi.fill_old (T.setVm vm₁) cA cy n.toNatClampNeg k.toNatClampNeg (defaultValue ty) (a := x) (by rw [hTh]; exact hx) n.toNatClampNeg
    rw [hF, hTh] at this
    exact this
  have hrow : ∀ j : Nat, j < n.toNatClampNeg → F.heap[H.size + 1 + j]? = some (vp_cell cy z) := fun j hj => by
    have := Jvm.Free.Multi.fill_inner (T.setVm vm₁) cA cy n.toNatClampNeg k.toNatClampNeg (defaultValue ty) n.toNatClampNeg j hj
    rw [hF, hTh, hz] at this
    exact this
  have hout : Jvm.Free.Multi.outerC cA n.toNatClampNeg H.size n.toNatClampNeg = vp_cell cA (n.toNatClampNeg, .inr (.inr (.inr (.inr (fun i => if i < n.toNatClampNeg then some (H.size + 1 + i) else none))))) := by
    rw [vp_cell_q]
    exact vr_outer cA n.toNatClampNeg H.size n.toNatClampNeg
  rw [hout] at f2
  have hlt : ∀ a, a ∈ L → a < H.size := fun a ha => by
    obtain ⟨k9, hk9⟩ := va_pl_get (X := X) (f := f) ha
    exact (hP k9 _ hk9).lt
  have hnl : ∀ i : Nat, i < n.toNatClampNeg → H.size + 1 + i ∉ L := fun i _ h => by
    have := hlt _ h
    omega
  have hnm : ∀ a, a ∈ (List.range n.toNatClampNeg).map (fun i => H.size + 1 + i) → a ∉ L := fun a ha h => by
    obtain ⟨i, -, rfl⟩ := List.mem_map.mp ha
    have := hlt _ h
    omega
  have hP0 : va_P D cl (X ++ va_pl L f) F.heap := hP.kept (fun k9 x hx => hold x.1 ((hP k9 x hx).lt))
  have hP1 : va_P D cl ((X ++ va_pl L f) ++ [(H.size, .inl (cA, n.toNatClampNeg, .inr (.inr (.inr (.inr (fun i => if i < n.toNatClampNeg then some (H.size + 1 + i) else none))))))]) F.heap := hP0.app (fun k9 x hx => by
    have h0 : k9 < 1 := (List.getElem?_eq_some_iff.mp hx).1
    rw [show k9 = 0 by omega] at hx
    cases hx
    exact f2)
  have hP2 : va_P D cl (((X ++ va_pl L f) ++ [(H.size, .inl (cA, n.toNatClampNeg, .inr (.inr (.inr (.inr (fun i => if i < n.toNatClampNeg then some (H.size + 1 + i) else none))))))]) ++ ((List.range n.toNatClampNeg).map (fun i => H.size + 1 + i)).map (fun a => (a, .inl (cy, z)))) F.heap := hP1.app (fun k9 x hx => by
    obtain ⟨a, ha, rfl⟩ := List.mem_map.mp (List.mem_of_getElem? hx)
    obtain ⟨i, hi, rfl⟩ := List.mem_map.mp ha
    exact hrow i (List.mem_range.mp hi))
  have hD2 : va_D A (((X ++ va_pl L f) ++ [(H.size, .inl (cA, n.toNatClampNeg, .inr (.inr (.inr (.inr (fun i => if i < n.toNatClampNeg then some (H.size + 1 + i) else none))))))]) ++ ((List.range n.toNatClampNeg).map (fun i => H.size + 1 + i)).map (fun a => (a, .inl (cy, z)))) := by
    have hD1 := hD.push (e := .inl (cA, n.toNatClampNeg, .inr (.inr (.inr (.inr (fun i => if i < n.toNatClampNeg then some (H.size + 1 + i) else none)))))) hP rfl (hA _ hS.1)
    generalize hW1 : (X ++ va_pl L f) ++ [(H.size, .inl (cA, n.toNatClampNeg, .inr (.inr (.inr (.inr (fun i => if i < n.toNatClampNeg then some (H.size + 1 + i) else none))))))] = W1 at hD1 hP1 ⊢
    have hle : ∀ (k9 : Nat) (x : Nat × va_E), W1[k9]? = some x → x.1 ≤ H.size := fun k9 x hx => by
      rw [← hW1] at hx
      by_cases hl : k9 < (X ++ va_pl L f).length
      · rw [List.getElem?_append_left hl] at hx
        exact Nat.le_of_lt ((hP k9 x hx).lt)
      · rw [List.getElem?_append_right (by omega)] at hx
        have h0 : k9 - (X ++ va_pl L f).length < 1 := (List.getElem?_eq_some_iff.mp hx).1
        rw [show k9 - (X ++ va_pl L f).length = 0 by omega] at hx
        cases hx
        exact Nat.le_refl _
    have hr : ∀ (k9 : Nat) (x : Nat × va_E), (((List.range n.toNatClampNeg).map (fun i => H.size + 1 + i)).map (fun a => ((a, .inl (cy, z)) : Nat × va_E)))[k9]? = some x → x.1 = H.size + 1 + k9 := fun k9 x hx => by
      rw [List.getElem?_map, List.getElem?_map] at hx
      by_cases h9 : k9 < n.toNatClampNeg
      · rw [List.getElem?_range h9] at hx
        cases hx
        rfl
      · have hn0 : (List.range n.toNatClampNeg)[k9]? = none := List.getElem?_eq_none (by rw [List.length_range]; omega)
        rw [hn0] at hx
        cases hx
    refine ⟨fun i j x y hi hj hxy => ?_, fun k9 x hx => ?_⟩
    · by_cases h1 : i < W1.length <;> by_cases h2 : j < W1.length
      · rw [List.getElem?_append_left h1] at hi
        rw [List.getElem?_append_left h2] at hj
        exact hD1.1 i j x y hi hj hxy
      · rw [List.getElem?_append_left h1] at hi
        rw [List.getElem?_append_right (by omega)] at hj
        have := hle _ _ hi
        have := hr _ _ hj
        omega
      · rw [List.getElem?_append_right (by omega)] at hi
        rw [List.getElem?_append_left h2] at hj
        have := hle _ _ hj
        have := hr _ _ hi
        omega
      · rw [List.getElem?_append_right (by omega)] at hi hj
        have := hr _ _ hi
        have := hr _ _ hj
        omega
    · by_cases h1 : k9 < W1.length
      · rw [List.getElem?_append_left h1] at hx
        exact hD1.2 k9 x hx
      · rw [List.getElem?_append_right (by omega)] at hx
        have := hr _ _ hx
        exact hA _ (by have := hS.1; omega)
  have hAr : ArrOfT s cA (.array ty) := fun N9 z9 => by
    obtain ⟨-, k9, hk9, cm9, hkk9⟩ := (hO 0 0 0).1
    exact ⟨(fun q hq => by cases hq), k9, hk9, cm9, hkk9⟩
  have hK2 : va_K D cl (tys ++ [(cA, .array ty)]) s := ⟨hK.1, fun k9 x hx => by
    by_cases hl : k9 < tys.length
    · rw [List.getElem?_append_left hl] at hx
      exact hK.2 k9 x hx
    · rw [List.getElem?_append_right (by omega)] at hx
      have h0 : k9 - tys.length < 1 := (List.getElem?_eq_some_iff.mp hx).1
      rw [show k9 - tys.length = 0 by omega] at hx
      cases hx
      exact ⟨hAr, fA⟩⟩
  obtain ⟨t, a1, b1⟩ := kk H.size (fun i => H.size + 1 + i) cA F.heap rfl (fun _ => rfl) hold f2 hrow fA (fun i j _ _ h => by have h9 : H.size + 1 + i = H.size + 1 + j := h; omega) hnl hK2 (by rw [← vr_rows hnm]; exact vr_lay hP2) (by rw [← vr_rows hnm]; exact vr_layD hD2) ⟨by rw [f1]; have := hS.1; omega, fun x h1 h2 => (hold x (Nat.lt_of_lt_of_le h1 hS.1)).trans (hS.2.1 x h1 h2), hS.2.2⟩ F rfl X'
  refine ⟨t, step t ?_, b1⟩
  have e : T.heap.size = H.size := by rw [hT]
  rw [e]
  exact a1
end VGM
/-! ===== END ===== -/

def putL (rs : List (Option Nat)) (k j : Nat) : List (Option Nat) := (rs ++ List.replicate (k + 1 - rs.length) none).set k (some j)
theorem putL_get (rs : List (Option Nat)) (k j k' : Nat) : (putL rs k j).getD k' none = if k' = k then some j else rs.getD k' none := by
  unfold putL
  by_cases h : k' = k
  · subst h
    rw [if_pos rfl, List.getD, List.getElem?_set_self (by simp; omega)]
    rfl
  · rw [if_neg h, List.getD, List.getD, List.getElem?_set_ne (Ne.symm h)]
    by_cases hl : k' < rs.length
    · rw [List.getElem?_append_left hl]
    · rw [List.getElem?_append_right (by omega), List.getElem?_eq_none (l := rs) (by omega)]
      by_cases hr : k' - rs.length < k + 1 - rs.length
      · rw [List.getElem?_replicate, if_pos hr]
        rfl
      · rw [List.getElem?_replicate, if_neg hr]
def ptR (cs : List RC) (ci i k j : Nat) : Option (List RC) := match cs[i]? with
  | some (.inr (.inl (c, rs))) => if c = ci then some (cs.set i (.inr (.inl (c, putL rs k j)))) else none
  | _ => none
theorem ptR_n {cs cs' : List RC} {ci i k j : Nat} (h : ptR cs ci i k j = some cs') : ∃ rs, cs[i]? = some (.inr (.inl (ci, rs))) ∧ cs' = cs.set i (.inr (.inl (ci, putL rs k j))) ∧ i < cs.length ∧ cs'.length = cs.length := by
  unfold ptR at h
  split at h
  · rename_i c rs hs
    split at h
    · rename_i hc
      subst hc
      have e := (Option.some.inj h).symm
      exact ⟨rs, hs, e, (List.getElem?_eq_some_iff.mp hs).1, by rw [e, List.length_set]⟩
    · cases h
  · cases h
/-- an object's number into an array of references -/
def stR (cs : List RC) (i : Nat) (x : Int32) (j : Nat) : Option (List RC) := match cs[i]?, cs[j]? with
  | some (.inr (.inr (t, n, rs))), some (.inr (.inl (ci, _))) => if (t = 0 ∧ ci = 2 ∨ t = 1 ∧ ci = 3) ∧ ¬ (x < 0 ∨ n ≤ x.toNatClampNeg) then some (cs.set i (.inr (.inr (t, n, putL rs x.toNatClampNeg j)))) else none
  | _, _ => none
theorem stR_n {cs cs' : List RC} {i j : Nat} {x : Int32} (h : stR cs i x j = some cs') : ∃ t n rs ci rj, cs[i]? = some (.inr (.inr (t, n, rs))) ∧ cs[j]? = some (.inr (.inl (ci, rj))) ∧ (t = 0 ∧ ci = 2 ∨ t = 1 ∧ ci = 3) ∧ vp_in x n ∧ cs' = cs.set i (.inr (.inr (t, n, putL rs x.toNatClampNeg j))) ∧ i < cs.length ∧ cs'.length = cs.length := by
  unfold stR at h
  split at h
  · rename_i t n rs ci rj hs hj
    split at h
    · rename_i hc
      have e := (Option.some.inj h).symm
      exact ⟨t, n, rs, ci, rj, hs, hj, hc.1, hc.2, e, (List.getElem?_eq_some_iff.mp hs).1, by rw [e, List.length_set]⟩
    · cases h
  · cases h
theorem flds_setR {ci k : Nat} {r : Nat → Option Nat} {f : Nat → Int32} (hk : k < nF ci) (hr : isRf ci k = true) (a : Nat) : (flds ci r f).set k (.ref a) = flds ci (fun j => if j = k then some a else r j) f := by
  apply List.ext_getElem?
  intro j
  by_cases hj : j = k
  · subst hj
    rw [List.getElem?_set_self (by rw [flds_len]; exact hk), flds_getR hk hr]
    simp [va_rf]
  · rw [List.getElem?_set_ne (Ne.symm hj)]
    by_cases hl : j < nF ci
    · cases hq : isRf ci j with
      | false => rw [flds_get hl hq, flds_get hl hq]
      | true => rw [flds_getR hl hq, flds_getR hl hq]; simp [hj]
    · rw [List.getElem?_eq_none (by rw [flds_len]; omega), List.getElem?_eq_none (by rw [flds_len]; omega)]
/-- the link of a final field that is a reference, in its class's own constructor -/
def FG (own : String) (idx ci k : Nat) : Prop := ∃ (C : String) (T : u_T) (N : Nat) (ty : Nat → FieldType), vwCl[ci]? = some (C, T, N) ∧ nF ci = N ∧ k < N ∧ (∀ w ∈ u_ws C T N, w ∈ BIG) ∧ Cond.fieldLink own idx (T k).1 (T k).2.1 (T k).2.2.1 ∈ BIG ∧ (∀ k, k < N → parseFieldDescriptor (T k).2.2.1 = some (ty k)) ∧ (∀ a, a < N → ∀ b, b < N → a ≠ b → (T a).2.1 ≠ (T b).2.1) ∧ (T k).2.2.2 = true ∧ (T k).1 = own ∧ (∃ t, parseFieldDescriptor (T k).2.2.1 = some t ∧ ∀ a : Nat, narrow t (.ref a) = .ref a ∧ fits t (.ref a) = true)
section GRX
variable {p : Program} {l : Launch} {e : Env} {R : Room} {s : State} {m : MethodId} {args : Array Value} {below : List Frame} {meth : Method} {c : Code} {H : Heap} {locs : List Loc} {cells slots : Nat} {Q : State → Prop}
variable {cc : ByteArray} {pc : Nat} {ls : Array Slot} {rest : List Value} {E : Ev} {own : String} {mm mm' : Mem} {cs cs' : List RC}
theorem am_cnt (X : Cx p s m args c cc own (mkR E cs)) (hS : wS (mkR E cs) s mm H locs) (hcnt : s.heap.size + cells = eB E + cs.length) {T : State} (hT : T.heap = H) (Y : Stand p l e R s m args below meth c T locs cells slots) : H.size = eB E + cs.length := by
  have h1 := Y.heapSize
  rw [hT] at h1
  by_cases h0 : cs.length = 0
  · have h2 := hS.2.1
    have h3 : eB E ≤ s.heap.size := X.2.2.2.2.2.1
    omega
  · have h2 := (hS.1 (cs.length - 1) _ (pl_at E cs (cO (mkR E cs) mm) (by omega))).lt
    have h2 : eB E + (cs.length - 1) < H.size := h2
    omega
theorem am_at {i : Nat} {x : RC} (hi : cs[i]? = some x) : eS (mkR E cs) (eB E + i) = some (shf (eB E) x) := by
  show shL (eB E) cs (eB E + i) = _
  rw [shL_at, hi]
  rfl
theorem am_ptR {idx ci i k j : Nat} (X : Cx p s m args c cc own (mkR E cs)) (hS : wS (mkR E cs) s mm H locs) (hF : FG own idx ci k) (hr : isRf ci k = true) (hin2 : meth.name = "<init>") (hv : ptR cs ci i k j = some cs') (hdg : decode cc pc = .ok (.putfield idx, 3)) (kk : ∀ (H : Heap) (locs : List Loc), wS (mkR E cs') s mm H locs → W p l e R s m args below meth c H locs cells slots Q (F0 m (pc + 3) ls rest)) : W p l e R s m args below meth c H locs cells slots Q (F0 m pc ls (.ref (eB E + j) :: .ref (eB E + i) :: rest)) := by
  obtain ⟨rs, hs, rfl, hi, hlen⟩ := ptR_n hv
  have hat := am_at (E := E) hs
  obtain ⟨hx, hb, hts, hown, hV, hO⟩ := X
  obtain ⟨C, T, N, ty, hc, hN, hk, hin, hlk, hty, hnm, hfin, hdecl, t9, hd, hnf⟩ := hF
  have hq := pl_at E cs (cO (mkR E cs) mm) hi
  rw [cO_o mm hat] at hq
  refine va_putF hx hb hts hin ty hty hnm hown hV.1 hS.1 (hV.2.1.D _) hS.2 i hq hc k hk (hts _ hlk) (fun _ h => h) hfin hin2 hdecl hd (hnf _).1 (hnf _).2 (by rw [flds_len, hN]; exact hk) hdg (fun H1 locs1 h1 _ h3 => kk H1 locs1 ⟨wP_set hlen hi (fun j hj => List.getElem?_set_ne (Ne.symm hj)) ?_ h1, h3⟩)
  rw [cO_o mm (am_at (E := E) (List.getElem?_set_self hi)), flds_setR (by rw [hN]; exact hk) hr]
  congr 3
  funext k'
  rw [putL_get]
  by_cases hk' : k' = k
  · simp [hk']
  · simp [hk']
theorem am_stR {i j : Nat} {x : Int32} (X : Cx p s m args c cc own (mkR E cs)) (hS : wS (mkR E cs) s mm H locs) (hv : stR cs i x j = some cs') (hdg : decode cc pc = .ok (.aastore, 1)) (kk : ∀ (H : Heap) (locs : List Loc), wS (mkR E cs') s mm H locs → W p l e R s m args below meth c H locs cells slots Q (F0 m (pc + 1) ls rest)) : W p l e R s m args below meth c H locs cells slots Q (F0 m pc ls (.ref (eB E + j) :: .int x :: .ref (eB E + i) :: rest)) := by
  obtain ⟨t, n, rs, ci, rj, hs, hj, htc, hvin, rfl, hi, hlen⟩ := stR_n hv
  have hat := am_at (E := E) hs
  have haj := am_at (E := E) hj
  have ht3 : t < 3 := by omega
  obtain ⟨hx, hb, hts, hown, hV, hO⟩ := X
  have hq := pl_at E cs (cO (mkR E cs) mm) hi
  rw [cO_r mm hat ht3] at hq
  have hqj := pl_at E cs (cO (mkR E cs) mm) ((List.getElem?_eq_some_iff.mp hj).1)
  rw [cO_o mm haj] at hqj
  have key : ∀ (H1 : Heap) (locs1 : List Loc), va_P (eD E) vwCl ((va_pl (List.range' (eB E) cs.length) (cO (mkR E cs) mm)).set i (eB E + i, .inl (eT E t, n, .inr (.inr (.inr (.inr (va_up (fun k => (rs.getD k none).map (fun j => eB E + j)) x.toNatClampNeg (some (eB E + j))))))))) H1 → va_D (eA E) ((va_pl (List.range' (eB E) cs.length) (cO (mkR E cs) mm)).set i (eB E + i, .inl (eT E t, n, .inr (.inr (.inr (.inr (va_up (fun k => (rs.getD k none).map (fun j => eB E + j)) x.toNatClampNeg (some (eB E + j))))))))) → va_S (eA E) s.heap H1 locs1 → W p l e R s m args below meth c H1 locs1 cells slots Q (F0 m (pc + 1) ls rest) := by
    intro H1 locs1 h1 _ h3
    refine kk H1 locs1 ⟨wP_set hlen hi (fun j hj => List.getElem?_set_ne (Ne.symm hj)) ?_ h1, h3⟩
    have hfun : (fun k => ((putL rs x.toNatClampNeg j).getD k none).map (fun j => eB E + j)) = va_up (fun k => (rs.getD k none).map (fun j => eB E + j)) x.toNatClampNeg (some (eB E + j)) := by
      funext k'
      rw [putL_get]
      by_cases hk' : k' = x.toNatClampNeg
      · simp [hk', va_up]
      · simp [hk', va_up]
    rw [cO_r mm (am_at (E := E) (List.getElem?_set_self hi)) ht3]
    exact congrArg (fun g => (Sum.inl (eT E t, n, Sum.inr (Sum.inr (Sum.inr (Sum.inr g)))) : va_E)) hfun
  rcases htc with ⟨rfl, rfl⟩ | ⟨rfl, rfl⟩
  · exact va_astq hx hb hV.1 hS.1 (hV.2.1.D _) hS.2 i 1 j 2 (r := (RX2, TX2, 6)) hq rfl hqj rfl hvin hdg key
  · exact va_astq hx hb hV.1 hS.1 (hV.2.1.D _) hS.2 i 2 j 3 (r := (RX3, TX3, 2)) hq rfl hqj rfl hvin hdg key
/-- what a constructor begins and ends with -/
def WR (E : Ev) (cs : List RC) (mm : Mem) (U : State) : Prop := WB (mkR E cs) mm U ∧ Zr E cs mm ∧ U.heap.size = eB E + cs.length
def QR (E : Ev) (cs : List RC) (mm : Mem) (t : State) : Prop := PB (mkR E cs) mm t ∧ Zr E cs mm
theorem blindR (E : Ev) (cs : List RC) (mm : Mem) (As : List Value) : FrameBlind (va_Pc As (WR E cs mm)) := fun a U g mk q => ⟨q.1, ⟨q.2.1.1, q.2.1.2.1, wV.same (s := U) (U := U.calling g mk a) rfl q.2.1.2.2⟩, q.2.2⟩
end GRX
def CtN (l : Launch) (y : MethodName) (cc : ByteArray) (nL fr lo mc ms : Nat) (E : Ev) (As : List Value) (cs : List RC) (mm : Mem) (cs' : List RC) (mm' : Mem) : Prop := Met l y (Cond.code y cc nL none :: BIG) { frames := fr, cells := mc, slots := ms, locals := lo } (va_Pc As (WR E cs mm)) (va_Qv (fun (_ : Unit) => True) (fun _ t => QR E cs' mm' t) (eA E)) mc ms (eA E)
def MI (own : String) (idx : Nat) (y : MethodName) (bytes : ByteArray) (nL n : Nat) : Prop := Cond.methodLink own idx y ∈ BIG ∧ Cond.instanceMethod y ∈ BIG ∧ Cond.initialized y.cls ∈ BIG ∧ Cond.code y bytes nL none ∈ BIG ∧ y.name = "<init>" ∧ y.cls ≠ "java/lang/invoke/MethodHandle" ∧ y.cls ≠ "java/lang/invoke/VarHandle" ∧ (parseMethodDescriptor y.desc).map (fun d => d.parameters.length) = some n
section GRC
variable {p : Program} {l : Launch} {e : Env} {R : Room} {s : State} {m : MethodId} {args : Array Value} {below : List Frame} {meth : Method} {c : Code} {H : Heap} {locs : List Loc} {cells slots : Nat} {Q : State → Prop}
variable {cc : ByteArray} {pc : Nat} {ls : Array Slot} {rest st0 As : List Value} {E : Ev} {own : String} {mm mm' : Mem} {cs cs' : List RC}
theorem am_cN {y : MethodName} {bytes : ByteArray} {nLc fr lo mc ms n idx i : Nat} (X : Cx p s m args c cc own (mkR E cs)) (hml : c.maxLocals = ls.size) (hS : wS (mkR E cs) s mm H locs) (hz : Zr E cs mm) (hcnt : s.heap.size + cells = eB E + cs.length) (hM : CtN l y bytes nLc fr lo mc ms E (.ref (eB E + i) :: As) cs mm cs' mm') (hL : MI own idx y bytes nLc n) (hR : fr + 1 ≤ R.frames ∧ 8 + (nLc + 11) + lo ≤ R.locals) (hcs : cells + mc ≤ R.cells ∧ slots + ms ≤ R.slots) (hn : As.length = n) (hst : st0 = As.reverse ++ .ref (eB E + i) :: rest) (hW : (rest.map fun v => v.category).sum ≤ 8) (hdg : decode cc pc = .ok (.invokespecial idx, 3)) (kk : ∀ (H : Heap) (locs : List Loc), wS (mkR E cs') s mm' H locs → Zr E cs' mm' → W p l e R s m args below meth c H locs (cells + mc) (slots + ms) Q (F0 m (pc + 3) ls rest)) : W p l e R s m args below meth c H locs cells slots Q (F0 m pc ls st0) := by
  intro T hT Y
  have hsz := am_cnt X hS hcnt hT Y
  have hpre := am_pre X hS (.ref (eB E + i) :: As)
  obtain ⟨hx, hbb, hts, hown, hV, hO⟩ := X
  obtain ⟨h1, h2, h4, h5, h9, h6, h7, h8⟩ := hL
  refine va_callv (va_runI (Ts := BIG) ⟨hx, hbb, hml, hown, hts⟩ hM ⟨callB_of n hts (goodC h5) rfl rfl rfl (hts _ h4) (hts _ h1) ⟨h6, h7, h8⟩ hR, h9, hts _ h2⟩ ⟨blindR E cs mm _, fun U hU hWm => ⟨rfl, (hpre U hU hWm).2, hz, by rw [hU]; exact hsz⟩⟩ rfl hn rfl hst (lv_room hW) hdg hcs) hS.2 (fun _ _ h => h) (fun _ h => h) (fun u t H1 locs1 ht hvm hp hB hz1 hk1 hS1 => ?_) T hT Y
  subst ht
  exact kk _ locs1 ⟨hB.1.1, hS1⟩ hB.2
theorem am_inN {y : MethodName} {nL : Nat} {rm : Room} {s₁ : State} (B : BodyLoose p l y (headSpec (Cond.code y cc nL none :: BIG) rm) cc nL none e s m args below meth c s₁) (hv : va_Pc As (WR E cs mm) args s) (hy : y.name = "<init>") : args = As.toArray ∧ Cx p s m args c cc y.cls (mkR E cs) ∧ wS (mkR E cs) s mm s.heap [] ∧ meth.sig.returnType = none ∧ meth.locks = false ∧ meth.name = "<init>" ∧ Zr E cs mm ∧ s.heap.size = eB E + cs.length := by
  obtain ⟨h0, hW, hz, hsz⟩ := hv
  obtain ⟨a1, a2, a3, a4, a5⟩ := am_in (E := mkR E cs) (As := As) B ⟨h0, hW⟩
  exact ⟨a1, a2, a3, a4, a5, (name_of_methodNamed B.named B.method).1.trans hy, hz, hsz⟩
theorem am_rvN (X : Cx p s m args c cc own (mkR E cs)) (hS : wS (mkR E cs) s mm H locs) (hz : Zr E cs mm) (hr : meth.sig.returnType = none) (hdg : decode cc pc = .ok (.return_, 1)) (hlocks : meth.locks = false) : W p l e R s m args below meth c H locs cells slots (MQ below (va_Qv (fun (_ : Unit) => True) (fun _ t => QR E cs mm t) (eA E)) args s cells slots (eA E)) (F0 m pc ls []) :=
  W.vret X.1 X.2.1 hr (fun _ ht _ => ⟨⟨(), rfl, trivial, am_pb X hS ht, hz⟩, hS.2.F ht⟩) hS.2.2.2 hdg hlocks
theorem am_obj {idx a : Nat} (X : Cx p s m args c cc own (mkR E cs)) (hml : c.maxLocals = ls.size) (hl : Cond.methodLink own idx Lib.objectInit ∈ BIG) (hi : Cond.instanceMethod Lib.objectInit ∈ BIG) (hco : Cond.code Lib.objectInit ⟨#[0xb1]⟩ 1 none ∈ BIG) (hdg : decode cc pc = .ok (.invokespecial idx, 3)) (hframes : 1 ≤ R.frames) (hlocals : (rest.map fun v => v.category).sum + 12 ≤ R.locals) (kk : W p l e R s m args below meth c H locs cells slots Q (F0 m (pc + 3) ls rest)) : W p l e R s m args below meth c H locs cells slots Q (F0 m pc ls (.ref a :: rest)) := by
  refine W.objInit X.1 X.2.1 X.2.2.2.1 (X.2.2.1 _ hl) (X.2.2.1 _ hi) (X.2.2.1 _ hco) (g := F0 m pc ls (.ref a :: rest)) rfl hml.symm rfl hdg hframes (by show 2 * 0 + _ + 12 ≤ _; omega) ?_
  exact kk
end GRC
