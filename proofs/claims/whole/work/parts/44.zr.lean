theorem Zr.aS {E : Ev} {cs : List RC} {mm m1 : Mem} {a : Nat} {i v : Int32} (h : Zr E cs mm) (hv : aS (shL (eB E) cs) mm a i v = some m1) : Zr E cs m1 := by
  obtain ⟨n, hs, _, rfl⟩ := aS_spec hv
  obtain ⟨i2, hi, he⟩ := shL_some hs
  intro b j hb
  have hne : b ≠ a := by omega
  rw [up2_ne _ _ _ hne]
  exact h b j hb
theorem Zr.wI {E : Ev} {cs : List RC} {mm m1 : Mem} {ci a k : Nat} {v : Int32} (h : Zr E cs mm) (hv : wI (shL (eB E) cs) mm ci a k v = some m1) : Zr E cs m1 := by
  obtain ⟨r, hs, rfl⟩ := wI_spec hv
  obtain ⟨i2, hi, he⟩ := shL_some hs
  intro b j hb
  have hne : b ≠ a := by omega
  rw [up2_ne _ _ _ hne]
  exact h b j hb
theorem kX4_zr {E : Ev} (x0 : Nat) (cs cs' : List RC) (mm mm' : Mem) (hz : Zr E cs mm) (hf : kX4_init (eB E) x0 cs mm = some (cs', mm')) : Zr E cs' mm' := by
  unfold kX4_init at hf
  obtain ⟨c1, e1⟩ : ∃ z, z = cs ++ [(.inl 151 : RC)] := ⟨_, rfl⟩
  have hf := lt1_n e1 hf
  have n1 : c1.length = cs.length + 1 := by rw [e1]; simp
  obtain ⟨c2, h1, hf⟩ := bs hf
  have n2 := ptR_len h1
  obtain ⟨c3, e3⟩ : ∃ z, z = c2 ++ [(.inl 151 : RC)] := ⟨_, rfl⟩
  have hf := lt1_n e3 hf
  have n3 : c3.length = c2.length + 1 := by rw [e3]; simp
  obtain ⟨c4, h3, hf⟩ := bs hf
  have n4 := ptR_len h3
  obtain ⟨u0, h0, hf⟩ := bs hf
  obtain ⟨m5, h5, hf⟩ := bs hf
  cases hf
  have hz : Zr E cs' mm := hz.le (by omega)
  unfold fX4_becomePlain at h5
  obtain ⟨a1, g1, h5⟩ := bs h5
  obtain ⟨m2, g2, h5⟩ := bs h5
  obtain ⟨a3, g3, h5⟩ := bs h5
  obtain ⟨m4, g4, h5⟩ := bs h5
  obtain ⟨a5, g5, h5⟩ := bs h5
  obtain ⟨m6, g6, h5⟩ := bs h5
  obtain ⟨a7, g7, h5⟩ := bs h5
  obtain ⟨m8, g8, h5⟩ := bs h5
  obtain ⟨a9, g9, h5⟩ := bs h5
  obtain ⟨m10, g10, h5⟩ := bs h5
  obtain ⟨m11, g11, h5⟩ := bs h5
  cases h5
  exact (((((hz.aS g2).aS g4).aS g6).aS g8).aS g10).wI g11
