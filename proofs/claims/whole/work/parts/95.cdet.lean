/-! the class: what a trace tells of a step -/
def tDet (T : tT) (z y : Int32) : Int32 := match aIx z T.n with
  | none => -1
  | some j => if y = nI 0 then T.kind j else if y = nI 1 then T.gate j else if y = nI 2 then T.add j + nI 10 else -1
theorem sp_tDet {d c s b n : Nat} {z y : Int32} {T : tT} {I : zI} {L : zL} {P : zP} {S : zS} {top : Nat} {Q : Option zV → zM → Prop} (h : cTr I P S b n T) (k : Q (some (zi (tDet T z y))) (I, L, zpj P, zsj S, top)) : Ev (d + 1) c s 110 0 [some (zr (some (3, n, 0))), some (zi z), some (zi y)] [] (I, L, zpj P, zsj S, top) Q := by
  obtain ⟨h30, n1, n2, n3, n4, _, sn, ⟨p1, p2, p3, p4⟩, ⟨s1, s2, s3, s4⟩, z0, r, _⟩ := h
  unfold tDet at k
  have inn : 0 ≤ z → z < nI T.n → ∃ j, j < T.n ∧ z = nI j ∧ aIx z T.n = some j := fun q1 q2 => aIx_ex (aIx_in (by omega) q1 q2)
  refine g110_0 p1 p2 p3 p4 s1 s2 s3 s4 (by omega) sn z0 (fun q => ?_) (fun _ q => ?_) (fun q1 q2 _ => ?_) (fun q1 q2 e0 => ?_) (fun q1 q2 _ _ => ?_) (fun q1 q2 e0 e1 => ?_) (fun q1 q2 _ _ _ => ?_) (fun q1 q2 e0 e1 e2 => ?_) (fun q1 q2 e0 e1 e2 => ?_)
  · rw [aIx_neg q] at k; exact k
  · rw [aIx_ge (by omega) q] at k; exact k
  · obtain ⟨j, hj, rfl, _⟩ := inn q1 q2
    exact zvin hj (by omega)
  · obtain ⟨j, hj, rfl, e⟩ := inn q1 q2
    rw [e] at k
    simp only [] at k
    rw [if_pos e0] at k
    rw [nI_clamp (by omega), (r j hj).1]
    exact k
  · obtain ⟨j, hj, rfl, _⟩ := inn q1 q2
    exact zvin hj (by omega)
  · obtain ⟨j, hj, rfl, e⟩ := inn q1 q2
    rw [e] at k
    simp only [] at k
    rw [if_neg e0, if_pos e1] at k
    rw [nI_clamp (by omega), (r j hj).2.1]
    exact k
  · obtain ⟨j, hj, rfl, _⟩ := inn q1 q2
    exact zvin hj (by omega)
  · obtain ⟨j, hj, rfl, e⟩ := inn q1 q2
    rw [e] at k
    simp only [] at k
    rw [if_neg e0, if_neg e1, if_pos e2] at k
    rw [nI_clamp (by omega), (r j hj).2.2]
    exact k
  · obtain ⟨j, hj, rfl, e⟩ := inn q1 q2
    rw [e] at k
    simp only [] at k
    rw [if_neg e0, if_neg e1, if_neg e2] at k
    exact k
theorem aStep_c (σ : zSt) {t : Nat} (ht : t < 4) (z y : Int32) : aStep σ (nI t) z y = tDet (tTr σ.w t) z y := by
  unfold aStep
  rw [aIx_some ht (by decide)]
  rfl
