/-! the class: what a trace tells of itself -/
def tSum (T : tT) (y : Int32) : Int32 := if y = nI 0 then nI T.n else if y = nI 1 then T.why else if y = nI 2 then T.whyGate else if y = nI 3 then T.mended else if y = nI 4 then T.again else if y = nI 5 then T.deep else -1
theorem sp_tSum {d c s b n : Nat} {y : Int32} {T : tT} {I : zI} {L : zL} {P : zP} {S : zS} {top : Nat} {Q : Option zV → zM → Prop} (h : cTr I P S b n T) (k : Q (some (zi (tSum T y))) (I, L, zpj P, zsj S, top)) : Ev d c s 109 0 [some (zr (some (3, n, 0))), some (zi y)] [] (I, L, zpj P, zsj S, top) Q := by
  obtain ⟨h30, n1, n2, n3, n4, _, sn, _, _, z0, _, _, z5, z6, z7, z8, z9⟩ := h
  unfold tSum at k
  rw [← z5, ← z6, ← z7, ← z8, ← z9] at k
  refine g109_0 sn z0 (fun e0 => ?_) (fun e0 e1 => ?_) (fun e0 e1 e2 => ?_) (fun e0 e1 e2 e3 => ?_) (fun e0 e1 e2 e3 e4 => ?_) (fun e0 e1 e2 e3 e4 e5 => ?_) (fun e0 e1 e2 e3 e4 e5 => ?_)
  · rw [if_pos e0] at k; exact k
  · rw [if_neg e0, if_pos e1] at k; exact k
  · rw [if_neg e0, if_neg e1, if_pos e2] at k; exact k
  · rw [if_neg e0, if_neg e1, if_neg e2, if_pos e3] at k; exact k
  · rw [if_neg e0, if_neg e1, if_neg e2, if_neg e3, if_pos e4] at k; exact k
  · rw [if_neg e0, if_neg e1, if_neg e2, if_neg e3, if_neg e4, if_pos e5] at k; exact k
  · rw [if_neg e0, if_neg e1, if_neg e2, if_neg e3, if_neg e4, if_neg e5] at k; exact k
theorem aAlone_c (σ : zSt) {t : Nat} (ht : t < 4) (y : Int32) : aAlone σ (nI t) y = tSum (tTr σ.w t) y := by
  unfold aAlone
  rw [aIx_some ht (by decide)]
  rfl
