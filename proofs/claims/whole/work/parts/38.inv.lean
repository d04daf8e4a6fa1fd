theorem Inv.adS {T : Nat} {f : St} (I : Inv T f) {g x : Int32} (hg : g = -1 ∨ ∃ v, v ≤ 5 ∧ g = nI v) (hx : x = 0 ∨ x = 1) (h : sl f < 10) : Inv T (addS f g x) := by
  have es : sl (addS f g x) = sl f + 1 := nI_clamp (by omega)
  obtain ⟨a1, a2, a3, a4, a5, a6⟩ := I
  refine ⟨⟨by rw [es]; rfl, by rw [es]; omega⟩, a2, a3, fun s hs => ?_, a5, a6⟩
  have h := a4 s hs
  refine ⟨?_, ?_, ?_⟩
  · show upd (f 3) (sl f) x s = 0 ∨ upd (f 3) (sl f) x s = 1
    rw [upd_eq]
    split
    · exact hx
    · exact h.1
  · show ∃ v, v ≤ 999 ∧ upd (f 2) (sl f) 0 s = nI v
    rw [upd_eq]
    split
    · exact ⟨0, by decide, rfl⟩
    · exact h.2.1
  · show upd (f 1) (sl f) g s = -1 ∨ ∃ v, v ≤ 5 ∧ upd (f 1) (sl f) g s = nI v
    rw [upd_eq]
    split
    · exact hg
    · exact h.2.2
