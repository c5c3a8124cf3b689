/-! the face's changes: how the whole world moves -/
theorem zFt_bd {L : List Int} {k r : Int} (hL : ∀ x ∈ L, 0 ≤ x ∧ x < 5) (h : zFt L k r) : 0 ≤ r ∧ r < 5 := by
  unfold zFt at h
  subst h
  rw [List.getD_eq_getElem?_getD]
  cases hq : (0 :: L)[k.toNat]? with
  | none => decide
  | some x =>
    have e := List.mem_of_getElem? hq
    rcases List.mem_cons.mp e with z | z
    · rw [z]
      decide
    · exact hL _ z
/-- nothing but the State now and the history is changed -/
def zFr (M F M' F' : zMem) : Prop := ∀ i, ¬(1 ≤ i ∧ i < 32) → ¬(94 ≤ i ∧ i < 375) → M' i = M i ∧ F' i = F i
theorem zFc_1 {zt many : Int} {U : Int → Int → Int} {V : Int → Int} {M F M1 : zMem} (hR : zRS 1 V M F) (hG : zGd zt V) (hH : zHi zt many U M F) (h : zRS (96 + 31 * M 94 1) V M1 F) (ho : zOut (96 + 31 * M 94 1) M F M1 F) :
    zRS 1 V M1 F ∧ zHi zt many U M1 F ∧ zRS (96 + 31 * M1 94 1) V M1 F ∧ zFr M F M1 F := by
  have hn := hH.2.1
  have e94 := (ho 94 (by omega)).1
  refine ⟨zRS_out hR hG.v1 hG.v2 ho (by omega), zHi_prep hH ho, by rw [e94]; exact h, fun i h0 h1 => ho i (by omega)⟩
theorem zFc_2 {zt many : Int} {U : Int → Int → Int} {V : Int → Int} {M F M1 F1 M2 F2 : zMem} (hG : zGd zt V) (hH : zHi zt many U M1 F1) (hP : zRS (96 + 31 * M1 94 1) V M1 F1) (hf : zFr M F M1 F1) (ho : zOut 1 M1 F1 M2 F2) :
    zHi zt many U M2 F2 ∧ zRS (96 + 31 * M2 94 1) V M2 F2 ∧ zFr M F M2 F2 := by
  have hn := hH.2.1
  have e94 := (ho 94 (by omega)).1
  refine ⟨zHi_in hH (fun i h0 h1 => ho i (by omega)), by rw [e94]; exact zRS_out hP hG.v1 hG.v2 ho (by omega), fun i h0 h1 => ?_⟩
  have a := ho i (by omega)
  have b := hf i h0 h1
  exact ⟨a.1.trans b.1, a.2.trans b.2⟩
theorem zFc_3 {zt zw many : Int} {U : Int → Int → Int} {V W' : Int → Int} {M F M2 F2 : zMem} (hG : zGd zt V) (hW : zIV zw W') (hR : zRS 1 W' M2 F2) (hH : zHi zt many U M2 F2) (hP : zRS (96 + 31 * M2 94 1) V M2 F2) (hf : zFr M F M2 F2) :
    zRS 1 W' (zu (zu M2 94 1 (znx (M2 94 1))) 94 2 (zm8 (M2 94 2))) F2 ∧ zHi zt (zm8 many) (fun k => if k = 0 then V else U (k - 1)) (zu (zu M2 94 1 (znx (M2 94 1))) 94 2 (zm8 (M2 94 2))) F2 ∧ zFr M F (zu (zu M2 94 1 (znx (M2 94 1))) 94 2 (zm8 (M2 94 2))) F2 := by
  have er : ∀ i, i ≠ 94 → zu (zu M2 94 1 (znx (M2 94 1))) 94 2 (zm8 (M2 94 2)) i = M2 i := fun i hi => (zu_row hi).trans (zu_row hi)
  refine ⟨zRS_in hR hW.2.1.2 hW.2.2.1.2 (fun i h0 h1 => ⟨er i (by omega), rfl⟩), ?_, fun i h0 h1 => ⟨(er i (by omega)).trans (hf i h0 h1).1, (hf i h0 h1).2⟩⟩
  have q := zHi_keep hH hP hG
  rw [hH.1]
  exact q
