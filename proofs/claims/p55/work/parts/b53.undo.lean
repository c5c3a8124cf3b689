/-! nine longs beside the class; what an operation leaves to be undone -/
abbrev lcl (g : zG) (lk : Nat) (D : Int → Int) : Nat × va_E := (lk, .inl (g.2.2.1 18, 9, .inr (.inl (fun j => Int64.ofInt (D j)))))
section ZL9
variable {g : zG} {A : Nat → Prop} {p : Program} {l : Launch} {e : Env} {R : Room} {s : State} {m : MethodId} {args : Array Value} {below : List Frame} {meth : Method} {c : Code} {H : Heap} {locs : List Loc} {cells slots : Nat} {Q : State → Prop}
variable {cc : ByteArray} {nL : Nat} {own : String} {pc : Nat} {ls : Array Slot} {rest st0 : List Value} {ad : Int → Nat} {M F : zMem} {X0 : va_W} {lo : Int} {hi : Nat} {lk : Nat} {D : Int → Int}
theorem lcl_r {H0 : Heap} (Wd : zW g A H0 (lo, hi, [lcl g lk D] ++ X0) ad M F H locs) : rW g A H0 (lcl g lk D :: wl g (lo, hi, X0) ad M F) H locs := rW.perm (zW_r Wd) (wl_cons (Y := [lcl g lk D])).symm
theorem lcl_z {H0 : Heap} (hM : zRM M) (Wr : rW g A H0 (lcl g lk D :: wl g (lo, hi, X0) ad M F) H locs) : zW g A H0 (lo, hi, [lcl g lk D] ++ X0) ad M F H locs := r_zW (rW.perm Wr (wl_cons (Y := [lcl g lk D]))) hM
theorem dl_ald {x : Int} (C0 : zC g A p s m args c cc nL own) (Wd : zW g A s.heap (lo, hi, [lcl g lk D] ++ X0) ad M F H locs) (h0 : 0 ≤ x) (h1 : x < 9) (hdg : decode cc pc = .ok (.laload, 1)) (kk : W p l e R s m args below meth c H locs cells slots Q (F0 m (pc + 1) ls (.long (Int64.ofInt (D x)) :: rest))) : W p l e R s m args below meth c H locs cells slots Q (F0 m pc ls (.int (zI x) :: .ref lk :: rest)) := by
  refine va_lald C0.1.1 C0.1.2.1 C0.2.1 (lcl_r Wd).1 0 7 rfl rfl (zI_in h0 h1 (by omega)) hdg ?_
  rw [zI_clamp h0 (by omega), show ((x.toNat : Nat) : Int) = x by omega]
  exact kk
theorem dl_ast {x r : Int} (C0 : zC g A p s m args c cc nL own) (Wd : zW g A s.heap (lo, hi, [lcl g lk D] ++ X0) ad M F H locs) (h0 : 0 ≤ x) (h1 : x < 9) (hdg : decode cc pc = .ok (.lastore, 1)) (kk : ∀ (H1 : Heap) (locs1 : List Loc), zW g A s.heap (lo, hi, [lcl g lk (zup D x r)] ++ X0) ad M F H1 locs1 → W p l e R s m args below meth c H1 locs1 cells slots Q (F0 m (pc + 1) ls rest)) : W p l e R s m args below meth c H locs cells slots Q (F0 m pc ls (.long (Int64.ofInt r) :: .int (zI x) :: .ref lk :: rest)) := by
  have hM := Wd.2
  have Wr := lcl_r Wd
  refine va_last C0.1.1 C0.1.2.1 C0.2.1 Wr.1 Wr.2.1 Wr.2.2 0 7 rfl rfl (zI_in h0 h1 (by omega)) hdg (fun H1 locs1 hP hD hS => ?_)
  have e9 : vp_updL (fun j : Nat => Int64.ofInt (D (j : Int))) (zI x).toNatClampNeg (Int64.ofInt r) = fun j : Nat => Int64.ofInt (zup D x r (j : Int)) := by
    rw [zI_clamp h0 (by omega)]
    funext j
    show (if j = x.toNat then Int64.ofInt r else Int64.ofInt (D (j : Int))) = _
    by_cases hj : j = x.toNat
    · subst hj
      rw [if_pos rfl, show ((x.toNat : Nat) : Int) = x by omega, zup_same]
    · rw [if_neg hj, zup_ne (by omega)]
  rw [e9] at hP hD
  exact kk H1 locs1 (lcl_z hM ⟨hP, hD, hS⟩)
/-- new long[9] -/
theorem dl_new (C0 : zC g A p s m args c cc nL own) (Wd : zW g A s.heap (lo, hi, X0) ad M F H locs) (hf : cells + 1 ≤ R.cells ∧ slots + 9 ≤ R.slots) (hdg : decode cc pc = .ok (.newarray .long, 2)) (kk : ∀ (lk : Nat) (H1 : Heap) (locs1 : List Loc), zW g A s.heap (lo, hi, [lcl g lk (fun _ => 0)] ++ X0) ad M F H1 locs1 → W p l e R s m args below meth c H1 locs1 (cells + 1) (slots + 9) Q (F0 m (pc + 2) ls (.ref lk :: rest))) : W p l e R s m args below meth c H locs cells slots Q (F0 m pc ls (.int (zI 9) :: rest)) := by
  have hM := Wd.2
  refine r_newa (atype := .long) C0 (zW_r Wd) zk_1622 rfl (ty := .long) (t := 7) (n := 9) (a0 := (9, .inr (.inl (fun _ => Int64.ofInt 0)))) rfl (fun _ => rfl) ⟨by decide, by decide⟩ rfl (by decide) hf.1 hf.2 hdg (fun q1 H Wr => ?_)
  exact kk q1 H _ (zW_perm (r_zW (r_eq Wr wl_app.symm) hM) List.perm_append_comm)
end ZL9
/-- done, with a State kept, or refused -/
abbrev zDu (t many : Int) (V : Int → Int) (U : Int → Int → Int) (k : Int) (M F : zMem) : Prop := (0 ≤ k ∧ ∃ W : Int → Int, zLw (t + 7000) (zm8 many) W (zcons V U) M F) ∨ (k < 0 ∧ zLw t many V U M F)
section DU
variable {t many : Int} {V : Int → Int} {U : Int → Int → Int} {M F M0 M' F' : zMem} {k : Int}
theorem du_any {t2 : Int} {o : zO} (h : zChg t t2 many V U M0 o k M' F') (ht : t2 ≤ t + 7000) (h0 : 0 ≤ o.2.1) : zDu t many V U k M' F' := by
  rcases h.1 with ⟨h1, h2, h3⟩ | ⟨h1, h2, h3⟩
  · exact Or.inl ⟨by omega, o.2.2, h3.up ht⟩
  · exact Or.inr ⟨by omega, h3⟩
theorem du_AC (hL : zLw t many V U M F) (h : zChg t t many V U M0 (zdAC V) k M' F') : zDu t many V U k M' F' := du_any h (by omega) (by
  have := hL.v0
  unfold zdAC
  split
  · exact Int.le_refl 0
  · show 0 ≤ V 0 + 1 - 1; omega)
theorem du_AT {a b d : Int} (hL : zLw t many V U M F) (h : zChg t t many V U M0 (zdAT a b d V) k M' F') : zDu t many V U k M' F' := du_any h (by omega) (by
  unfold zdAT
  split
  · exact Int.le_refl 0
  · split
    · exact Int.le_refl 0
    · split
      · exact Int.le_refl 0
      · exact (zTu_bd _).1)
theorem du_RT {a b : Int} (hL : zLw t many V U M F) (h : zChg t t many V U M0 (zdRT a b V) k M' F') : zDu t many V U k M' F' := du_any h (by omega) (by
  have h8 := hL.v0
  unfold zdRT
  split
  · exact Int.le_refl 0
  · rename_i h1
    split
    · exact Int.le_refl 0
    · have h2 := Decidable.not_not.mp h1
      obtain ⟨⟨a0, a1⟩, b0, b1⟩ := h2
      exact (hL.tT (8 + 8 * a + b) (by omega) (by omega)).1)
theorem du_AH {c : Int} (hL : zLw t many V U M F) (h : zChg t t many V U M0 (zdAH c V) k M' F') : zDu t many V U k M' F' := du_any h (by omega) (by
  unfold zdAH
  split
  · exact Int.le_refl 0
  · split
    · exact Int.le_refl 0
    · exact hL.v1.1)
theorem du_Mv {x c : Int} (hL : zLw t many V U M F) (h : zChg t t many V U M0 (zdMv x c V) k M' F') : zDu t many V U k M' F' := du_any h (by omega) (by
  unfold zdMv
  split
  · exact Int.le_refl 0
  · rename_i h1
    have h2 := (Decidable.not_not.mp h1).1
    split
    · exact Int.le_refl 0
    · exact (hL.iv.2.2.2.2.2.1 x h2.1 h2.2).1.1)
theorem du_Li {x : Int} {P : Prop} [Decidable P] (hL : zLw t many V U M F) (h : zChg t t many V U M0 (zdLi x P V) k M' F') : zDu t many V U k M' F' := du_any h (by omega) (by
  unfold zdLi
  split
  · exact Int.le_refl 0
  · rename_i h1
    have h2 := Decidable.not_not.mp h1
    have := (hL.iv.2.2.2.2.2.1 x h2.1 h2.2).2.1
    show 0 ≤ V (72 + 4 * x + 1)
    omega)
theorem du_Say {a r n : Int} (hL : zLw t many V U M F) (h : zChg t (t + 1) many V U M0 (zdSay a r n V) k M' F') : zDu t many V U k M' F' := du_any h (by omega) (by
  have := hL.v3
  unfold zdSay
  split
  · exact Int.le_refl 0
  · split
    · exact Int.le_refl 0
    · split
      · exact Int.le_refl 0
      · show 0 ≤ V 3 + 1 - 1; omega)
theorem du_Fo {x : Int} (hL : zLw t many V U M F) (h : zChg t t many V U M0 (zdFo x V) k M' F') : zDu t many V U k M' F' := du_any h (by omega) (by
  have v2 := hL.v2
  unfold zdFo
  split
  · exact Int.le_refl 0
  · rename_i h1
    split
    · exact Int.le_refl 0
    · have hb := (zlast_bd (P := fun q => V (96 + 47 * q + 0) = x) (V 2).toNat).2
      have hb2 : zpl x V < (((V 2).toNat : Nat) : Int) := hb
      show 0 ≤ V 2 - 1
      omega)
theorem du_PT {n : Int} (hL : zLw t many V U M F) (h : zChg t (t + 17 * n) many V U M0 (zdPT n V) k M' F') (h9 : n ≤ 400) : zDu t many V U k M' F' := du_any h (by omega) (by
  unfold zdPT
  split
  · exact Int.le_refl 0
  · have := zTks_6 hL.iv hL.td n.toNat
    show 0 ≤ zTks n.toNat V 6 - V 6
    omega)
theorem zm8_ge {d : Int} (h : d ≤ many) (h7 : d ≤ 7) : d + 1 ≤ zm8 many := by
  unfold zm8
  split <;> omega
theorem un_old {d : Int} {D : Int → Int} (h : ∀ i, 0 ≤ i → i < d → D i = sgV (U (d - 1 - i))) (hD : D d = sgV V) : ∀ i, 0 ≤ i → i < d + 1 → D i = sgV (zcons V U (d + 1 - 1 - i)) := fun i i0 i1 => by
  show _ = sgV (if d + 1 - 1 - i = 0 then V else U (d + 1 - 1 - i - 1))
  by_cases e : i = d
  · rw [e, if_pos (by omega)]
    exact hD
  · rw [if_neg (by omega), h i i0 (by omega), show d + 1 - 1 - i - 1 = d - 1 - i by omega]
end DU
