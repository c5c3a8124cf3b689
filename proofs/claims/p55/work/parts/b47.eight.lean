/-! eight numbers beside the class; what the law asks of messages -/
abbrev dcl (g : zG) (dk : Nat) (D : Int → Int) : Nat × va_E := (dk, .inl (g.2.2.1 13, 8, .inl (zRow D)))
section ZD8
variable {g : zG} {A : Nat → Prop} {p : Program} {l : Launch} {e : Env} {R : Room} {s : State} {m : MethodId} {args : Array Value} {below : List Frame} {meth : Method} {c : Code} {H : Heap} {locs : List Loc} {cells slots : Nat} {Q : State → Prop}
variable {cc : ByteArray} {nL : Nat} {own : String} {pc : Nat} {ls : Array Slot} {rest st0 : List Value} {ad : Int → Nat} {M F : zMem} {X0 : va_W} {lo : Int} {hi : Nat} {dk : Nat} {D : Int → Int}
set_option maxRecDepth 100000 in
theorem dcl_wl {ws : va_W} : wl g (398, 399, ws) (fun _ => dk) (fun _ => D) F = dcl g dk D :: ws := by
  show [(dk, zE g (fun _ => dk) (398 + ((0 : Nat) : Int)) D (F (398 + ((0 : Nat) : Int))))] ++ ws = _
  rw [show (398 : Int) + ((0 : Nat) : Int) = 398 by decide, zE_13 zK398, zL398]
  rfl
theorem dcl_in {H0 : Heap} (hD : ∀ j, zR (D j)) (Wd : zW g A H0 (lo, hi, [dcl g dk D] ++ X0) ad M F H locs) : zW g A H0 (398, 399, wl g (lo, hi, X0) ad M F) (fun _ => dk) (fun _ => D) F H locs := by
  refine r_zW ?_ (fun _ j => hD j)
  rw [dcl_wl]
  exact rW.perm (zW_r Wd) (wl_cons (Y := [dcl g dk D])).symm
theorem dcl_out {H0 : Heap} (hM : zRM M) (Wd : zW g A H0 (398, 399, wl g (lo, hi, X0) ad M F) (fun _ => dk) (fun _ => D) F H locs) : zW g A H0 (lo, hi, [dcl g dk D] ++ X0) ad M F H locs := by
  have Wr := zW_r Wd
  rw [dcl_wl] at Wr
  exact r_zW (rW.perm Wr (wl_cons (Y := [dcl g dk D]))) hM
theorem dr_ald {x : Int} (C0 : zC g A p s m args c cc nL own) (Wd : zW g A s.heap (lo, hi, [dcl g dk D] ++ X0) ad M F H locs) (hD : ∀ j, zR (D j)) (h0 : 0 ≤ x) (h1 : x < 8) (hdg : decode cc pc = .ok (.iaload, 1)) (kk : W p l e R s m args below meth c H locs cells slots Q (F0 m (pc + 1) ls (.int (zI (D x)) :: rest))) : W p l e R s m args below meth c H locs cells slots Q (F0 m pc ls (.int (zI x) :: .ref dk :: rest)) :=
  z_iald (N := (398, 399, wl g (lo, hi, X0) ad M F)) (i := 398) C0 (dcl_in hD Wd) ⟨by show (398 : Int) ≤ 398; decide, by show (398 : Int) < ((399 : Nat) : Int); decide⟩ zK398 zL398 h0 h1 (by decide) hdg kk
set_option maxRecDepth 100000 in
theorem dr_ast {x v : Int} (C0 : zC g A p s m args c cc nL own) (Wd : zW g A s.heap (lo, hi, [dcl g dk D] ++ X0) ad M F H locs) (hD : ∀ j, zR (D j)) (h0 : 0 ≤ x) (h1 : x < 8) (hv : zR v) (hdg : decode cc pc = .ok (.iastore, 1)) (kk : ∀ (H1 : Heap) (locs1 : List Loc), zW g A s.heap (lo, hi, [dcl g dk (zup D x v)] ++ X0) ad M F H1 locs1 → W p l e R s m args below meth c H1 locs1 cells slots Q (F0 m (pc + 1) ls rest)) : W p l e R s m args below meth c H locs cells slots Q (F0 m pc ls (.int (zI v) :: .int (zI x) :: .ref dk :: rest)) := by
  have hM := Wd.2
  refine z_iast (N := (398, 399, wl g (lo, hi, X0) ad M F)) (i := 398) C0 (dcl_in hD Wd) ⟨by show (398 : Int) ≤ 398; decide, by show (398 : Int) < ((399 : Nat) : Int); decide⟩ zK398 zL398 h0 h1 (by decide) hv hdg (fun H1 locs1 Wd => kk H1 locs1 (dcl_out hM ?_))
  refine r_zW ?_ (fun _ j => by unfold zup; split; exact hv; exact hD j)
  have Wr := zW_r Wd
  have e : wl g (398, 399, wl g (lo, hi, X0) ad M F) (fun _ => dk) (zu (fun _ => D) 398 x v) F = wl g (398, 399, wl g (lo, hi, X0) ad M F) (fun _ => dk) (fun _ => zup D x v) F := by
    show [(dk, zE g (fun _ => dk) (398 + ((0 : Nat) : Int)) (zu (fun _ => D) 398 x v (398 + ((0 : Nat) : Int))) (F (398 + ((0 : Nat) : Int))))] ++ _ = _
    rw [show (398 : Int) + ((0 : Nat) : Int) = 398 by decide, zu_rowup]
    rfl
  exact r_eq Wr e
theorem dr_len (C0 : zC g A p s m args c cc nL own) (Wd : zW g A s.heap (lo, hi, [dcl g dk D] ++ X0) ad M F H locs) (hD : ∀ j, zR (D j)) (hdg : decode cc pc = .ok (.arraylength, 1)) (kk : W p l e R s m args below meth c H locs cells slots Q (F0 m (pc + 1) ls (.int (zI 8) :: rest))) : W p l e R s m args below meth c H locs cells slots Q (F0 m pc ls (.ref dk :: rest)) := by
  have Wr : rW g A s.heap (dcl g dk D :: wl g (lo, hi, X0) ad M F) H locs := by
    have := zW_r (dcl_in hD Wd)
    rw [dcl_wl] at this
    exact this
  exact va_alen C0.1.1 C0.1.2.1 C0.2.1 Wr.1 0 2 rfl rfl (by rfl) hdg kk
/-- new int[8] -/
theorem dr_new (C0 : zC g A p s m args c cc nL own) (Wd : zW g A s.heap (lo, hi, X0) ad M F H locs) (hf : cells + 1 ≤ R.cells ∧ slots + 8 ≤ R.slots) (hdg : decode cc pc = .ok (.newarray .int, 2)) (kk : ∀ (dk : Nat) (H1 : Heap) (locs1 : List Loc), zW g A s.heap (lo, hi, [dcl g dk (fun _ => 0)] ++ X0) ad M F H1 locs1 → W p l e R s m args below meth c H1 locs1 (cells + 1) (slots + 8) Q (F0 m (pc + 2) ls (.ref dk :: rest))) : W p l e R s m args below meth c H locs cells slots Q (F0 m pc ls (.int (zI 8) :: rest)) := by
  have hM := Wd.2
  refine r_newa (atype := .int) C0 (zW_r Wd) zk_112 rfl (ty := .int) (t := 2) (n := 8) (a0 := (8, .inl (zRow (fun _ => 0)))) rfl (fun _ => rfl) ⟨by decide, by decide⟩ rfl (by decide) hf.1 hf.2 hdg (fun q1 H Wr => ?_)
  exact kk q1 H _ (zW_perm (r_zW (r_eq Wr wl_app.symm) hM) List.perm_append_comm)
end ZD8
theorem zb_iff {P R : Prop} [Decidable P] [Decidable R] (h : P ↔ R) : zb P = zb R := by
  by_cases q : P
  · rw [zb_t q, zb_t (h.mp q)]
  · rw [zb_f q, zb_f (fun z => q (h.mpr z))]
/-- how many of the first messages are drummed in the chamber x -/
abbrev zDP (V : Int → Int) (x : Int) : Int → Prop := fun p => V (96 + 47 * p + 4) = 100 ∧ zhm V p = x
theorem zDP_1 {V : Int → Int} {x : Int} (h : zOne V) : ∀ n : Nat, (n : Int) ≤ V 2 → zcnt (zDP V x) n ≤ 1
  | 0, _ => by show (0 : Int) ≤ 1; decide
  | n + 1, hn => by
    have ih := zDP_1 h (x := x) n (by omega)
    show zcnt (zDP V x) n + zb (zDP V x n) ≤ 1
    by_cases q : zDP V x n
    · rw [zb_t q]
      have hz : ∀ k : Nat, k ≤ n → zcnt (zDP V x) k = 0 := by
        intro k
        induction k with
        | zero => intro _; rfl
        | succ k ih2 =>
          intro hk
          show zcnt (zDP V x) k + zb (zDP V x k) = 0
          rw [ih2 (by omega), zb_f (fun z => h k n (by omega) (by omega) (by omega) z.1 q.1 (z.2.trans q.2.symm))]
          rfl
      rw [hz n (Nat.le_refl n)]
      omega
    · rw [zb_f q]
      omega
theorem zpl_no {V : Int → Int} {x : Int} (h : ∀ p, 0 ≤ p → p < V 2 → V (96 + 47 * p + 0) ≠ x) : zpl x V = -1 := by
  unfold zpl
  have hz : ∀ n : Nat, (n : Int) ≤ V 2 → zlast (fun q => V (96 + 47 * q + 0) = x) n = -1 := by
    intro n
    induction n with
    | zero => intro _; rfl
    | succ n ih =>
      intro hn
      show (if V (96 + 47 * (n : Int) + 0) = x then (n : Int) else _) = -1
      rw [if_neg (h n (by omega) (by omega))]
      exact ih (by omega)
  by_cases hv : 0 ≤ V 2
  · exact hz _ (by omega)
  · rw [show (V 2).toNat = 0 by omega]
    rfl
section QW2
variable {t many : Int} {V : Int → Int} {U : Int → Int → Int} {M F : zMem}
theorem qMs_no {x w : Int} (h : zpl x V = -1) : qMs V w x = -13 := by
  unfold qMs
  rw [if_neg (fun q => q h)]
theorem qUn_no {x : Int} (h : zpl x V = -1) : qUn V x = -13 := by
  unfold qUn
  rw [if_pos h]
theorem zpl_99 (hL : zLw t many V U M F) (h3 : V 3 ≤ 30) : zpl 99 V = -1 ∧ zpl (-1) V = -1 :=
  ⟨zpl_no (fun p p0 p1 => by have := (hL.iv.2.2.2.2.2.2.1 p p0 p1).1; omega), zpl_no (fun p p0 p1 => by have := (hL.iv.2.2.2.2.2.2.1 p p0 p1).1; omega)⟩
theorem qUn_in (hL : zLw t many V U M F) {p : Int} (h : 0 ≤ p ∧ p < V 2) : ((V (96 + 47 * p + 4) = 114 ∨ V (96 + 47 * p + 4) = 108) → qUn V (V (96 + 47 * p + 0)) = -14) ∧ (¬ (V (96 + 47 * p + 4) = 114 ∨ V (96 + 47 * p + 4) = 108) → qUn V (V (96 + 47 * p + 0)) = -15 ∨ (1 ≤ qUn V (V (96 + 47 * p + 0)) ∧ qUn V (V (96 + 47 * p + 0)) ≤ 60)) := by
  unfold qUn
  rw [zpl_at hL.id h, if_neg (by omega)]
  constructor
  · intro q
    rw [if_pos q]
  · intro q
    rw [if_neg q]
    have hf := @zfst_F1 (zsr p V) (fun k => by unfold zsr; exact inferInstance) 61
    have e : zudn p V = @zfst (zsr p V) (fun k => by unfold zsr; exact inferInstance) 61 := rfl
    rw [← e] at hf
    rcases hf with ⟨e1, -⟩ | ⟨g0, g1, g2, -⟩
    · rw [if_pos e1]
      exact Or.inl rfl
    · have hne : zudn p V ≠ 0 := fun z => by
        rw [z] at g2
        have g3 : V (96 + 47 * p + 4) = 114 := g2
        exact q (Or.inl g3)
      have g1' : zudn p V < 61 := g1
      rw [if_neg (by omega)]
      exact Or.inr ⟨by omega, by omega⟩
end QW2
