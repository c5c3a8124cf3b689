/-! more of the memory; what a call does to the model's row -/
theorem zW.mem {g : zG} {A : Nat → Prop} {H0 : Heap} {N : zNs} {ad : Int → Nat} {M M' F : zMem} {H : Heap} {locs : List Loc} (h : zW g A H0 N ad M F H locs) (e : M = M') : zW g A H0 N ad M' F H locs := e ▸ h
theorem zW.fmem {g : zG} {A : Nat → Prop} {H0 : Heap} {N : zNs} {ad : Int → Nat} {M F F' : zMem} {H : Heap} {locs : List Loc} (h : zW g A H0 N ad M F H locs) (e : F = F') : zW g A H0 N ad M F' H locs := e ▸ h
theorem zrow_c {M M' : zMem} (i : Int) (r : Int → Int) (e : M = M') : zrow M i r = zrow M' i r := by rw [e]
theorem zu_c {M M' : zMem} (i t v : Int) (e : M = M') : zu M i t v = zu M' i t v := by rw [e]
theorem arrV_ext {cI : ClassId} {n : Nat} {f f' : Nat → Value} (h : ∀ j, j < n → f j = f' j) : arrV cI n f = arrV cI n f' := by
  unfold arrV
  congr 1
  exact congrArg Array.ofFn (funext fun j => h j.val j.isLt)
/-- two memories in one world: the same places in the same order -/
theorem wl_two {g : zG} {N : zNs} {ad : Int → Nat} {M F M' F' : zMem} {k : Nat} {q' : Nat × va_E} (h : (wl g N ad M' F')[k]? = some q') : ∃ q, (wl g N ad M F)[k]? = some q ∧ q.1 = q'.1 ∧ ((∃ i : Int, zIn N i ∧ q = (ad i, zE g ad i (M i) (F i)) ∧ q' = (ad i, zE g ad i (M' i) (F' i))) ∨ q = q') := by
  by_cases hk : k < ((N.2.1 : Int) - N.1).toNat
  · have hi : zIn N (N.1 + k) := ⟨by omega, by omega⟩
    have e : (N.1 + (k : Int) - N.1).toNat = k := by omega
    have h3 := wl_get (g := g) (ad := ad) (M := M) (F := F) hi
    have h4 := wl_get (g := g) (ad := ad) (M := M') (F := F') hi
    rw [e] at h3 h4
    have h5 := Option.some.inj (h.symm.trans h4)
    exact ⟨_, h3, by rw [h5], Or.inl ⟨_, hi, rfl, h5⟩⟩
  · rw [wl, List.getElem?_append_right (by rw [wlC_length]; omega), wlC_length] at h
    exact ⟨q', by rw [wl, List.getElem?_append_right (by rw [wlC_length]; omega), wlC_length]; exact h, rfl, Or.inr rfl⟩
/-- what stands outside an array's bounds is free -/
theorem zW.ext {g : zG} {A : Nat → Prop} {H0 : Heap} {N : zNs} {ad : Int → Nat} {M F : zMem} {H : Heap} {locs : List Loc} (h : zW g A H0 N ad M F H locs) {i : Int} (hk : zkd i = 13) (r : Int → Int) (hr : ∀ j, 0 ≤ j → j < (zln i : Int) → r j = M i j) (hR : ∀ j, zR (r j)) : zW g A H0 N ad (zrow M i r) F H locs := by
  obtain ⟨⟨hP, hD, hS⟩, hM⟩ := h
  refine ⟨⟨fun k q hq => ?_, ⟨fun a b x y hx hy hxy => ?_, fun k q hq => ?_⟩, hS⟩, zRM_zrow hM hR⟩
  · obtain ⟨q0, h0, -, ⟨k2, hk1, rfl, rfl⟩ | rfl⟩ := wl_two (M := M) (F := F) hq
    · replace h0 := hP k _ h0
      by_cases hki : k2 = i
      · have e1 : zrow M i r k2 = r := by rw [hki]; exact zrow_same _ _ _
        rw [e1]
        rw [zE_13 (by rw [hki]; exact hk)] at h0 ⊢
        show H[ad k2]? = some (vp_cell _ _)
        rw [show H[ad k2]? = some (vp_cell (g.2.2.1 13) (zln k2, .inl (zRow (M k2)))) from h0]
        rw [vp_cell_i, vp_cell_i, arrV_ext]
        intro j hj
        show Value.int (zI _) = Value.int (zI _)
        rw [hr j (by omega) (by rw [← hki]; omega), hki]
      · rw [zrow_ne hki]
        exact h0
    · exact hP k _ h0
  · obtain ⟨x0, g1, e1, -⟩ := wl_two (M := M) (F := F) hx
    obtain ⟨y0, g2, e2, -⟩ := wl_two (M := M) (F := F) hy
    exact hD.1 a b _ _ g1 g2 (by rw [e1, e2]; exact hxy)
  · obtain ⟨x0, g1, e1, -⟩ := wl_two (M := M) (F := F) hq
    rw [← e1]
    exact hD.2 k _ g1
/-- a whole array overwritten: its row is any that agrees within its bounds -/
theorem zW.full {g : zG} {A : Nat → Prop} {H0 : Heap} {N : zNs} {ad : Int → Nat} {M F : zMem} {H : Heap} {locs : List Loc} {i1 sp i2 n : Int} (h : zW g A H0 N ad (zcpy M i1 sp i2 0 n) F H locs) (hk : zkd i2 = 13) (hn : (zln i2 : Int) = n) (r : Int → Int) (hr : ∀ j, 0 ≤ j → j < n → r j = M i1 (sp + j)) (hR : ∀ j, zR (r j)) : zW g A H0 N ad (zrow M i2 r) F H locs := by
  have h1 := h.ext hk r (fun j h0 h1 => by
    rw [hr j h0 (by omega)]
    show _ = zrow M i2 _ i2 j
    rw [zrow_same, if_pos ⟨h0, by omega⟩]
    congr 1
    omega) hR
  exact h1.mem (zrow_twice _ _ _ _)
/-- what a call does: which exception (0 for none), its answer, the row behind it -/
abbrev zO : Type := Int × Int × (Int → Int)
abbrev zisC (V : Int → Int) (c : Int) : Prop := 0 ≤ c ∧ c < V 0
abbrev zisH (V : Int → Int) (h : Int) : Prop := 0 ≤ h ∧ h < V 1
def zTu (V : Int → Int) : Int := zfold (fun a c => zfold (fun b c => c + zb (0 < V (8 + 8 * a + b))) a.toNat c) 8 0
def zdAC (V : Int → Int) : zO := if V 0 = 8 then (1, 0, V) else (0, V 0 + 1 - 1, zup V 0 (V 0 + 1))
def zdAT (a b d : Int) (V : Int → Int) : zO :=
  if ¬ (zisC V a ∧ zisC V b) then (1, 0, V) else if a = b ∨ ¬ (1 ≤ d ∧ d ≤ 9) then (2, 0, V) else if 0 < V (8 + 8 * a + b) then (3, 0, V)
  else (0, zTu (zup (zup V (8 + 8 * a + b) d) (8 + 8 * b + a) d), zup (zup V (8 + 8 * a + b) d) (8 + 8 * b + a) d)
def zdRT (a b : Int) (V : Int → Int) : zO :=
  if ¬ (zisC V a ∧ zisC V b) then (1, 0, V) else if V (8 + 8 * a + b) = 0 then (2, 0, V) else (0, V (8 + 8 * a + b), zup (zup V (8 + 8 * a + b) 0) (8 + 8 * b + a) 0)
def zdAH (c : Int) (V : Int → Int) : zO :=
  if ¬ zisC V c then (1, 0, V) else if V 1 = 6 then (2, 0, V)
  else (0, V 1, zup (zup (zup (zup (zup V (72 + 4 * V 1) c) (72 + 4 * V 1 + 1) 1) (72 + 4 * V 1 + 2) 0) (72 + 4 * V 1 + 3) 0) 1 (V 1 + 1))
abbrev zdrm (V : Int → Int) (h : Int) : Prop := zany (fun q => V (96 + 47 * q + 4) = 100 ∧ V (96 + 47 * q + 1) = h) (V 2).toNat = true
def zdMv (h c : Int) (V : Int → Int) : zO :=
  if ¬ (zisH V h ∧ zisC V c) then (1, 0, V) else if zdrm V h then (2, 0, V) else (0, V (72 + 4 * h + 0), zup V (72 + 4 * h) c)
def zdLi (h : Int) (P : Prop) [Decidable P] (V : Int → Int) : zO :=
  if ¬ zisH V h then (1, 0, V) else (0, V (72 + 4 * h + 1), zup V (72 + 4 * h + 1) (zb P))
def zdSayR (s r n : Int) (V : Int → Int) : Int → Int :=
  zup (zup (zup (zup (zup (zup (zup (zfold (fun k W => zup W (96 + 47 * V 2 + k) 0) 47 V) (96 + 47 * V 2 + 0) (V 3)) (96 + 47 * V 2 + 1) s) (96 + 47 * V 2 + 2) r) (96 + 47 * V 2 + 3) n) (96 + 47 * V 2 + 4) 119) 2 (V 2 + 1)) 3 (V 3 + 1)
def zdSay (s r n : Int) (V : Int → Int) : zO :=
  if ¬ (zisH V s ∧ zisH V r) then (1, 0, V) else if s = r ∨ ¬ (0 ≤ n ∧ n ≤ 15) then (2, 0, V) else if V 2 = 8 then (3, 0, V)
  else (0, V 3 + 1 - 1, zdSayR s r n V)
def zpl (id : Int) (V : Int → Int) : Int := zlast (fun q => V (96 + 47 * q + 0) = id) (V 2).toNat
def zdFoR (p : Int) (V : Int → Int) : Int → Int := fun j => if 96 + 47 * p ≤ j ∧ j < 96 + 47 * p + 47 * (V 2 - 1 - p) then zup V 2 (V 2 - 1) (96 + 47 * p + 47 + (j - (96 + 47 * p))) else zup V 2 (V 2 - 1) j
def zdFo (id : Int) (V : Int → Int) : zO :=
  if zpl id V < 0 then (1, 0, V) else if V (96 + 47 * zpl id V + 4) = 100 then (2, 0, V) else (0, V 2 - 1, zdFoR (zpl id V) V)
def zTks (k : Nat) (V : Int → Int) : Int → Int := zfold (fun _ W => zTick W) k V
def zdPT (n : Int) (V : Int → Int) : zO :=
  if ¬ (1 ≤ n ∧ n ≤ 40) then (1, 0, V) else (0, zTks n.toNat V 6 - V 6, zTks n.toNat V)
theorem zTks_keep {t : Int} {V : Int → Int} (h : zIV t V) (hd : zTD V) (k : Nat) : zIV (t + 17 * k) (zTks k V) ∧ zTD (zTks k V) ∧ (∀ j, j < 4 → zTks k V j = V j) ∧ zTks k V 4 = V 4 + k := by
  refine zfold_ind (fun k W => zIV (t + 17 * k) W ∧ zTD W ∧ (∀ j, j < 4 → W j = V j) ∧ W 4 = V 4 + k) ⟨by simpa using h, hd, fun _ _ => rfl, by simp⟩ (fun k W _ ⟨a, b, c, d⟩ => ?_)
  obtain ⟨a1, b1, c1, d1, -⟩ := zTick_keep a b
  refine ⟨?_, b1, fun j hj => by rw [c1 j hj, c j hj], by rw [d1, d]; omega⟩
  rw [show t + 17 * ((k + 1 : Nat) : Int) = t + 17 * (k : Int) + 17 by omega]
  exact a1
section ZQ
variable {g : zG} {A : Nat → Prop} {p : Program} {l : Launch} {e : Env} {R : Room} {s : State} {m : MethodId} {args : Array Value} {below : List Frame} {meth : Method} {c : Code} {H : Heap} {locs : List Loc} {cells slots : Nat} {Q : State → Prop}
variable {cc : ByteArray} {nL : Nat} {own : String} {pc : Nat} {N : zNs} {ls : Array Slot} {rest : List Value} {ad : Int → Nat} {M F : zMem}
theorem z_table (C0 : zC g A p s m args c cc nL own) {x dflt lo hi : Int} {offs : Array Int} {len td : Nat} (hx : zR x) (hdg : decode cc pc = .ok (.tableswitch dflt lo hi offs, len)) (hsz : hi - lo + 1 = (offs.size : Int)) (f : Int → Nat) (h1 : ∀ i, i < offs.size → (pc : Int) + offs.getD i 0 = (f (lo + (i : Int)) : Int)) (h2 : ∀ v, v < lo ∨ hi < v → f v = td) (htd : (pc : Int) + dflt = (td : Int)) (k : W p l e R s m args below meth c H locs cells slots Q (F0 m (f x) ls rest)) : W p l e R s m args below meth c H locs cells slots Q (F0 m pc ls (.int (zI x) :: rest)) := by
  by_cases hq : x < lo ∨ hi < x
  · refine lv_tableOut C0.1.1 C0.1.2.1 (tgt := td) hdg (by rw [zI_tr hx]; exact hq) htd ?_
    rw [← h2 x hq]
    exact k
  · have hi1 : (x - lo).toNat < offs.size := by omega
    have h3 := h1 (x - lo).toNat hi1
    rw [show lo + (((x - lo).toNat : Nat) : Int) = x by omega] at h3
    refine lv_tableIn C0.1.1 C0.1.2.1 (tgt := f x) (off := offs.getD (x - lo).toNat 0) hdg (by rw [zI_tr hx]; omega) (by rw [zI_tr hx]; omega) ?_ h3 k
    rw [zI_tr hx, Array.getElem?_eq_getElem hi1]
    congr 1
    simp [Array.getD, hi1]
theorem z_ite {q : Prop} [Decidable q] {a b : Nat} (k1 : q → W p l e R s m args below meth c H locs cells slots Q (F0 m a ls rest)) (k2 : ¬ q → W p l e R s m args below meth c H locs cells slots Q (F0 m b ls rest)) : W p l e R s m args below meth c H locs cells slots Q (F0 m (if q then a else b) ls rest) := by
  by_cases h : q
  · rw [if_pos h]; exact k1 h
  · rw [if_neg h]; exact k2 h
theorem z_cret {P : Int → zMem → zMem → Prop} {x : Int} (C0 : zC g (zA N ad s.heap.size) p s m args c cc nL own) (Wd : zW g (zA N ad s.heap.size) s.heap N ad M F H locs) (hr : meth.sig.returnType = some .char) (hlk : meth.locks = false) (h0 : 0 ≤ x) (h1 : x < 65536) (hp : P x M F) (hdg : decode cc pc = .ok (.ireturn, 1)) : W p l e R s m args below meth c H locs cells slots (zMQ below g N ad (zPi P) args s cells slots) (F0 m pc ls [.int (zI x)]) :=
  W.zret C0.1.1 C0.1.2.1 hr (show Value.int (vp_nar .char (zI x)) = .int (zI x) by rw [vp_nar_ch h0 h1]) (z_ends C0 Wd ⟨x, rfl, zR_mk (by omega) (by omega), hp⟩) Wd.1.2.2.2.2 hdg hlk
theorem z_fret {P : UInt32 → zMem → zMem → Prop} {x : UInt32} (C0 : zC g (zA N ad s.heap.size) p s m args c cc nL own) (Wd : zW g (zA N ad s.heap.size) s.heap N ad M F H locs) (hr : meth.sig.returnType = some .float) (hlk : meth.locks = false) (hp : P x M F) (hdg : decode cc pc = .ok (.freturn, 1)) : W p l e R s m args below meth c H locs cells slots (zMQ below g N ad (zPf P) args s cells slots) (F0 m pc ls [.float x]) :=
  W.fret C0.1.1 C0.1.2.1 hr (z_ends C0 Wd ⟨x, rfl, hp⟩) Wd.1.2.2.2.2 hdg hlk
theorem z_dret {P : UInt64 → zMem → zMem → Prop} {x : UInt64} (C0 : zC g (zA N ad s.heap.size) p s m args c cc nL own) (Wd : zW g (zA N ad s.heap.size) s.heap N ad M F H locs) (hr : meth.sig.returnType = some .double) (hlk : meth.locks = false) (hp : P x M F) (hdg : decode cc pc = .ok (.dreturn, 1)) : W p l e R s m args below meth c H locs cells slots (zMQ below g N ad (zPd P) args s cells slots) (F0 m pc ls [.double x]) :=
  W.dret C0.1.1 C0.1.2.1 hr (z_ends C0 Wd ⟨x, rfl, hp⟩) Wd.1.2.2.2.2 hdg hlk
theorem z_aret {P : Int → zMem → zMem → Prop} {x : Int} {n : String} (C0 : zC g (zA N ad s.heap.size) p s m args c cc nL own) (Wd : zW g (zA N ad s.heap.size) s.heap N ad M F H locs) (hr : meth.sig.returnType = some (.object n)) (hlk : meth.locks = false) (hp : P x M F) (hdg : decode cc pc = .ok (.areturn, 1)) : W p l e R s m args below meth c H locs cells slots (zMQ below g N ad (zPr ad P) args s cells slots) (F0 m pc ls [.ref (ad x)]) :=
  W.aret C0.1.1 C0.1.2.1 hr (Or.inl ⟨n, rfl⟩) (Or.inr ⟨_, rfl⟩) (z_ends C0 Wd ⟨x, rfl, hp⟩) Wd.1.2.2.2.2 hdg hlk
theorem z_eret {P : Int → zMem → zMem → Prop} {x : Int} {n : String} (C0 : zC g (zA N ad s.heap.size) p s m args c cc nL own) (Wd : zW g (zA N ad s.heap.size) s.heap N ad M F H locs) (hr : meth.sig.returnType = some (.object n)) (hlk : meth.locks = false) (hp : P x M F) (hdg : decode cc pc = .ok (.areturn, 1)) : W p l e R s m args below meth c H locs cells slots (zMQ below g N ad (zPe g P) args s cells slots) (F0 m pc ls [.ref (g.2.2.2 x)]) :=
  W.aret C0.1.1 C0.1.2.1 hr (Or.inl ⟨n, rfl⟩) (Or.inr ⟨_, rfl⟩) (z_ends C0 Wd ⟨x, rfl, hp⟩) Wd.1.2.2.2.2 hdg hlk
end ZQ
