/-! the law's Strings: where they lie, and builders over them -/
def zTR (g : zG) (ws : va_W) (q : Nat × Nat × List Int32) : Prop := (STc q.1 q.2.1 ∈ ws ∧ ∃ f : Nat → Int32, BAc g q.2.1 q.2.2.length f ∈ ws ∧ ∀ j, j < q.2.2.length → f j = q.2.2.getD j 0) ∨ ∃ c ∈ zTxt, q = (g.2.2.2 c.1, g.2.2.2 c.2.1, c.2.2)
theorem zTR.mono {g : zG} {ws ws' : va_W} {q : Nat × Nat × List Int32} (h : zTR g ws q) (hs : ∀ x ∈ ws, x ∈ ws') : zTR g ws' q := by
  rcases h with ⟨h1, f, h2, h3⟩ | h
  · exact Or.inl ⟨hs _ h1, f, hs _ h2, h3⟩
  · exact Or.inr h
theorem rW_out {g : zG} {A : Nat → Prop} {H0 : Heap} {wr wc : va_W} {H : Heap} {locs : List Loc} (Wd : rW g A H0 (wr ++ wc) H locs) {x : Nat × va_E} (hx : x ∈ wr) : ¬ va_A wc H.size x.1 := by
  rintro (⟨k, e, h⟩ | h)
  · obtain ⟨i, hi⟩ := List.getElem?_of_mem hx
    have hil := (List.getElem?_eq_some_iff.mp hi).1
    have := Wd.2.1.1 i (wr.length + k) x (x.1, e) (by rw [List.getElem?_append_left hil]; exact hi) (by rw [List.getElem?_append_right (by omega), show wr.length + k - wr.length = k by omega]; exact h) rfl
    omega
  · have h9 := (va_P_mem.mp Wd.1 x (List.mem_append_left _ hx)).lt
    omega
theorem wl_app {g : zG} {lo : Int} {hi : Nat} {X Y : va_W} {ad : Int → Nat} {M F : zMem} : wl g (lo, hi, X ++ Y) ad M F = wl g (lo, hi, X) ad M F ++ Y := (List.append_assoc (wlC g (lo, hi, X) ad M F) X Y).symm
theorem wl_cons {g : zG} {lo : Int} {hi : Nat} {X Y : va_W} {ad : Int → Nat} {M F : zMem} : (wl g (lo, hi, Y ++ X) ad M F).Perm (Y ++ wl g (lo, hi, X) ad M F) := by
  show (wlC g (lo, hi, X) ad M F ++ (Y ++ X)).Perm (Y ++ (wlC g (lo, hi, X) ad M F ++ X))
  exact List.perm_append_comm_assoc _ _ _
theorem zW_sub {g : zG} {A : Nat → Prop} {H0 : Heap} {lo : Int} {hi : Nat} {X Y : va_W} {ad : Int → Nat} {M F : zMem} {H : Heap} {locs : List Loc} (Wd : zW g A H0 (lo, hi, Y) ad M F H locs) (h : X.Sublist Y) : zW g A H0 (lo, hi, X) ad M F H locs :=
  r_zW (rW.sub (zW_r Wd) ((List.Sublist.refl (wlC g (lo, hi, X) ad M F)).append h)) Wd.2
theorem zW_perm {g : zG} {A : Nat → Prop} {H0 : Heap} {lo : Int} {hi : Nat} {X Y : va_W} {ad : Int → Nat} {M F : zMem} {H : Heap} {locs : List Loc} (Wd : zW g A H0 (lo, hi, Y) ad M F H locs) (h : X.Perm Y) : zW g A H0 (lo, hi, X) ad M F H locs :=
  r_zW (rW.perm (zW_r Wd) ((List.Perm.refl (wlC g (lo, hi, X) ad M F)).append h)) Wd.2
theorem zI_map {L : List Int} (h : ∀ c ∈ L, 0 ≤ c ∧ c < 128) : (L.map zI).map Int32.toInt = L := by
  rw [List.map_map]
  conv => rhs; rw [← List.map_id L]
  refine List.map_congr_left (fun c hc => ?_)
  have := h c hc
  exact zI_toInt (by omega) (by omega)
theorem zLt_map {L : List Int} (h : ∀ c ∈ L, 0 ≤ c ∧ c < 128) (hl : L.length ≤ 60) : zLt (L.map zI) := by
  refine ⟨by rw [List.length_map]; exact hl, fun b hb => ?_⟩
  obtain ⟨c, hc, rfl⟩ := List.mem_map.mp hb
  have := h c hc
  rw [zI_toInt (by omega) (by omega)]
  exact this
theorem zTx_S {M : zMem} {L : List Int} {bs : List Int32} (h : zTx M L) : zTx (zapS bs M) (L ++ bs.map Int32.toInt) := by
  obtain ⟨a, b, c⟩ := h
  have e396 : ∀ j, zapS bs M 396 j = if j = 3 then M 396 3 + (bs.length : Int) else M 396 j := fun j => by
    unfold zapS
    by_cases e : j = 3
    · subst e; rw [if_pos rfl, zu_same]
    · rw [if_neg e, zu_ne (by omega), zrow_ne (by decide)]
  have e397 : ∀ j : Int, zapS bs M 397 j = if M 396 3 ≤ j ∧ j < M 396 3 + (bs.length : Int) then zsx bs (j - M 396 3) else M 397 j := fun j => by
    unfold zapS
    rw [zu_ne (by omega)]
    exact congrFun (zrow_same _ _ _) j
  refine ⟨by rw [e396, if_neg (by decide)]; exact a, by rw [e396, if_pos rfl, b]; simp, fun j hj => ?_⟩
  rw [e397, b]
  rw [List.length_append, List.length_map] at hj
  by_cases h1 : j < L.length
  · rw [List.getElem?_append_left h1, if_neg (by omega)]
    exact c j h1
  · rw [List.getElem?_append_right (by omega), if_pos (by omega), List.getElem?_map]
    have hk : j - L.length < bs.length := by omega
    unfold zsx
    rw [show ((j : Int) - (L.length : Int)).toNat = j - L.length by omega, List.getD_eq_getElem?_getD, List.getElem?_eq_getElem hk]
    rfl
section ZLB
variable {g : zG} {A : Nat → Prop} {p : Program} {l : Launch} {e : Env} {R : Room} {s : State} {m : MethodId} {args : Array Value} {below : List Frame} {meth : Method} {c : Code} {H : Heap} {locs : List Loc} {cells slots : Nat} {Q : State → Prop}
variable {cc : ByteArray} {nL : Nat} {own : String} {pc : Nat} {ls : Array Slot} {rest st0 : List Value} {ad ad' : Int → Nat} {M F Mb Fb : zMem} {X0 wr wc : va_W} {S : zSs} {lo : Int} {hi : Nat} {mc ms : Nat} {q : Nat × Nat × List Int32} {L : List Int}
theorem zTR_fact (C0 : zC g A p s m args c cc nL own) (Wd : rW g A s.heap (wr ++ wc) H locs) (h : zTR g wr q) : zStr q.1 q.2.1 q.2.2 (va_A wc H.size) s H := by
  rcases h with ⟨h1, f, h2, h3⟩ | ⟨k, hk, rfl⟩
  · exact zStr_of C0 Wd.1 (List.mem_append_left _ h1) (List.mem_append_left _ h2) h3 ⟨rW_out Wd h1, rW_out Wd h2⟩
  · exact zStr_c C0 hk Wd.2.2 (rA_sub Wd C0.2.2.2)
theorem zTR_z {N : zNs} (C0 : zC g A p s m args c cc nL own) (Wd : rW g A s.heap (wr ++ wl g N ad' Mb Fb) H locs) (h : zTR g wr q) : zStr q.1 q.2.1 q.2.2 (zA N ad' H.size) s H := (zTR_fact C0 Wd h).narrow (fun _ => zA_iff.mp)
/-- a builder's method, beside the class's world -/
theorem z_invB {post : Option Value → zMem → zMem → Prop} {y : MethodName} {cc' : ByteArray} {nL' : Nat} {ret' : Option FieldType} {d n idx : Nat} {As : List Value} (C0 : zC g A p s m args c cc nL own) (Wd : zW g A s.heap (lo, hi, X0 ++ wl g zWn ad' Mb Fb) ad M F H locs) (hRM : zRM Mb) (hM : zMs l y cc' nL' ret' d mc ms g zWn ad' S (.ref (ad' 396) :: As) Mb Fb post) (kv : zKV y cc' nL' ret' "java/lang/StringBuilder" n) (hS : ∀ q ∈ S, zTR g (wl g (lo, hi, X0) ad M F) q) (hlink : Cond.methodLink own idx y ∈ zT) (hn : As.length = n) (hsz : ls.size = nL) (hst0 : st0 = As.reverse ++ .ref (ad' 396) :: rest) (hst : (rest.map fun v => v.category).sum ≤ 8) (hR : d + 1 ≤ R.frames ∧ 8 + (nL' + 11) + 60 * d ≤ R.locals) (hf : cells + mc ≤ R.cells ∧ slots + ms ≤ R.slots) (hdg : decode cc pc = .ok (.invokevirtual idx, 3))
    (kk : ∀ (v : Option Value) (Mb' Fb' : zMem) (H1 : Heap) (locs1 : List Loc), post v Mb' Fb' → zRM Mb' → zW g A s.heap (lo, hi, X0 ++ wl g zWn ad' Mb' Fb') ad M F H1 locs1 → W p l e R s m args below meth c H1 locs1 (cells + mc) (slots + ms) Q (F0 m (pc + 3) ls (v.toList ++ rest))) : W p l e R s m args below meth c H locs cells slots Q (F0 m pc ls st0) := by
  have hM0 := Wd.2
  have Wr : rW g A s.heap (wl g (lo, hi, X0) ad M F ++ wl g zWn ad' Mb Fb) H locs := r_eq (zW_r Wd) wl_app
  refine r_invVs (wr := wl g (lo, hi, X0) ad M F) (S := S) (As := As) (rest := rest) C0 Wr hRM hM kv (fun q hq => zTR_z C0 Wr (hS q hq)) ?_ hlink hn hsz hst0 hst hR hf hdg (fun v M1 F1 H1 locs1 hp hR1 Wr => kk v M1 F1 H1 locs1 hp hR1 (r_zW (r_eq Wr wl_app.symm) hM0))
  exact va_recv (q0 := (wl g (lo, hi, X0) ad M F).length) (ci := 10) (q := (RJ4, TJ4, 4)) C0.2.1 Wr.1 rfl (fs := [.ref (ad' 397), .int (zI (Mb 396 1)), .int (zI (Mb 396 2)), .int (zI (Mb 396 3))]) (by rw [List.getElem?_append_right (Nat.le_refl _), Nat.sub_self]; rfl)
theorem lb_S (C0 : zC g A p s m args c cc nL own) (Wd : zW g A s.heap (lo, hi, X0 ++ wl g zWn ad' Mb Fb) ad M F H locs) (hRM : zRM Mb) (hT : zTx Mb L) (hq : zTR g (wl g (lo, hi, X0) ad M F) q) (hlt : zLt q.2.2) (h16 : L.length + q.2.2.length ≤ 16) {idx : Nat} (hlink : Cond.methodLink own idx yJ4_append_15ec4 ∈ zT) (hsz : ls.size = nL) (hst : (rest.map fun v => v.category).sum ≤ 8) (hR : 5 ≤ R.frames ∧ 281 ≤ R.locals) (hf : cells ≤ R.cells ∧ slots ≤ R.slots) (hdg : decode cc pc = .ok (.invokevirtual idx, 3))
    (kk : ∀ (Mb' Fb' : zMem) (H1 : Heap) (locs1 : List Loc), zRM Mb' → zTx Mb' (L ++ q.2.2.map Int32.toInt) → zW g A s.heap (lo, hi, X0 ++ wl g zWn ad' Mb' Fb') ad M F H1 locs1 → W p l e R s m args below meth c H1 locs1 cells slots Q (F0 m (pc + 3) ls (.ref (ad' 396) :: rest))) : W p l e R s m args below meth c H locs cells slots Q (F0 m pc ls (.ref q.1 :: .ref (ad' 396) :: rest)) := by
  have hc := hT.1
  have hn := hT.2.1
  refine z_invB (S := [q]) (As := [.ref q.1]) (rest := rest) C0 Wd hRM (ct_J4_append_15ec4 l g zWn zwn_b zwn_v ad' Mb Fb q hlt hc ⟨by omega, by omega⟩) kv_J4_append_15ec4 (fun z hz => by rw [List.mem_singleton.mp hz]; exact hq) hlink rfl hsz rfl hst ⟨by have := hR.1; omega, by have := hR.2; omega⟩ hf hdg (fun v M1 F1 H locs hp hR1 Wd => ?_)
  obtain ⟨r, rfl, rfl, rfl, rfl⟩ := hp
  exact kk _ _ H locs hR1 (zTx_S hT) Wd
theorem lb_I {x : Int} (C0 : zC g A p s m args c cc nL own) (Wd : zW g A s.heap (lo, hi, X0 ++ wl g zWn ad' Mb Fb) ad M F H locs) (hRM : zRM Mb) (hT : zTx Mb L) (hx : 0 ≤ x ∧ x < 10000) (h16 : L.length + (zdgs x).length ≤ 16) {idx : Nat} (hlink : Cond.methodLink own idx yJ4_append_bf812 ∈ zT) (hsz : ls.size = nL) (hst : (rest.map fun v => v.category).sum ≤ 8) (hR : 4 ≤ R.frames ∧ 221 ≤ R.locals) (hf : cells ≤ R.cells ∧ slots ≤ R.slots) (hdg : decode cc pc = .ok (.invokevirtual idx, 3))
    (kk : ∀ (Mb' Fb' : zMem) (H1 : Heap) (locs1 : List Loc), zRM Mb' → zTx Mb' (L ++ zdgs x) → zW g A s.heap (lo, hi, X0 ++ wl g zWn ad' Mb' Fb') ad M F H1 locs1 → W p l e R s m args below meth c H1 locs1 cells slots Q (F0 m (pc + 3) ls (.ref (ad' 396) :: rest))) : W p l e R s m args below meth c H locs cells slots Q (F0 m pc ls (.int (zI x) :: .ref (ad' 396) :: rest)) := by
  have hc := hT.1
  have hn := hT.2.1
  refine z_invB (S := []) (As := [.int (zI x)]) (rest := rest) C0 Wd hRM (zMs_of_t (ct_J4_append_bf812 l g zWn zwn_b zwn_v ad' Mb Fb x (zR_mk (by omega) (by omega)) hc hx ⟨by omega, by have := zdgs_len hx.2; omega⟩)) kv_J4_append_bf812 (fun _ h => nomatch h) hlink rfl hsz rfl hst ⟨by have := hR.1; omega, by have := hR.2; omega⟩ hf hdg (fun v M1 F1 H locs hp hR1 Wd => ?_)
  obtain ⟨r, rfl, rfl, rfl, rfl⟩ := hp
  exact kk _ _ H locs hR1 (zTx_I hx.2 hT) Wd
theorem lb_C {x : Int} (C0 : zC g A p s m args c cc nL own) (Wd : zW g A s.heap (lo, hi, X0 ++ wl g zWn ad' Mb Fb) ad M F H locs) (hRM : zRM Mb) (hT : zTx Mb L) (hx : 0 ≤ x ∧ x < 128) (h16 : L.length < 16) {idx : Nat} (hlink : Cond.methodLink own idx yJ4_append_cf468 ∈ zT) (hsz : ls.size = nL) (hst : (rest.map fun v => v.category).sum ≤ 8) (hR : 3 ≤ R.frames ∧ 161 ≤ R.locals) (hf : cells ≤ R.cells ∧ slots ≤ R.slots) (hdg : decode cc pc = .ok (.invokevirtual idx, 3))
    (kk : ∀ (Mb' Fb' : zMem) (H1 : Heap) (locs1 : List Loc), zRM Mb' → zTx Mb' (L ++ [x]) → zW g A s.heap (lo, hi, X0 ++ wl g zWn ad' Mb' Fb') ad M F H1 locs1 → W p l e R s m args below meth c H1 locs1 cells slots Q (F0 m (pc + 3) ls (.ref (ad' 396) :: rest))) : W p l e R s m args below meth c H locs cells slots Q (F0 m pc ls (.int (zI x) :: .ref (ad' 396) :: rest)) := by
  have hc := hT.1
  have hn := hT.2.1
  refine z_invB (S := []) (As := [.int (zI x)]) (rest := rest) C0 Wd hRM (zMs_of_t (ct_J4_append_cf468_s l g zWn zwn_b zwn_v ad' Mb Fb x (zR_mk (by omega) (by omega)) hc ⟨by omega, by omega⟩ hx)) kv_J4_append_cf468 (fun _ h => nomatch h) hlink rfl hsz rfl hst ⟨by have := hR.1; omega, by have := hR.2; omega⟩ hf hdg (fun v M1 F1 H locs hp hR1 Wd => ?_)
  obtain ⟨r, rfl, rfl, rfl, rfl⟩ := hp
  exact kk _ _ H locs hR1 (zTx_C x hT) Wd
theorem sb_open {A : Nat → Prop} {H0 H : Heap} {locs : List Loc} {W0 : va_W} {k v : Nat} (Wd : rW g A H0 (W0 ++ [(k, .inr (10, [.ref v, .int (zI 0), .int (zI 0), .int (zI 0)])), (v, .inl (g.2.2.1 11, 16, .inl (zRow (fun _ => 0))))]) H locs) : ∃ (ad' : Int → Nat) (Mb Fb : zMem), ad' 396 = k ∧ zRM Mb ∧ zTx Mb [] ∧ rW g A H0 (W0 ++ wl g zWn ad' Mb Fb) H locs :=
  ⟨fun i => if i = 396 then k else v, fun _ _ => 0, fun _ _ => 0, rfl, fun _ _ => zR_0, ⟨rfl, rfl, fun j hj => absurd hj (by simp)⟩, Wd⟩
/-- new StringBuilder() -/
theorem lb_new (C0 : zC g A p s m args c cc nL "DrumWarrenLaw") (Wd : zW g A s.heap (lo, hi, X0) ad M F H locs) (hsz : ls.size = nL) (hst : (rest.map fun v => v.category).sum ≤ 7) (hR : 3 ≤ R.frames ∧ 160 ≤ R.locals) (hf : cells + 2 ≤ R.cells ∧ slots + 20 ≤ R.slots) (hd1 : decode cc pc = .ok (.new 283, 3)) (hd2 : decode cc (pc + 3) = .ok (.dup, 1)) (hd3 : decode cc (pc + 3 + 1) = .ok (.invokespecial 285, 3))
    (kk : ∀ (ad' : Int → Nat) (Mb Fb : zMem) (H1 : Heap) (locs1 : List Loc), zRM Mb → zTx Mb [] → zW g A s.heap (lo, hi, X0 ++ wl g zWn ad' Mb Fb) ad M F H1 locs1 → W p l e R s m args below meth c H1 locs1 (cells + 2) (slots + 20) Q (F0 m (pc + 3 + 1 + 3) ls (.ref (ad' 396) :: rest))) : W p l e R s m args below meth c H locs cells slots Q (F0 m pc ls rest) := by
  have hM0 := Wd.2
  refine r_new C0 (zW_r Wd) inZ_10 tyJ4 tyJ4_ok zk_1289 zk_311 zk_37 (ci := 10) rfl (fs := [.null, .int (zI 0), .int (zI 0), .int (zI 0)]) (by intro j hj; have hc : j = 0 ∨ j = 1 ∨ j = 2 ∨ j = 3 := (by omega); rcases hc with rfl | rfl | rfl | rfl <;> rfl) (by have := hf.1; omega) (by have := hf.2; omega) hd1 (fun k H Wd => ?_)
  refine z_dup C0 rfl hd2 ?_
  refine r_init (wr := wl g (lo, hi, X0) ad M F) (wc := [(k, .inr (10, [.null, .int (zI 0), .int (zI 0), .int (zI 0)]))]) (As := []) (rest := .ref k :: rest) C0 (zc_ao C0) Wd (ci_J4_init_da8c8 l g k) ki_J4_init_da8c8 zk_1290 rfl hsz rfl (by simp only [List.map_cons, List.sum_cons]; show 1 + _ ≤ 8; omega) ⟨by have := hR.1; omega, by have := hR.2; omega⟩ ⟨by have := hf.1; omega, by have := hf.2; omega⟩ hd3 (fun v w1 H locs hp Wd => ?_)
  obtain ⟨rfl, q1, rfl⟩ := hp
  obtain ⟨ad', Mb, Fb, rfl, h1, h2, Wd⟩ := sb_open Wd
  exact kk ad' Mb Fb H locs h1 h2 (r_zW (r_eq Wd wl_app.symm) hM0)
/-- toString: the builder is left behind -/
theorem lb_T (C0 : zC g A p s m args c cc nL own) (Wd : zW g A s.heap (lo, hi, X0 ++ wl g zWn ad' Mb Fb) ad M F H locs) (hRM : zRM Mb) (hT : zTx Mb L) (h16 : L.length < 16) (hL : ∀ c ∈ L, 0 ≤ c ∧ c < 128) {idx : Nat} (hlink : Cond.methodLink own idx yJ4_toString_0e30d ∈ zT) (hsz : ls.size = nL) (hst : (rest.map fun v => v.category).sum ≤ 8) (hR : 6 ≤ R.frames ∧ 340 ≤ R.locals) (hf : cells + 2 ≤ R.cells ∧ slots + 64 ≤ R.slots) (hdg : decode cc pc = .ok (.invokevirtual idx, 3))
    (kk : ∀ (q : Nat × Nat × List Int32) (w2 : va_W) (H1 : Heap) (locs1 : List Loc), q.2.2 = L.map zI → zTR g w2 q → zW g A s.heap (lo, hi, w2 ++ X0) ad M F H1 locs1 → W p l e R s m args below meth c H1 locs1 (cells + 2) (slots + 64) Q (F0 m (pc + 3) ls (.ref q.1 :: rest))) : W p l e R s m args below meth c H locs cells slots Q (F0 m pc ls (.ref (ad' 396) :: rest)) := by
  have hM0 := Wd.2
  have Wr : rW g A s.heap (wl g (lo, hi, X0) ad M F ++ wl g zWn ad' Mb Fb) H locs := r_eq (zW_r Wd) wl_app
  have hb : ∀ j : Nat, j < L.length → 0 ≤ Mb 397 (j : Int) ∧ Mb 397 (j : Int) < 128 := fun j hj => hL _ (List.mem_of_getElem? (hT.2.2 j hj))
  refine s_invV (wr := wl g (lo, hi, X0) ad M F) (wc := wl g zWn ad' Mb Fb) (As := []) (rest := rest) C0 Wr (sw_toString l g ad' Mb Fb hRM L.length hT.1 hT.2.1 h16 hb) kw_J4_toString_0e30d zFa_0 ?_ hlink rfl hsz rfl hst ⟨by have := hR.1; omega, by have := hR.2; omega⟩ hf hdg (fun v w1 H locs hp Wr => ?_)
  · exact va_recv (q0 := (wl g (lo, hi, X0) ad M F).length) (ci := 10) (q := (RJ4, TJ4, 4)) C0.2.1 Wr.1 rfl (fs := [.ref (ad' 397), .int (zI (Mb 396 1)), .int (zI (Mb 396 2)), .int (zI (Mb 396 3))]) (by rw [List.getElem?_append_right (Nat.le_refl _), Nat.sub_self]; rfl)
  · obtain ⟨k, v, rfl, rfl⟩ := hp
    refine kk (k, v, L.map zI) [STc k v, BAc g v L.length (zcb (zbl Mb 397 16) L.length)] H locs rfl (Or.inl ⟨List.mem_cons_self, _, by rw [List.length_map]; exact List.mem_cons_of_mem _ List.mem_cons_self, fun j hj => ?_⟩) (zW_perm (r_zW (r_eq (rW.sub Wr ((List.Sublist.refl (wl g (lo, hi, X0) ad M F)).append (List.sublist_append_right (wl g zWn ad' Mb Fb) [STc k v, BAc g v L.length (zcb (zbl Mb 397 16) L.length)]))) wl_app.symm) hM0) List.perm_append_comm)
    rw [List.length_map] at hj
    show zcb (zbl Mb 397 16) L.length j = _
    unfold zcb
    rw [if_pos hj, zbl_at (by omega), List.getD_eq_getElem?_getD, List.getElem?_map, hT.2.2 j hj]
    rfl
end ZLB
