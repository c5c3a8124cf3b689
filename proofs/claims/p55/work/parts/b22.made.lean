/-! Strings made -/
/-- facts of Strings and of rows of bytes that lie outside -/
def zFa (S : zSs) (T : List (Nat × List Int32)) (A : Nat → Prop) (U : State) (H : Heap) : Prop := (∀ q ∈ S, zStr q.1 q.2.1 q.2.2 A U H) ∧ ∀ t ∈ T, va_T .byte t.1 t.2.length (fun j => .int (t.2.getD j 0)) A U H
theorem zFa.moved {S : zSs} {T : List (Nat × List Int32)} {A : Nat → Prop} {u U : State} {H : Heap} (hvm : u.vm.Alike U.vm) (h : zFa S T A u H) : zFa S T A U H := ⟨fun q hq => zStr.moved hvm (h.1 q hq), fun t ht => va_T.moved hvm (h.2 t ht)⟩
theorem zFa.kept {S : zSs} {T : List (Nat × List Int32)} {A : Nat → Prop} {U : State} {H H1 : Heap} (h : zFa S T A U H) (hq : ∀ a : Nat, a < H.size → ¬ A a → H1[a]? = H[a]?) : zFa S T A U H1 := ⟨fun q z => (h.1 q z).kept hq, fun t z => (h.2 t z).kept hq⟩
theorem zFa.narrow {S : zSs} {T : List (Nat × List Int32)} {A B : Nat → Prop} {U : State} {H : Heap} (h : zFa S T A U H) (hAB : ∀ q, B q → A q) : zFa S T B U H := ⟨fun q z => (h.1 q z).narrow hAB, fun t z => (h.2 t z).narrow hAB⟩
def sPre (g : zG) (ws : va_W) (S : zSs) (T : List (Nat × List Int32)) (sz : Nat) (U : State) : Prop :=
  U.heap.size = sz ∧ va_P (g.1, g.2.1) zCl ws U.heap ∧ va_K (g.1, g.2.1) zCl (zty g) U ∧ va_D (fun _ => True) ws ∧ zFa S T (va_A ws sz) U U.heap ∧ zS g (va_A ws sz) U U.heap
def sMt (l : Launch) (y : MethodName) (cc : ByteArray) (nL : Nat) (ret : Option FieldType) (d mc ms : Nat) (g : zG) (S : zSs) (T : List (Nat × List Int32)) (av : List Value) (ws : va_W) (post : Option Value → va_W → Prop) : Prop :=
  ∀ sz, Met l y (Cond.code y cc nL ret :: zT) (zrm d mc ms) (va_Pc av (sPre g ws S T sz)) (rQ g ws sz post) mc ms (va_A ws sz)
theorem sPre_blind {g : zG} {ws : va_W} {S : zSs} {T : List (Nat × List Int32)} {sz : Nat} {av : List Value} : FrameBlind (va_Pc av (sPre g ws S T sz)) := by
  intro a U fr mk q
  obtain ⟨q0, q1, q2, q3, q4, q5, q6⟩ := q
  exact ⟨q0, q1, q2, va_K.moved (u := U) (U := U.calling fr mk a) (Vm.Alike.refl U.vm) q3, q4, zFa.moved (u := U) (U := U.calling fr mk a) (Vm.Alike.refl U.vm) q5, zS.pass (s := U) (U := U.calling fr mk a) q6 (va_S.rf) (Vm.Alike.refl U.vm) (fun h => zSb.same rfl h) rfl (fun _ h => h)⟩
theorem sMt.of {l : Launch} {y : MethodName} {cc : ByteArray} {nL : Nat} {ret : Option FieldType} {d mc ms : Nat} {g : zG} {S : zSs} {T : List (Nat × List Int32)} {av : List Value} {ws : va_W} {post : Option Value → va_W → Prop} (own : String) (hown : y.cls = own) (hy : plainFor y = true) (hlen : (lg_sl av).length ≤ nL)
    (body : ∀ {p : Program} {e : Env} {s : State} {m : MethodId} {args : Array Value} {below : List Frame} {meth : Method} {c : Code} {ls : Array Slot}, zC g (va_A ws s.heap.size) p s m args c cc nL own → rW g (va_A ws s.heap.size) s.heap ws s.heap [] → lv_has ls nL (lv_args 0 av) → meth.sig.returnType = ret → meth.locks = false → (y.name = "<init>" → meth.name = "<init>") → zFa S T (va_A ws s.heap.size) s s.heap →
      W p l e (zrm d mc ms) s m args below meth c s.heap [] 0 0 (rMQ below g ws post args s mc ms) (F0 m 0 ls [])) : sMt l y cc nL ret d mc ms g S T av ws post := by
  intro sz
  refine va_MetF (cc := cc) (maxL := nL) (ret := ret) hy rfl ?_
  intro p e s m args below meth c s₁ B hml hv
  obtain ⟨rfl, hsz, hP, hK, hD0, hFa, hZ⟩ := hv
  subst hsz
  have hts := atoms_spec (ws := Cond.code y cc nL ret :: zT) B.pre
  have hl := lv_entry av (n := nL) hlen
  rw [lg_entry_eq]
  generalize (lg_sl av ++ List.replicate (nL - (lg_sl av).length) Slot.unset).toArray = ls at hl ⊢
  have hD : va_D (va_A ws s.heap.size) ws := hD0.self
  exact body ⟨⟨B.exec, B.bytes, hml, by rw [← hown]; exact findClass_of_methodNamed B.named, fun w hw => hts w (List.mem_cons_of_mem _ hw)⟩, hK, hZ, fun q h => Or.inr h⟩ ⟨hP, hD, va_S.rf⟩ hl B.returns B.notSynchronized (fun h => by rw [← h]; exact (name_of_methodNamed B.named B.method).1) hFa
section ZMADE

variable {g : zG} {A : Nat → Prop} {p : Program} {l : Launch} {e : Env} {R : Room} {s : State} {m : MethodId} {args : Array Value} {below : List Frame} {meth : Method} {c : Code} {H : Heap} {locs : List Loc} {cells slots : Nat} {Q : State → Prop}
variable {cc : ByteArray} {nL : Nat} {own : String} {pc : Nat} {ls : Array Slot} {rest st0 : List Value} {ws wc wr : va_W} {S : zSs} {T : List (Nat × List Int32)}
variable {post : Option Value → va_W → Prop} {mc ms : Nat} {a : Array Value}

theorem sPre_of (C0 : zC g A p s m args c cc nL own) (Wd : rW g A s.heap (wr ++ wc) H locs) (hF : zFa S T (va_A wc H.size) s H) (av : List Value) : ∀ U : State, U.heap = H → s.WarmedH U.vm → va_Pc av (sPre g wc S T H.size) av.toArray U := by
  intro U hU hW
  subst hU
  have at1 : ∀ (k : Nat) (q : Nat × va_E), wc[k]? = some q → (wr ++ wc)[wr.length + k]? = some q := fun k q hq => by
    rw [List.getElem?_append_right (by omega), show wr.length + k - wr.length = k by omega]
    exact hq
  refine ⟨rfl, rfl, fun k q hq => Wd.1 _ q (at1 k q hq), va_K.moved hW.alike C0.2.1, ⟨fun i j x y hx hy e => ?_, fun _ _ _ => trivial⟩, zFa.moved hW.alike hF, zS.pass C0.2.2.1 Wd.2.2 hW.alike (fun h => zSb.warm hW h) rfl (rA_sub Wd C0.2.2.2)⟩
  have := Wd.2.1.1 _ _ x y (at1 i x hx) (at1 j y hy) e
  omega
theorem s_invV {b : Nat} {C : String} {y : MethodName} {cc' : ByteArray} {nL' : Nat} {ret' : Option FieldType} {d n idx : Nat} {As : List Value} (C0 : zC g A p s m args c cc nL own) (Wd : rW g A s.heap (wr ++ wc) H locs) (hM : sMt l y cc' nL' ret' d mc ms g S T (.ref b :: As) wc post) (kv : zKV y cc' nL' ret' C n) (hF : zFa S T (va_A wc H.size) s H) (hrecv : ∃ cell : Cell, H[b]? = some cell ∧ cell.vm.isStatics = false ∧ s.vm.findClass C = some cell.cls) (hlink : Cond.methodLink own idx y ∈ zT) (hn : As.length = n) (hsz : ls.size = nL) (hst0 : st0 = As.reverse ++ .ref b :: rest) (hst : (rest.map fun v => v.category).sum ≤ 8) (hR : d + 1 ≤ R.frames ∧ 8 + (nL' + 11) + 60 * d ≤ R.locals) (hf : cells + mc ≤ R.cells ∧ slots + ms ≤ R.slots) (hdg : decode cc pc = .ok (.invokevirtual idx, 3))
    (kk : ∀ (v : Option Value) (w1 : va_W) (H1 : Heap) (locs1 : List Loc), post v w1 → rW g A s.heap (wr ++ w1) H1 locs1 → W p l e R s m args below meth c H1 locs1 (cells + mc) (slots + ms) Q (F0 m (pc + 3) ls (v.toList ++ rest))) : W p l e R s m args below meth c H locs cells slots Q (F0 m pc ls st0) := by
  obtain ⟨k1, k2, k3, k4, k5, k6, k7⟩ := kv
  exact r_call (va_runV (As := As) (rest := rest) C0.1 (hM H.size) ⟨z_callB C0 k1 k4 ⟨k5, k6, k7⟩ hlink hR, C0.1.2.2.2.2 _ k2, C0.1.2.2.2.2 _ k3⟩ ⟨sPre_blind, hrecv, sPre_of C0 Wd hF _⟩ rfl hn hsz hst0 (lv_room hst) hdg hf) C0 Wd kk
theorem s_invP {b : Nat} {C : String} {y z : MethodName} {cc' : ByteArray} {nL' : Nat} {ret' : Option FieldType} {d n idx : Nat} {As : List Value} (C0 : zC g A p s m args c cc nL own) (Wd : rW g A s.heap (wr ++ wc) H locs) (hM : sMt l y cc' nL' ret' d mc ms g S T (.ref b :: As) wc post) (kv : zKP y z cc' nL' ret' C n) (hF : zFa S T (va_A wc H.size) s H) (hrecv : ∃ cell : Cell, H[b]? = some cell ∧ cell.vm.isStatics = false ∧ s.vm.findClass C = some cell.cls) (hlink : Cond.methodLink own idx y ∈ zT) (hn : As.length = n) (hsz : ls.size = nL) (hst0 : st0 = As.reverse ++ .ref b :: rest) (hst : (rest.map fun v => v.category).sum ≤ 8) (hR : d + 1 ≤ R.frames ∧ 8 + (nL' + 11) + 60 * d ≤ R.locals) (hf : cells + mc ≤ R.cells ∧ slots + ms ≤ R.slots) (hdg : decode cc pc = .ok (.invokevirtual idx, 3))
    (kk : ∀ (v : Option Value) (w1 : va_W) (H1 : Heap) (locs1 : List Loc), post v w1 → rW g A s.heap (wr ++ w1) H1 locs1 → W p l e R s m args below meth c H1 locs1 (cells + mc) (slots + ms) Q (F0 m (pc + 3) ls (v.toList ++ rest))) : W p l e R s m args below meth c H locs cells slots Q (F0 m pc ls st0) := by
  obtain ⟨k1, k2, k3, k4, k5, k6, k7⟩ := kv
  have hsel : (Cond.selects C y y).before args s = true := z_selP (C0.1.2.2.2.2 _ k3.1) k3.2.1 (va_Nw.use rfl (zc_pr C0 k3.2.2)) (C0.1.2.2.2.2 _ k2) ⟨k5, k6⟩
  exact r_call (va_runV (As := As) (rest := rest) C0.1 (hM H.size) ⟨z_callB C0 k1 k4 ⟨k5, k6, k7⟩ hlink hR, C0.1.2.2.2.2 _ k2, hsel⟩ ⟨sPre_blind, hrecv, sPre_of C0 Wd hF _⟩ rfl hn hsz hst0 (lv_room hst) hdg hf) C0 Wd kk
theorem s_invS {y : MethodName} {cc' : ByteArray} {nL' : Nat} {ret' : Option FieldType} {d n idx : Nat} {As : List Value} (C0 : zC g A p s m args c cc nL own) (Wd : rW g A s.heap (wr ++ wc) H locs) (hM : sMt l y cc' nL' ret' d mc ms g S T As wc post) (kv : zKS y cc' nL' ret' n) (hF : zFa S T (va_A wc H.size) s H) (hlink : Cond.methodLink own idx y ∈ zT) (hn : As.length = n) (hsz : ls.size = nL) (hst0 : st0 = As.reverse ++ rest) (hst : (rest.map fun v => v.category).sum ≤ 8) (hR : d + 1 ≤ R.frames ∧ 8 + (nL' + 11) + 60 * d ≤ R.locals) (hf : cells + mc ≤ R.cells ∧ slots + ms ≤ R.slots) (hdg : decode cc pc = .ok (.invokestatic idx, 3))
    (kk : ∀ (v : Option Value) (w1 : va_W) (H1 : Heap) (locs1 : List Loc), post v w1 → rW g A s.heap (wr ++ w1) H1 locs1 → W p l e R s m args below meth c H1 locs1 (cells + mc) (slots + ms) Q (F0 m (pc + 3) ls (v.toList ++ rest))) : W p l e R s m args below meth c H locs cells slots Q (F0 m pc ls st0) := by
  obtain ⟨k1, k2, k3, k4, k5, k6⟩ := kv
  exact r_call (va_runS (As := As) (rest := rest) C0.1 (hM H.size) ⟨z_callB C0 k1 k3 ⟨k4, k5, k6⟩ hlink hR, C0.1.2.2.2.2 _ k2⟩ ⟨sPre_blind, sPre_of C0 Wd hF _⟩ rfl hn hsz hst0 (lv_room hst) hdg hf) C0 Wd kk
theorem s_init {y : MethodName} {cc' : ByteArray} {nL' : Nat} {d n idx b : Nat} {As : List Value} (C0 : zC g A p s m args c cc nL own) (Wd : rW g A s.heap (wr ++ wc) H locs) (hM : sMt l y cc' nL' none d mc ms g S T (.ref b :: As) wc post) (kv : zKI y cc' nL' n) (hF : zFa S T (va_A wc H.size) s H) (hlink : Cond.methodLink own idx y ∈ zT) (hn : As.length = n) (hsz : ls.size = nL) (hst0 : st0 = As.reverse ++ .ref b :: rest) (hst : (rest.map fun v => v.category).sum ≤ 8) (hR : d + 1 ≤ R.frames ∧ 8 + (nL' + 11) + 60 * d ≤ R.locals) (hf : cells + mc ≤ R.cells ∧ slots + ms ≤ R.slots) (hdg : decode cc pc = .ok (.invokespecial idx, 3))
    (kk : ∀ (v : Option Value) (w1 : va_W) (H1 : Heap) (locs1 : List Loc), post v w1 → rW g A s.heap (wr ++ w1) H1 locs1 → W p l e R s m args below meth c H1 locs1 (cells + mc) (slots + ms) Q (F0 m (pc + 3) ls (v.toList ++ rest))) : W p l e R s m args below meth c H locs cells slots Q (F0 m pc ls st0) := by
  obtain ⟨k1, k2, k3, k4, k5, k6, k7⟩ := kv
  exact r_call (va_runI (As := As) (rest := rest) C0.1 (hM H.size) ⟨z_callB C0 k1 k3 ⟨k4, k5, k7⟩ hlink hR, k6, C0.1.2.2.2.2 _ k2⟩ ⟨sPre_blind, sPre_of C0 Wd hF _⟩ rfl hn hsz hst0 (lv_room hst) hdg hf) C0 Wd kk
theorem r_iret {w1 : va_W} {x : Int} (C0 : zC g (va_A ws s.heap.size) p s m args c cc nL own) (Wd : rW g (va_A ws s.heap.size) s.heap w1 H locs) (hr : meth.sig.returnType = some .int) (hlk : meth.locks = false) (hp : post (some (.int (zI x))) w1) (hdg : decode cc pc = .ok (.ireturn, 1)) : W p l e R s m args below meth c H locs cells slots (rMQ below g ws post args s cells slots) (F0 m pc ls [.int (zI x)]) :=
  W.iret C0.1.1 C0.1.2.1 hr (r_ends C0 Wd hp) Wd.2.2.2.2 hdg hlk
theorem r_aret {w1 : va_W} {b : Nat} {rt : FieldType} (C0 : zC g (va_A ws s.heap.size) p s m args c cc nL own) (Wd : rW g (va_A ws s.heap.size) s.heap w1 H locs) (hr : meth.sig.returnType = some rt) (hrt : (∃ n, rt = .object n) ∨ ∃ t, rt = .array t) (hlk : meth.locks = false) (hp : post (some (.ref b)) w1) (hdg : decode cc pc = .ok (.areturn, 1)) : W p l e R s m args below meth c H locs cells slots (rMQ below g ws post args s cells slots) (F0 m pc ls [.ref b]) :=
  W.aret C0.1.1 C0.1.2.1 hr hrt (Or.inr ⟨_, rfl⟩) (r_ends C0 Wd hp) Wd.2.2.2.2 hdg hlk
theorem x_tlen (C0 : zC g A p s m args c cc nL own) (hSx : va_S A s.heap H locs) {ty : FieldType} {q n : Nat} {f : Nat → Value} (hT : va_T ty q n f A s s.heap) (hdg : decode cc pc = .ok (.arraylength, 1)) (kk : W p l e R s m args below meth c H locs cells slots Q (F0 m (pc + 1) ls (.int (zI (n : Int)) :: rest))) : W p l e R s m args below meth c H locs cells slots Q (F0 m pc ls (.ref q :: rest)) :=
  va_tlen C0.1.1 C0.1.2.1 hT hSx (by rw [zI_nI]; rfl) hdg kk
theorem x_getO (C0 : zC g A p s m args c cc nL own) (hSx : va_S A s.heap H locs) {o n d : String} {q : Nat} {v : Value} {idx : Nat} (hE : va_OF o n d v q A s s.heap) (hlink : Cond.fieldLink own idx o n d ∈ zT) (hdg : decode cc pc = .ok (.getfield idx, 3)) (kk : W p l e R s m args below meth c H locs cells slots Q (F0 m (pc + 3) ls (v :: rest))) : W p l e R s m args below meth c H locs cells slots Q (F0 m pc ls (.ref q :: rest)) :=
  vk_getf C0.1.1 C0.1.2.1 hE hSx C0.1.2.2.2.1 (C0.1.2.2.2.2 _ hlink) (fun _ h => h) hdg kk
/-- a row of bytes in the world is one for all that leave its cell alone -/
theorem va_T_of {B : Nat → Prop} {v : Nat} {bs : List Int32} {f : Nat → Int32} (C0 : zC g A p s m args c cc nL own) (hP : va_P (g.1, g.2.1) zCl ws H) (h2 : (v, .inl (g.2.2.1 11, bs.length, .inl f)) ∈ ws) (hf : ∀ j, j < bs.length → f j = bs.getD j 0) (hB : ¬ B v) : va_T .byte v bs.length (fun j => .int (bs.getD j 0)) B s H := by
  have hb : H[v]? = some (vp_cell (g.2.2.1 11) (bs.length, .inl f)) := va_P_mem.mp hP _ h2
  refine ⟨_, hb, ?_, ?_, ?_, ?_, ?_, hB⟩
  · exact (C0.2.1.2 0 (g.2.2.1 11, .byte) rfl).1 bs.length (fun j => .int (f j))
  · exact fun h => by cases h
  · show bs.length ≤ (Array.ofFn _).size
    rw [Array.size_ofFn]
    exact Nat.le_refl _
  · show (Array.ofFn _).size.toInt32 = _
    rw [Array.size_ofFn]
  · intro j hj
    show (Array.ofFn _)[j]? = _
    rw [Array.getElem?_ofFn, dif_pos hj]
    show some (Value.int (f j)) = some (Value.int (bs.getD j 0))
    rw [hf j hj]
theorem rW.lt (Wd : rW g A s.heap ws H locs) {q : Nat × va_E} (h : q ∈ ws) : q.1 < H.size := (va_P_mem.mp Wd.1 q h).lt
end ZMADE
theorem kw_J9_min_7cf53 : zKS yJ9_min_7cf53 cJ9_min_7cf53 2 (some .int) 2 := ⟨zk_556, zk_555, zk_50, by decide, by decide, by decide +kernel⟩
set_option maxHeartbeats 4000000 in
set_option maxRecDepth 100000 in
theorem sw_min (l : Launch) (g : zG) (a b : Int) (ha : zR a) (hb : zR b) : sMt l yJ9_min_7cf53 cJ9_min_7cf53 2 (some .int) 0 0 0 g [] [] [.int (zI a), .int (zI b)] [] (fun v w1 => v = some (.int (zI (if a ≤ b then a else b))) ∧ w1 = []) := by
  refine sMt.of "java/lang/Math" rfl (by decide +kernel) (Nat.le_of_ble_eq_true rfl) (fun {p e s m args below meth c ls} C0 Wd hl hret hlk hin hF => ?_)
  have hl : lv_has ls 2 [(0, .int (zI a)), (1, .int (zI b))] := hl
  refine z_iload_n C0 hl 0 rfl dJ9_min_7cf53_0 ?_
  refine z_iload_n C0 hl 1 rfl dJ9_min_7cf53_1 ?_
  refine z_icmp_gt C0 (tgt := 9) ha hb dJ9_min_7cf53_2 (by decide) (fun h => ?_) (fun h => ?_)
  · refine z_iload_n C0 hl 1 rfl dJ9_min_7cf53_9 ?_
    exact r_iret C0 Wd hret hlk ⟨by rw [if_neg (by omega)], rfl⟩ dJ9_min_7cf53_10
  · refine z_iload_n C0 hl 0 rfl dJ9_min_7cf53_5 ?_
    refine z_goto C0 (tgt := 10) dJ9_min_7cf53_6 (by decide) ?_
    exact r_iret C0 Wd hret hlk ⟨by rw [if_pos h], rfl⟩ dJ9_min_7cf53_10
theorem kw_J7_checkLength_df160 : zKS yJ7_checkLength_df160 cJ7_checkLength_df160 2 none 2 := ⟨zk_1184, zk_1183, zk_57, by decide, by decide, by decide +kernel⟩
set_option maxHeartbeats 4000000 in
set_option maxRecDepth 100000 in
theorem sw_checkLength (l : Launch) (g : zG) (a b : Int) (ha : zR a) (hb : zR b) (hab : a ≤ b) : sMt l yJ7_checkLength_df160 cJ7_checkLength_df160 2 none 0 0 0 g [] [] [.int (zI a), .int (zI b)] [] (fun v w1 => v = none ∧ w1 = []) := by
  refine sMt.of "java/util/Arrays" rfl (by decide +kernel) (Nat.le_of_ble_eq_true rfl) (fun {p e s m args below meth c ls} C0 Wd hl hret hlk hin hF => ?_)
  have hl : lv_has ls 2 [(0, .int (zI a)), (1, .int (zI b))] := hl
  refine z_iload_n C0 hl 1 rfl dJ7_checkLength_df160_0 ?_
  refine z_iload_n C0 hl 0 rfl dJ7_checkLength_df160_1 ?_
  refine z_icmp_ge C0 (tgt := 37) hb ha dJ7_checkLength_df160_2 (by decide) (fun h => ?_) (fun h => absurd h (by omega))
  exact r_vret C0 Wd hret hlk ⟨rfl, rfl⟩ dJ7_checkLength_df160_37
/-- the first n letters, copied -/
def zcb (bs : List Int32) (n : Nat) : Nat → Int32 := fun k => if k < n then bs.getD k 0 else 0
theorem zFa_0 {A : Nat → Prop} {U : State} {H : Heap} : zFa [] [] A U H := ⟨fun _ h => (nomatch h), fun _ h => (nomatch h)⟩
theorem kw_J7_copyOfRangeByte_39247 : zKS yJ7_copyOfRangeByte_39247 cJ7_copyOfRangeByte_39247 5 (some (.array .byte)) 3 := ⟨zk_1181, zk_1180, zk_57, by decide, by decide, by decide +kernel⟩
set_option maxHeartbeats 4000000 in
set_option maxRecDepth 100000 in
theorem sw_copyByte (l : Launch) (g : zG) (b0 : Nat) (bs : List Int32) (n : Nat) (hb1 : bs.length ≤ 60) (hbn : ∀ j : Nat, j < n → 0 ≤ zsx bs (j : Int) ∧ zsx bs (j : Int) < 128) (hn : n ≤ bs.length) : sMt l yJ7_copyOfRangeByte_39247 cJ7_copyOfRangeByte_39247 5 (some (.array .byte)) 1 1 60 g [] [(b0, bs)] [.ref b0, .int (zI 0), .int (zI (n : Int))] [] (fun v w1 => ∃ q, v = some (.ref q) ∧ w1 = [(q, .inl (g.2.2.1 11, n, .inl (zcb bs n)))]) := by
  refine sMt.of "java/util/Arrays" rfl (by decide +kernel) (Nat.le_of_ble_eq_true rfl) (fun {p e s m args below meth c ls} C0 Wd hl hret hlk hin hF => ?_)
  have hX : va_T .byte b0 bs.length (fun j => .int (bs.getD j 0)) _ s s.heap := hF.2 (b0, bs) List.mem_cons_self
  have zn : zR (n : Int) := zR_mk (by omega) (by omega)
  have z0 : zR 0 := zR_mk (by decide) (by decide)
  have hl : lv_has ls 5 [(0, .ref b0), (1, .int (zI 0)), (2, .int (zI (n : Int)))] := hl
  refine z_iload_n C0 hl 1 rfl dJ7_copyOfRangeByte_39247_0 ?_
  refine z_iload_n C0 hl 2 rfl dJ7_copyOfRangeByte_39247_1 ?_
  refine s_invS (wr := []) (wc := []) (As := [.int (zI 0), .int (zI (n : Int))]) (rest := []) C0 Wd (sw_checkLength l g 0 (n : Int) z0 zn (by omega)) kw_J7_checkLength_df160 zFa_0 zk_1182 rfl hl.1 rfl (Nat.le_of_ble_eq_true rfl) (by decide) (by decide) dJ7_copyOfRangeByte_39247_2 (fun v w1 H locs hp Wd => ?_)
  obtain ⟨rfl, rfl⟩ := hp
  refine z_iload_n C0 hl 2 rfl dJ7_copyOfRangeByte_39247_5 ?_
  refine z_iload_n C0 hl 1 rfl dJ7_copyOfRangeByte_39247_6 ?_
  refine z_isub C0 dJ7_copyOfRangeByte_39247_7 ?_
  rw [show (n : Int) - 0 = n by omega]
  refine z_istore_n C0 hl [(3, .int (zI (n : Int))), (0, .ref b0), (1, .int (zI 0)), (2, .int (zI (n : Int)))] (by decide) rfl dJ7_copyOfRangeByte_39247_8 (fun ls hl => ?_)
  refine z_iload_n C0 hl 0 rfl dJ7_copyOfRangeByte_39247_9 ?_
  refine r_newa (atype := .byte) C0 Wd zk_342 rfl (ty := .byte) (t := 0) (n := n) (a0 := (n, .inl (fun _ => 0))) rfl (fun _ => rfl) ⟨by omega, by omega⟩ (by omega) (by show n * 1 ≤ _; omega) (by decide) (by show _ + n ≤ 60; omega) dJ7_copyOfRangeByte_39247_10 (fun q H Wd => ?_)
  refine z_astore C0 hl [(4, .ref q), (3, .int (zI (n : Int))), (0, .ref b0), (1, .int (zI 0)), (2, .int (zI (n : Int)))] (by decide) rfl dJ7_copyOfRangeByte_39247_12 (fun ls hl => ?_)
  refine z_aload_n C0 hl 2 rfl dJ7_copyOfRangeByte_39247_14 ?_
  refine z_iload_n C0 hl 3 rfl dJ7_copyOfRangeByte_39247_15 ?_
  refine z_aload C0 hl 0 rfl dJ7_copyOfRangeByte_39247_16 ?_
  refine z_iconst C0 dJ7_copyOfRangeByte_39247_18 ?_
  refine z_aload_n C0 hl 2 rfl dJ7_copyOfRangeByte_39247_19 ?_
  refine x_tlen C0 Wd.2.2 hX dJ7_copyOfRangeByte_39247_20 ?_
  refine z_iload_n C0 hl 3 rfl dJ7_copyOfRangeByte_39247_21 ?_
  refine z_isub C0 dJ7_copyOfRangeByte_39247_22 ?_
  rw [show (bs.length : Int) - 0 = bs.length by omega]
  refine z_iload_n C0 hl 1 rfl dJ7_copyOfRangeByte_39247_23 ?_
  refine s_invS (wr := _) (wc := []) (As := [.int (zI (bs.length : Int)), .int (zI (n : Int))]) (rest := [.int (zI 0), .ref q, .int (zI 0), .ref b0]) C0 (r_eq Wd (List.append_nil _).symm) (sw_min l g (bs.length : Int) (n : Int) (zR_mk (by omega) (by omega)) zn) kw_J9_min_7cf53 zFa_0 zk_1049 rfl hl.1 rfl (Nat.le_of_ble_eq_true rfl) (by decide) ⟨by show _ ≤ (1 : Nat); omega, by show _ ≤ (60 : Nat); omega⟩ dJ7_copyOfRangeByte_39247_24 (fun v w1 H locs hp Wd => ?_)
  obtain ⟨rfl, rfl⟩ := hp
  rw [show (if (bs.length : Int) ≤ (n : Int) then (bs.length : Int) else (n : Int)) = (n : Int) by split <;> omega]
  have c1 := zI_clamp (t := 0) (by decide) (by decide)
  have c3 := zI_clamp (t := (n : Int)) (by omega) (by omega)
  have nz : ∀ {x : Int}, 0 ≤ x → x < 2147483648 → ¬ zI x < 0 := by
    intro x h0 h9
    rw [Int32.lt_iff_toInt_lt, zI_toInt (by omega) h9]
    simp
    omega
  refine vk_copyt C0.1.1 C0.1.2.1 (by rw [C0.1.2.2.1, hl.1]) C0.1.2.2.2.1 (C0.1.2.2.2.2 _ zk_1050) (C0.1.2.2.2.2 _ zNat_ac) (C0.1.2.2.2.2 _ zSt_ac) (C0.1.2.2.2.2 _ zIn_sys) C0.2.1 Wd.1 Wd.2.1 Wd.2.2 hX 0 0 rfl rfl (nz (by decide) (by decide)) (nz (by decide) (by decide)) (nz (by omega) (by omega)) (by rw [c1, c3]; show Int.toNat 0 + Int.toNat (n : Int) ≤ bs.length; simp; omega) (by rw [c1, c3]; show Int.toNat 0 + Int.toNat (n : Int) ≤ n; simp) (fun j hj => ?_) (by decide) (by decide) dJ7_copyOfRangeByte_39247_27 (fun H locs hP hD hS => ?_)
  · rw [c1]
    rw [c3] at hj
    have q := hbn (0 + j) (by omega)
    have e : (bs.getD (0 + j) 0) = zI (zsx bs ((0 + j : Nat) : Int)) := (Int32.ofInt_toInt _).symm
    show fits .byte (.int (bs.getD (Int.toNat 0 + j) 0)) = true
    rw [show Int.toNat 0 + j = 0 + j from rfl, e]
    exact zfit_b q.1 q.2
  have Wd : rW g (va_A [] s.heap.size) s.heap [(q, .inl (g.2.2.1 11, n, .inl (zcb bs n)))] H locs := by
    refine r_eq ⟨hP, hD, hS⟩ ?_
    show [(q, _)] = _
    congr 3
    congr 2
    rw [c1, c3]
    congr 1
    funext k
    show (if Int.toNat 0 ≤ k ∧ k < Int.toNat 0 + Int.toNat (n : Int) then bs.getD (Int.toNat 0 + (k - Int.toNat 0)) 0 else 0) = if k < n then bs.getD k 0 else 0
    simp
  refine z_aload C0 hl 0 rfl dJ7_copyOfRangeByte_39247_30 ?_
  refine W.widen (k := 1) (n := 60) (by omega) (by omega) ?_
  exact r_aret C0 Wd hret (Or.inr ⟨_, rfl⟩) hlk ⟨q, rfl, rfl⟩ dJ7_copyOfRangeByte_39247_32
theorem kw_J7_copyOfRange_39247 : zKS yJ7_copyOfRange_39247 cJ7_copyOfRange_39247 3 (some (.array .byte)) 3 := ⟨zk_1178, zk_1177, zk_57, by decide, by decide, by decide +kernel⟩
set_option maxHeartbeats 4000000 in
set_option maxRecDepth 100000 in
theorem sw_copyOfRange (l : Launch) (g : zG) (b0 : Nat) (bs : List Int32) (n : Nat) (hb1 : bs.length ≤ 60) (hbn : ∀ j : Nat, j < n → 0 ≤ zsx bs (j : Int) ∧ zsx bs (j : Int) < 128) (hn : n < bs.length) : sMt l yJ7_copyOfRange_39247 cJ7_copyOfRange_39247 3 (some (.array .byte)) 2 1 60 g [] [(b0, bs)] [.ref b0, .int (zI 0), .int (zI (n : Int))] [] (fun v w1 => ∃ q, v = some (.ref q) ∧ w1 = [(q, .inl (g.2.2.1 11, n, .inl (zcb bs n)))]) := by
  refine sMt.of "java/util/Arrays" rfl (by decide +kernel) (Nat.le_of_ble_eq_true rfl) (fun {p e s m args below meth c ls} C0 Wd hl hret hlk hin hF => ?_)
  have hX : va_T .byte b0 bs.length (fun j => .int (bs.getD j 0)) _ s s.heap := hF.2 (b0, bs) List.mem_cons_self
  have zn : zR (n : Int) := zR_mk (by omega) (by omega)
  have hl : lv_has ls 3 [(0, .ref b0), (1, .int (zI 0)), (2, .int (zI (n : Int)))] := hl
  refine z_iload_n C0 hl 1 rfl dJ7_copyOfRange_39247_0 ?_
  refine z_if_ne C0 (tgt := 10) (zR_mk (by decide) (by decide)) dJ7_copyOfRange_39247_1 (by decide) (fun h => absurd rfl h) (fun _ => ?_)
  refine z_iload_n C0 hl 2 rfl dJ7_copyOfRange_39247_4 ?_
  refine z_aload_n C0 hl 0 rfl dJ7_copyOfRange_39247_5 ?_
  refine x_tlen C0 Wd.2.2 hX dJ7_copyOfRange_39247_6 ?_
  refine z_icmp_eq C0 (tgt := 17) zn (zR_mk (by omega) (by omega)) dJ7_copyOfRange_39247_7 (by decide) (fun h => absurd h (by omega)) (fun _ => ?_)
  refine z_aload_n C0 hl 0 rfl dJ7_copyOfRange_39247_10 ?_
  refine z_iload_n C0 hl 1 rfl dJ7_copyOfRange_39247_11 ?_
  refine z_iload_n C0 hl 2 rfl dJ7_copyOfRange_39247_12 ?_
  refine s_invS (wr := []) (wc := []) (As := [.ref b0, .int (zI 0), .int (zI (n : Int))]) (rest := []) C0 Wd (sw_copyByte l g b0 bs n hb1 hbn (by omega)) kw_J7_copyOfRangeByte_39247 hF zk_1179 rfl hl.1 rfl (Nat.le_of_ble_eq_true rfl) (by decide) (by decide) dJ7_copyOfRange_39247_13 (fun v w1 H locs hp Wd => ?_)
  obtain ⟨q, rfl, rfl⟩ := hp
  exact r_aret C0 Wd hret (Or.inr ⟨_, rfl⟩) hlk ⟨q, rfl, rfl⟩ dJ7_copyOfRange_39247_16
