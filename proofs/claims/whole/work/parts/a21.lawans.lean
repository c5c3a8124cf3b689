/-! the model's answers in the law -/
section LAW4

variable {g : zG} {A : Nat → Prop} {p : Program} {l : Launch} {e : Env} {R : Room} {s : State} {m : MethodId} {args : Array Value} {below : List Frame} {meth : Method} {c : Code} {H : Heap} {locs : List Loc} {cells slots : Nat} {Q : State → Prop}
variable {cc : ByteArray} {nL : Nat} {own : String} {pc N : Nat} {ls : Array Slot} {rest st0 : List Value} {ad : Int → Nat} {M F : zMem}
variable {mc ms : Nat} {a : Array Value}

variable {t d k : Int} {pm : Option Value → zMem → zMem → Prop} {y : MethodName} {cc' : ByteArray} {nL' : Nat} {ret' : Option FieldType} {n idx ci Nf dd : Nat} {i : Int} {C : String} {T : u_T} {fs As : List Value}
theorem z_invAi (C0 : zC g A p s m args c cc nL own) (Wd : zW g A s.heap N ad M F H locs) (hM : zMt l y cc' nL' ret' dd mc ms g N ad (.ref (ad i) :: As) M F pm) (hpm : ∀ v M2 F2, pm v M2 F2 → zAi t d k v M2 F2) (kv : zKV y cc' nL' ret' C n) (hi : 0 ≤ i ∧ i < N) (he : zE g ad i (M i) (F i) = .inr (ci, fs)) (hc : zCl[ci]? = some (C, T, Nf)) (hlink : Cond.methodLink own idx y ∈ zT) (hn : As.length = n) (hsz : ls.size = nL) (hst0 : st0 = As.reverse ++ .ref (ad i) :: rest) (hst : (rest.map fun v => v.category).sum ≤ 8) (hR : dd + 1 ≤ R.frames ∧ 8 + (nL' + 11) + 60 * dd ≤ R.locals) (hf : cells + mc ≤ R.cells ∧ slots + ms ≤ R.slots) (hdg : decode cc pc = .ok (.invokevirtual idx, 3))
    (kk : ∀ (b : Int) (M' F' : zMem) (H1 : Heap) (locs1 : List Loc), zR b → M' 398 8 = k → (k = 0 → M' 408 0 = b) → zCR t d M' F' → zW g A s.heap N ad M' F' H1 locs1 → W p l e R s m args below meth c H1 locs1 (cells + mc) (slots + ms) Q (F0 m (pc + 3) ls (.int (zI b) :: rest))) : W p l e R s m args below meth c H locs cells slots Q (F0 m pc ls st0) :=
  z_invV C0 Wd hM kv hi he hc hlink hn hsz hst0 hst hR hf hdg (fun v M1 F1 H1 locs1 hp hw => by
    obtain ⟨b, rfl, h1, h2, h3, h4⟩ := hpm v M1 F1 hp
    exact kk b M1 F1 H1 locs1 h1 h2 h3 h4 hw)
theorem z_invAb (C0 : zC g A p s m args c cc nL own) (Wd : zW g A s.heap N ad M F H locs) (hM : zMt l y cc' nL' ret' dd mc ms g N ad (.ref (ad i) :: As) M F pm) (hpm : ∀ v M2 F2, pm v M2 F2 → zAb t d k v M2 F2) (kv : zKV y cc' nL' ret' C n) (hi : 0 ≤ i ∧ i < N) (he : zE g ad i (M i) (F i) = .inr (ci, fs)) (hc : zCl[ci]? = some (C, T, Nf)) (hlink : Cond.methodLink own idx y ∈ zT) (hn : As.length = n) (hsz : ls.size = nL) (hst0 : st0 = As.reverse ++ .ref (ad i) :: rest) (hst : (rest.map fun v => v.category).sum ≤ 8) (hR : dd + 1 ≤ R.frames ∧ 8 + (nL' + 11) + 60 * dd ≤ R.locals) (hf : cells + mc ≤ R.cells ∧ slots + ms ≤ R.slots) (hdg : decode cc pc = .ok (.invokevirtual idx, 3))
    (kk : ∀ (b : Int) (M' F' : zMem) (H1 : Heap) (locs1 : List Loc), (b = 0 ∨ b = 1) → M' 398 8 = k → (k = 0 → M' 408 0 = b) → zCR t d M' F' → zW g A s.heap N ad M' F' H1 locs1 → W p l e R s m args below meth c H1 locs1 (cells + mc) (slots + ms) Q (F0 m (pc + 3) ls (.int (zI b) :: rest))) : W p l e R s m args below meth c H locs cells slots Q (F0 m pc ls st0) :=
  z_invV C0 Wd hM kv hi he hc hlink hn hsz hst0 hst hR hf hdg (fun v M1 F1 H1 locs1 hp hw => by
    obtain ⟨b, rfl, h1, h2, h3, h4⟩ := hpm v M1 F1 hp
    exact kk b M1 F1 H1 locs1 h1 h2 h3 h4 hw)
theorem z_invAf (C0 : zC g A p s m args c cc nL own) (Wd : zW g A s.heap N ad M F H locs) (hM : zMt l y cc' nL' ret' dd mc ms g N ad (.ref (ad i) :: As) M F pm) (hpm : ∀ v M2 F2, pm v M2 F2 → zAf t d k v M2 F2) (kv : zKV y cc' nL' ret' C n) (hi : 0 ≤ i ∧ i < N) (he : zE g ad i (M i) (F i) = .inr (ci, fs)) (hc : zCl[ci]? = some (C, T, Nf)) (hlink : Cond.methodLink own idx y ∈ zT) (hn : As.length = n) (hsz : ls.size = nL) (hst0 : st0 = As.reverse ++ .ref (ad i) :: rest) (hst : (rest.map fun v => v.category).sum ≤ 8) (hR : dd + 1 ≤ R.frames ∧ 8 + (nL' + 11) + 60 * dd ≤ R.locals) (hf : cells + mc ≤ R.cells ∧ slots + ms ≤ R.slots) (hdg : decode cc pc = .ok (.invokevirtual idx, 3))
    (kk : ∀ (b : UInt32) (M' F' : zMem) (H1 : Heap) (locs1 : List Loc), M' 398 8 = k → (k = 0 → zf64 (FP.f2d b) ∧ F' 409 0 = dbi (FP.f2d b)) → zCR t d M' F' → zW g A s.heap N ad M' F' H1 locs1 → W p l e R s m args below meth c H1 locs1 (cells + mc) (slots + ms) Q (F0 m (pc + 3) ls (.float b :: rest))) : W p l e R s m args below meth c H locs cells slots Q (F0 m pc ls st0) :=
  z_invV C0 Wd hM kv hi he hc hlink hn hsz hst0 hst hR hf hdg (fun v M1 F1 H1 locs1 hp hw => by
    obtain ⟨b, rfl, h2, h3, h4⟩ := hpm v M1 F1 hp
    exact kk b M1 F1 H1 locs1 h2 h3 h4 hw)
theorem z_invAd (C0 : zC g A p s m args c cc nL own) (Wd : zW g A s.heap N ad M F H locs) (hM : zMt l y cc' nL' ret' dd mc ms g N ad (.ref (ad i) :: As) M F pm) (hpm : ∀ v M2 F2, pm v M2 F2 → zAd t d k v M2 F2) (kv : zKV y cc' nL' ret' C n) (hi : 0 ≤ i ∧ i < N) (he : zE g ad i (M i) (F i) = .inr (ci, fs)) (hc : zCl[ci]? = some (C, T, Nf)) (hlink : Cond.methodLink own idx y ∈ zT) (hn : As.length = n) (hsz : ls.size = nL) (hst0 : st0 = As.reverse ++ .ref (ad i) :: rest) (hst : (rest.map fun v => v.category).sum ≤ 8) (hR : dd + 1 ≤ R.frames ∧ 8 + (nL' + 11) + 60 * dd ≤ R.locals) (hf : cells + mc ≤ R.cells ∧ slots + ms ≤ R.slots) (hdg : decode cc pc = .ok (.invokevirtual idx, 3))
    (kk : ∀ (b : UInt64) (M' F' : zMem) (H1 : Heap) (locs1 : List Loc), M' 398 8 = k → (k = 0 → zf64 b ∧ F' 409 0 = dbi b) → zCR t d M' F' → zW g A s.heap N ad M' F' H1 locs1 → W p l e R s m args below meth c H1 locs1 (cells + mc) (slots + ms) Q (F0 m (pc + 3) ls (.double b :: rest))) : W p l e R s m args below meth c H locs cells slots Q (F0 m pc ls st0) :=
  z_invV C0 Wd hM kv hi he hc hlink hn hsz hst0 hst hR hf hdg (fun v M1 F1 H1 locs1 hp hw => by
    obtain ⟨b, rfl, h2, h3, h4⟩ := hpm v M1 F1 hp
    exact kk b M1 F1 H1 locs1 h2 h3 h4 hw)
end LAW4
