/-! the class's questions, asked by the law's own methods -/
theorem zMt.mono {l : Launch} {y : MethodName} {cc : ByteArray} {nL : Nat} {ret : Option FieldType} {d mc ms : Nat} {g : zG} {N : zNs} {ad : Int → Nat} {av : List Value} {M F : zMem} {P P' : Option Value → zMem → zMem → Prop} (h : zMt l y cc nL ret d mc ms g N ad av M F P) (hP : ∀ v M' F', P v M' F' → P' v M' F') : zMt l y cc nL ret d mc ms g N ad av M F P' := by
  intro sz
  refine Jvm.Free.MetFree.mono (h sz) (fun _ _ z => z) (fun _ _ _ _ _ z => z) (fun a s o t _ z => ?_)
  obtain ⟨⟨⟨v, M1, F1, h1, h4, h5, h6, h7⟩, hF⟩, L⟩ := z
  exact ⟨⟨⟨v, M1, F1, h1, hP v M1 F1 h4, h5, h6, h7⟩, hF⟩, L⟩
/-- one that does not throw here -/
theorem zMx.mono {l : Launch} {y : MethodName} {cc : ByteArray} {nL : Nat} {ret : Option FieldType} {d mc ms : Nat} {g : zG} {N : zNs} {ad : Int → Nat} {av : List Value} {M F : zMem} {P P' : Option Value → zMem → zMem → Prop} {X : String → zMem → zMem → Prop} (h : zMx l y cc nL ret d mc ms g N ad av M F P X) (hP : ∀ v M' F', P v M' F' → P' v M' F') (hX : ∀ E M' F', ¬ X E M' F') : zMx l y cc nL ret d mc ms g N ad av M F P' (fun _ _ _ => False) := by
  intro hst sz
  refine Jvm.Free.MetFree.mono (h hst sz) (fun _ _ z => z) (fun _ _ _ _ _ z => z) (fun a s o t _ z => ?_)
  rcases z with ⟨⟨⟨v, M1, F1, h1, h4, h5, h6, h7⟩, hF⟩, L⟩ | ⟨q, e, E, ce, L, ⟨⟨M1, F1, hp, _⟩, _⟩, _⟩
  · exact Or.inl ⟨⟨⟨v, M1, F1, h1, hP v M1 F1 h4, h5, h6, h7⟩, hF⟩, L⟩
  · exact absurd hp (hX E M1 F1)
section ZQ
variable {g : zG} {A : Nat → Prop} {p : Program} {l : Launch} {e : Env} {R : Room} {s : State} {m : MethodId} {args : Array Value} {below : List Frame} {meth : Method} {c : Code} {H : Heap} {locs : List Loc} {cells slots : Nat} {Q : State → Prop}
variable {cc : ByteArray} {nL : Nat} {own : String} {pc : Nat} {N : zNs} {ls : Array Slot} {rest st0 : List Value} {ad : Int → Nat} {M F : zMem} {mc ms : Nat}
theorem z_invQi {P : Int → zMem → zMem → Prop} {y : MethodName} {cc' : ByteArray} {nL' : Nat} {ret' : Option FieldType} {d n idx ci Nf : Nat} {i : Int} {C : String} {T : u_T} {fs As : List Value} (C0 : zC g A p s m args c cc nL own) (Wd : zW g A s.heap N ad M F H locs) (hst9 : l.stackTraces = false) (hM : zMx l y cc' nL' ret' d mc ms g N ad (.ref (ad i) :: As) M F (zPi P) (fun _ _ _ => False)) (kv : zKV y cc' nL' ret' C n) (hi : zIn N i) (he : zE g ad i (M i) (F i) = .inr (ci, fs)) (hc : zCl[ci]? = some (C, T, Nf)) (hlink : Cond.methodLink own idx y ∈ zT) (hn : As.length = n) (hsz : ls.size = nL) (hst0 : st0 = As.reverse ++ .ref (ad i) :: rest) (hst : (rest.map fun v => v.category).sum ≤ 8) (hR : d + 1 ≤ R.frames ∧ 8 + (nL' + 11) + 60 * d ≤ R.locals) (hf : cells + mc ≤ R.cells ∧ slots + ms ≤ R.slots) (hdg : decode cc pc = .ok (.invokevirtual idx, 3)) (kk : ∀ (r : Int) (M' F' : zMem) (H1 : Heap) (locs1 : List Loc), zR r → P r M' F' → zW g A s.heap N ad M' F' H1 locs1 → W p l e R s m args below meth c H1 locs1 (cells + mc) (slots + ms) Q (F0 m (pc + 3) ls (.int (zI r) :: rest))) : W p l e R s m args below meth c H locs cells slots Q (F0 m pc ls st0) := by
  refine z_invVH C0 Wd hst9 hM kv hi he hc hlink hn hsz hst0 hst hR hf hdg (fun v M1 F1 H locs hp Wd => ?_) (fun E M1 F1 H locs q ce hp Wd hce hcv hcl => hp.elim)
  obtain ⟨r, rfl, hr, hp⟩ := hp
  exact kk r M1 F1 H locs hr hp Wd
theorem z_invQf {P : UInt32 → zMem → zMem → Prop} {y : MethodName} {cc' : ByteArray} {nL' : Nat} {ret' : Option FieldType} {d n idx ci Nf : Nat} {i : Int} {C : String} {T : u_T} {fs As : List Value} (C0 : zC g A p s m args c cc nL own) (Wd : zW g A s.heap N ad M F H locs) (hst9 : l.stackTraces = false) (hM : zMx l y cc' nL' ret' d mc ms g N ad (.ref (ad i) :: As) M F (zPf P) (fun _ _ _ => False)) (kv : zKV y cc' nL' ret' C n) (hi : zIn N i) (he : zE g ad i (M i) (F i) = .inr (ci, fs)) (hc : zCl[ci]? = some (C, T, Nf)) (hlink : Cond.methodLink own idx y ∈ zT) (hn : As.length = n) (hsz : ls.size = nL) (hst0 : st0 = As.reverse ++ .ref (ad i) :: rest) (hst : (rest.map fun v => v.category).sum ≤ 8) (hR : d + 1 ≤ R.frames ∧ 8 + (nL' + 11) + 60 * d ≤ R.locals) (hf : cells + mc ≤ R.cells ∧ slots + ms ≤ R.slots) (hdg : decode cc pc = .ok (.invokevirtual idx, 3)) (kk : ∀ (r : UInt32) (M' F' : zMem) (H1 : Heap) (locs1 : List Loc), P r M' F' → zW g A s.heap N ad M' F' H1 locs1 → W p l e R s m args below meth c H1 locs1 (cells + mc) (slots + ms) Q (F0 m (pc + 3) ls (.float r :: rest))) : W p l e R s m args below meth c H locs cells slots Q (F0 m pc ls st0) := by
  refine z_invVH C0 Wd hst9 hM kv hi he hc hlink hn hsz hst0 hst hR hf hdg (fun v M1 F1 H locs hp Wd => ?_) (fun E M1 F1 H locs q ce hp Wd hce hcv hcl => hp.elim)
  obtain ⟨r, rfl, hp⟩ := hp
  exact kk r M1 F1 H locs hp Wd
theorem z_invQd {P : UInt64 → zMem → zMem → Prop} {y : MethodName} {cc' : ByteArray} {nL' : Nat} {ret' : Option FieldType} {d n idx ci Nf : Nat} {i : Int} {C : String} {T : u_T} {fs As : List Value} (C0 : zC g A p s m args c cc nL own) (Wd : zW g A s.heap N ad M F H locs) (hst9 : l.stackTraces = false) (hM : zMx l y cc' nL' ret' d mc ms g N ad (.ref (ad i) :: As) M F (zPd P) (fun _ _ _ => False)) (kv : zKV y cc' nL' ret' C n) (hi : zIn N i) (he : zE g ad i (M i) (F i) = .inr (ci, fs)) (hc : zCl[ci]? = some (C, T, Nf)) (hlink : Cond.methodLink own idx y ∈ zT) (hn : As.length = n) (hsz : ls.size = nL) (hst0 : st0 = As.reverse ++ .ref (ad i) :: rest) (hst : (rest.map fun v => v.category).sum ≤ 8) (hR : d + 1 ≤ R.frames ∧ 8 + (nL' + 11) + 60 * d ≤ R.locals) (hf : cells + mc ≤ R.cells ∧ slots + ms ≤ R.slots) (hdg : decode cc pc = .ok (.invokevirtual idx, 3)) (kk : ∀ (r : UInt64) (M' F' : zMem) (H1 : Heap) (locs1 : List Loc), P r M' F' → zW g A s.heap N ad M' F' H1 locs1 → W p l e R s m args below meth c H1 locs1 (cells + mc) (slots + ms) Q (F0 m (pc + 3) ls (.double r :: rest))) : W p l e R s m args below meth c H locs cells slots Q (F0 m pc ls st0) := by
  refine z_invVH C0 Wd hst9 hM kv hi he hc hlink hn hsz hst0 hst hR hf hdg (fun v M1 F1 H locs hp Wd => ?_) (fun E M1 F1 H locs q ce hp Wd hce hcv hcl => hp.elim)
  obtain ⟨r, rfl, hp⟩ := hp
  exact kk r M1 F1 H locs hp Wd
end ZQ
theorem zpl_at {V : Int → Int} {p : Int} (hU : zId V) (hp : 0 ≤ p ∧ p < V 2) : zpl (V (96 + 47 * p + 0)) V = p := by
  have h : ∀ n : Nat, (n : Int) ≤ V 2 → p < n → zlast (fun q => V (96 + 47 * q + 0) = V (96 + 47 * p + 0)) n = p := by
    intro n
    induction n with
    | zero => intro _ h; omega
    | succ n ih =>
      intro h1 h2
      show (if V (96 + 47 * (n : Int) + 0) = V (96 + 47 * p + 0) then (n : Int) else _) = p
      by_cases e : p = n
      · rw [if_pos (by rw [e]), e]
      · have := hU p n hp.1 (by omega) (by omega)
        rw [if_neg (by omega)]
        exact ih (by omega) (by omega)
  exact h (V 2).toNat (by omega) (by omega)
theorem zpl_n1 {V : Int → Int} {p : Int} (hU : zId V) (hp : 0 ≤ p ∧ p < V 2) : zpl (V (96 + 47 * p + 0)) V ≠ -1 := by
  rw [zpl_at hU hp]
  omega
theorem hv_chamberCount (l : Launch) (g : zG) (zX : va_W) (ad : Int → Nat) (M F : zMem) {t many : Int} {V : Int → Int} {U : Int → Int → Int} (hL : zLw t many V U M F) : zMt l yX11_chamberCount cX11_chamberCount 1 (some .int) 1 0 0 g (0, 398, zX) ad [.ref (ad 0)] M F (zPi (fun k M' F' => k = V 0 ∧ zQm t many V U M F M' F')) := by
  refine zMt.mono (ct_X11_chamberCount l g zX ad M F V t hL.rs hL.iv) (fun v M' F' h => ?_)
  obtain ⟨r, rfl, hr, rfl, rfl, rfl⟩ := h
  exact ⟨_, rfl, hr, rfl, zQm.rf hL⟩
theorem hv_tunnelCount (l : Launch) (g : zG) (zX : va_W) (ad : Int → Nat) (M F : zMem) {t many : Int} {V : Int → Int} {U : Int → Int → Int} (hL : zLw t many V U M F) : zMt l yX11_tunnelCount cX11_tunnelCount 1 (some .int) 1 0 0 g (0, 398, zX) ad [.ref (ad 0)] M F (zPi (fun k M' F' => k = zTu V ∧ zQm t many V U M F M' F')) := by
  refine zMt.mono (ct_X11_tunnelCount l g zX ad M F V t hL.rs hL.iv) (fun v M' F' h => ?_)
  obtain ⟨r, rfl, hr, rfl, rfl, rfl⟩ := h
  exact ⟨_, rfl, hr, rfl, zQm.rf hL⟩
theorem hv_hareCount (l : Launch) (g : zG) (zX : va_W) (ad : Int → Nat) (M F : zMem) {t many : Int} {V : Int → Int} {U : Int → Int → Int} (hL : zLw t many V U M F) : zMt l yX11_hareCount cX11_hareCount 1 (some .int) 1 0 0 g (0, 398, zX) ad [.ref (ad 0)] M F (zPi (fun k M' F' => k = V 1 ∧ zQm t many V U M F M' F')) := by
  refine zMt.mono (ct_X11_hareCount l g zX ad M F V t hL.rs hL.iv) (fun v M' F' h => ?_)
  obtain ⟨r, rfl, hr, rfl, rfl, rfl⟩ := h
  exact ⟨_, rfl, hr, rfl, zQm.rf hL⟩
theorem hv_messageCount (l : Launch) (g : zG) (zX : va_W) (ad : Int → Nat) (M F : zMem) {t many : Int} {V : Int → Int} {U : Int → Int → Int} (hL : zLw t many V U M F) : zMt l yX11_messageCount cX11_messageCount 1 (some .int) 1 0 0 g (0, 398, zX) ad [.ref (ad 0)] M F (zPi (fun k M' F' => k = V 2 ∧ zQm t many V U M F M' F')) := by
  refine zMt.mono (ct_X11_messageCount l g zX ad M F V t hL.rs hL.iv) (fun v M' F' h => ?_)
  obtain ⟨r, rfl, hr, rfl, rfl, rfl⟩ := h
  exact ⟨_, rfl, hr, rfl, zQm.rf hL⟩
theorem hv_deliveries (l : Launch) (g : zG) (zX : va_W) (ad : Int → Nat) (M F : zMem) {t many : Int} {V : Int → Int} {U : Int → Int → Int} (hL : zLw t many V U M F) : zMt l yX11_deliveries cX11_deliveries 1 (some .int) 1 0 0 g (0, 398, zX) ad [.ref (ad 0)] M F (zPi (fun k M' F' => k = V 6 ∧ zQm t many V U M F M' F')) := by
  refine zMt.mono (ct_X11_deliveries l g zX ad M F V t hL.rs hL.iv) (fun v M' F' h => ?_)
  obtain ⟨r, rfl, hr, rfl, rfl, rfl⟩ := h
  exact ⟨_, rfl, hr, rfl, zQm.rf hL⟩
theorem hv_losses (l : Launch) (g : zG) (zX : va_W) (ad : Int → Nat) (M F : zMem) {t many : Int} {V : Int → Int} {U : Int → Int → Int} (hL : zLw t many V U M F) : zMt l yX11_losses cX11_losses 1 (some .int) 1 0 0 g (0, 398, zX) ad [.ref (ad 0)] M F (zPi (fun k M' F' => k = V 7 ∧ zQm t many V U M F M' F')) := by
  refine zMt.mono (ct_X11_losses l g zX ad M F V t hL.rs hL.iv) (fun v M' F' h => ?_)
  obtain ⟨r, rfl, hr, rfl, rfl, rfl⟩ := h
  exact ⟨_, rfl, hr, rfl, zQm.rf hL⟩
theorem hv_ticks (l : Launch) (g : zG) (zX : va_W) (ad : Int → Nat) (M F : zMem) {t many : Int} {V : Int → Int} {U : Int → Int → Int} (hL : zLw t many V U M F) : zMt l yX11_ticks cX11_ticks 1 (some .int) 1 0 0 g (0, 398, zX) ad [.ref (ad 0)] M F (zPi (fun k M' F' => k = V 4 ∧ zQm t many V U M F M' F')) := by
  refine zMt.mono (ct_X11_ticks l g zX ad M F V t hL.rs hL.iv) (fun v M' F' h => ?_)
  obtain ⟨r, rfl, hr, rfl, rfl, rfl⟩ := h
  exact ⟨_, rfl, hr, rfl, zQm.rf hL⟩
theorem hv_thumpsDrummed (l : Launch) (g : zG) (zX : va_W) (ad : Int → Nat) (M F : zMem) {t many : Int} {V : Int → Int} {U : Int → Int → Int} (hL : zLw t many V U M F) : zMt l yX11_thumpsDrummed cX11_thumpsDrummed 1 (some .int) 1 0 0 g (0, 398, zX) ad [.ref (ad 0)] M F (zPi (fun k M' F' => k = V 5 ∧ zQm t many V U M F M' F')) := by
  refine zMt.mono (ct_X11_thumpsDrummed l g zX ad M F V t hL.rs hL.iv) (fun v M' F' h => ?_)
  obtain ⟨r, rfl, hr, rfl, rfl, rfl⟩ := h
  exact ⟨_, rfl, hr, rfl, zQm.rf hL⟩
theorem hv_undoCount (l : Launch) (g : zG) (zX : va_W) (ad : Int → Nat) (M F : zMem) {t many : Int} {V : Int → Int} {U : Int → Int → Int} (hL : zLw t many V U M F) : zMt l yX11_undoCount cX11_undoCount 1 (some .int) 0 0 0 g (0, 398, zX) ad [.ref (ad 0)] M F (zPi (fun k M' F' => k = many ∧ zQm t many V U M F M' F')) := by
  refine zMt.mono (ct_X11_undoCount l g zX ad M F) (fun v M' F' h => ?_)
  obtain ⟨r, rfl, hr, rfl, rfl, rfl⟩ := h
  exact ⟨_, rfl, hr, hL.hi.1, zQm.rf hL⟩
theorem hv_isConsistent (l : Launch) (g : zG) (zX : va_W) (ad : Int → Nat) (M F : zMem) {t many : Int} {V : Int → Int} {U : Int → Int → Int} (hL : zLw t many V U M F) : zMt l yX11_isConsistent cX11_isConsistent 1 (some .boolean) 5 0 0 g (0, 398, zX) ad [.ref (ad 0)] M F (zPi (fun k M' F' => k = 1 ∧ zQm t many V U M F M' F')) := by
  refine zMt.mono (ct_X11_isConsistent l g zX ad M F V t hL.rs hL.iv hL.one hL.tn) (fun v M' F' h => ?_)
  obtain ⟨r, rfl, hr, w, rfl, rfl, rfl⟩ := h
  exact ⟨_, rfl, hr, rfl, zQm_5 hL⟩
theorem hv_loudness (l : Launch) (g : zG) (zX : va_W) (ad : Int → Nat) (M F : zMem) {t many : Int} {V : Int → Int} {U : Int → Int → Int} (hL : zLw t many V U M F) (x0 : Int) (hx0 : zR x0) (x1 : Int) (hx1 : zR x1) (hg : zisC V x0 ∧ zisC V x1) : zMx l yX11_loudness cX11_loudness 3 (some .float) 8 2 12 g (0, 398, zX) ad [.ref (ad 0), .int (zI x0), .int (zI x1)] M F (zPf (fun k M' F' => k = zLd x0 x1 V ∧ zQm t many V U M F M' F')) (fun _ _ _ => False) := by
  refine zMx.mono (ct_X11_loudness l g zX ad M F V t x0 hx0 x1 hx1 hL.rs hL.iv) (fun v M' F' h => ?_) (fun E M' F' h => ?_)
  · obtain ⟨r, rfl, -, rfl, rfl, rfl⟩ := h
    exact ⟨_, rfl, rfl, zQm.rf hL⟩
  · exact h.1.2 hg
theorem hv_meanLoudness (l : Launch) (g : zG) (zX : va_W) (ad : Int → Nat) (M F : zMem) {t many : Int} {V : Int → Int} {U : Int → Int → Int} (hL : zLw t many V U M F) (x0 : Int) (hx0 : zR x0) (hg : zisC V x0) : zMx l yX11_meanLoudness cX11_meanLoudness 5 (some .float) 8 1 6 g (0, 398, zX) ad [.ref (ad 0), .int (zI x0)] M F (zPf (fun k M' F' => k = zMl x0 V ∧ zQm t many V U M F M' F')) (fun _ _ _ => False) := by
  refine zMx.mono (ct_X11_meanLoudness l g zX ad M F V t x0 hx0 hL.rs hL.iv) (fun v M' F' h => ?_) (fun E M' F' h => ?_)
  · obtain ⟨r, rfl, -, rfl, rfl, rfl⟩ := h
    exact ⟨_, rfl, rfl, zQm.rf hL⟩
  · exact h.1.2 hg
theorem hv_deliveryFraction (l : Launch) (g : zG) (zX : va_W) (ad : Int → Nat) (M F : zMem) {t many : Int} {V : Int → Int} {U : Int → Int → Int} (hL : zLw t many V U M F) (hg : V 6 + V 7 ≠ 0) (ht : t < 1000000000) : zMx l yX11_deliveryFraction cX11_deliveryFraction 2 (some .double) 8 1 6 g (0, 398, zX) ad [.ref (ad 0)] M F (zPd (fun k M' F' => k = zDf V ∧ zQm t many V U M F M' F')) (fun _ _ _ => False) := by
  refine zMx.mono (ct_X11_deliveryFraction l g zX ad M F V t hL.rs hL.iv ht) (fun v M' F' h => ?_) (fun E M' F' h => ?_)
  · obtain ⟨r, rfl, -, rfl, rfl, rfl⟩ := h
    exact ⟨_, rfl, rfl, zQm.rf hL⟩
  · exact hg h.1.2
theorem hv_message (l : Launch) (g : zG) (zX : va_W) (ad : Int → Nat) (M F : zMem) {t many : Int} {V : Int → Int} {U : Int → Int → Int} (hL : zLw t many V U M F) (x0 : Int) (hx0 : zR x0) (hg : 0 ≤ x0 ∧ x0 < V 2) : zMx l yX11_message cX11_message 2 (some .int) 8 1 6 g (0, 398, zX) ad [.ref (ad 0), .int (zI x0)] M F (zPi (fun k M' F' => k = V (96 + 47 * x0 + 0) ∧ zQm t many V U M F M' F')) (fun _ _ _ => False) := by
  refine zMx.mono (ct_X11_message l g zX ad M F V t x0 hx0 hL.rs hL.iv) (fun v M' F' h => ?_) (fun E M' F' h => ?_)
  · obtain ⟨r, rfl, hr, -, rfl, rfl, rfl⟩ := h
    exact ⟨_, rfl, hr, rfl, zQm.rf hL⟩
  · exact h.1.2 hg
theorem hv_chamberOf (l : Launch) (g : zG) (zX : va_W) (ad : Int → Nat) (M F : zMem) {t many : Int} {V : Int → Int} {U : Int → Int → Int} (hL : zLw t many V U M F) (x0 : Int) (hx0 : zR x0) (hg : zisH V x0) : zMx l yX11_chamberOf cX11_chamberOf 2 (some .int) 8 1 6 g (0, 398, zX) ad [.ref (ad 0), .int (zI x0)] M F (zPi (fun k M' F' => k = V (72 + 4 * x0 + 0) ∧ zQm t many V U M F M' F')) (fun _ _ _ => False) := by
  refine zMx.mono (ct_X11_chamberOf l g zX ad M F V t x0 hx0 hL.rs hL.iv) (fun v M' F' h => ?_) (fun E M' F' h => ?_)
  · obtain ⟨r, rfl, hr, -, rfl, rfl, rfl⟩ := h
    exact ⟨_, rfl, hr, rfl, zQm.rf hL⟩
  · exact h.1.2 hg
theorem hv_isListening (l : Launch) (g : zG) (zX : va_W) (ad : Int → Nat) (M F : zMem) {t many : Int} {V : Int → Int} {U : Int → Int → Int} (hL : zLw t many V U M F) (x0 : Int) (hx0 : zR x0) (hg : zisH V x0) : zMx l yX11_isListening cX11_isListening 2 (some .boolean) 8 1 6 g (0, 398, zX) ad [.ref (ad 0), .int (zI x0)] M F (zPi (fun k M' F' => k = V (72 + 4 * x0 + 1) ∧ zQm t many V U M F M' F')) (fun _ _ _ => False) := by
  refine zMx.mono (ct_X11_isListening l g zX ad M F V t x0 hx0 hL.rs hL.iv) (fun v M' F' h => ?_) (fun E M' F' h => ?_)
  · obtain ⟨r, rfl, hr, -, rfl, rfl, rfl⟩ := h
    exact ⟨_, rfl, hr, rfl, zQm.rf hL⟩
  · exact h.1.2 hg
theorem hv_received (l : Launch) (g : zG) (zX : va_W) (ad : Int → Nat) (M F : zMem) {t many : Int} {V : Int → Int} {U : Int → Int → Int} (hL : zLw t many V U M F) (x0 : Int) (hx0 : zR x0) (hg : zisH V x0) : zMx l yX11_received cX11_received 2 (some .int) 8 1 6 g (0, 398, zX) ad [.ref (ad 0), .int (zI x0)] M F (zPi (fun k M' F' => k = V (72 + 4 * x0 + 2) ∧ zQm t many V U M F M' F')) (fun _ _ _ => False) := by
  refine zMx.mono (ct_X11_received l g zX ad M F V t x0 hx0 hL.rs hL.iv) (fun v M' F' h => ?_) (fun E M' F' h => ?_)
  · obtain ⟨r, rfl, hr, -, rfl, rfl, rfl⟩ := h
    exact ⟨_, rfl, hr, rfl, zQm.rf hL⟩
  · exact h.1.2 hg
theorem hv_thumpsHeard (l : Launch) (g : zG) (zX : va_W) (ad : Int → Nat) (M F : zMem) {t many : Int} {V : Int → Int} {U : Int → Int → Int} (hL : zLw t many V U M F) (x0 : Int) (hx0 : zR x0) (x1 : Int) (hx1 : zR x1) (hg : zisC V x0 ∧ (V 4 - 20 ≤ x1 ∧ x1 ≤ V 4 + 80)) (ht : t ≤ 100000000) : zMx l yX11_thumpsHeard cX11_thumpsHeard 3 (some .int) 8 2 12 g (0, 398, zX) ad [.ref (ad 0), .int (zI x0), .int (zI x1)] M F (zPi (fun k M' F' => k = V (472 + 128 * x0 + x1 % 128) ∧ zQm t many V U M F M' F')) (fun _ _ _ => False) := by
  refine zMx.mono (ct_X11_thumpsHeard l g zX ad M F V t x0 hx0 x1 hx1 hL.rs hL.iv ht) (fun v M' F' h => ?_) (fun E M' F' h => ?_)
  · obtain ⟨r, rfl, hr, -, rfl, rfl, rfl⟩ := h
    exact ⟨_, rfl, hr, rfl, zQm.rf hL⟩
  · rcases h.1 with h | h
    · exact h.2 hg.1
    · exact h.2.2 hg.2
theorem hv_sender (l : Launch) (g : zG) (zX : va_W) (ad : Int → Nat) (M F : zMem) {t many : Int} {V : Int → Int} {U : Int → Int → Int} (hL : zLw t many V U M F) (x0 : Int) (hx0 : zR x0) (hg : zpl x0 V ≠ -1) : zMx l yX11_sender cX11_sender 2 (some .int) 8 1 6 g (0, 398, zX) ad [.ref (ad 0), .int (zI x0)] M F (zPi (fun k M' F' => k = V (96 + 47 * (zpl x0 V) + 1) ∧ zQm t many V U M F M' F')) (fun _ _ _ => False) := by
  refine zMx.mono (ct_X11_sender l g zX ad M F V t x0 hx0 hL.rs hL.iv hL.id) (fun v M' F' h => ?_) (fun E M' F' h => ?_)
  · obtain ⟨r, rfl, hr, -, rfl, rfl, rfl⟩ := h
    exact ⟨_, rfl, hr, rfl, zQm.rf hL⟩
  · exact h.1.2 hg
theorem hv_receiver (l : Launch) (g : zG) (zX : va_W) (ad : Int → Nat) (M F : zMem) {t many : Int} {V : Int → Int} {U : Int → Int → Int} (hL : zLw t many V U M F) (x0 : Int) (hx0 : zR x0) (hg : zpl x0 V ≠ -1) : zMx l yX11_receiver cX11_receiver 2 (some .int) 8 1 6 g (0, 398, zX) ad [.ref (ad 0), .int (zI x0)] M F (zPi (fun k M' F' => k = V (96 + 47 * (zpl x0 V) + 2) ∧ zQm t many V U M F M' F')) (fun _ _ _ => False) := by
  refine zMx.mono (ct_X11_receiver l g zX ad M F V t x0 hx0 hL.rs hL.iv hL.id) (fun v M' F' h => ?_) (fun E M' F' h => ?_)
  · obtain ⟨r, rfl, hr, -, rfl, rfl, rfl⟩ := h
    exact ⟨_, rfl, hr, rfl, zQm.rf hL⟩
  · exact h.1.2 hg
theorem hv_state (l : Launch) (g : zG) (zX : va_W) (ad : Int → Nat) (M F : zMem) {t many : Int} {V : Int → Int} {U : Int → Int → Int} (hL : zLw t many V U M F) (x0 : Int) (hx0 : zR x0) (hg : zpl x0 V ≠ -1) : zMx l yX11_state cX11_state 2 (some .char) 8 1 6 g (0, 398, zX) ad [.ref (ad 0), .int (zI x0)] M F (zPi (fun k M' F' => k = V (96 + 47 * (zpl x0 V) + 4) ∧ zQm t many V U M F M' F')) (fun _ _ _ => False) := by
  refine zMx.mono (ct_X11_state l g zX ad M F V t x0 hx0 hL.rs hL.iv hL.id) (fun v M' F' h => ?_) (fun E M' F' h => ?_)
  · obtain ⟨r, rfl, hr, -, rfl, rfl, rfl⟩ := h
    exact ⟨_, rfl, hr, rfl, zQm.rf hL⟩
  · exact h.1.2 hg
theorem hv_timesLost (l : Launch) (g : zG) (zX : va_W) (ad : Int → Nat) (M F : zMem) {t many : Int} {V : Int → Int} {U : Int → Int → Int} (hL : zLw t many V U M F) (x0 : Int) (hx0 : zR x0) (hg : zpl x0 V ≠ -1) : zMx l yX11_timesLost cX11_timesLost 2 (some .int) 8 1 6 g (0, 398, zX) ad [.ref (ad 0), .int (zI x0)] M F (zPi (fun k M' F' => k = V (96 + 47 * (zpl x0 V) + 5) ∧ zQm t many V U M F M' F')) (fun _ _ _ => False) := by
  refine zMx.mono (ct_X11_timesLost l g zX ad M F V t x0 hx0 hL.rs hL.iv hL.id) (fun v M' F' h => ?_) (fun E M' F' h => ?_)
  · obtain ⟨r, rfl, hr, -, rfl, rfl, rfl⟩ := h
    exact ⟨_, rfl, hr, rfl, zQm.rf hL⟩
  · exact h.1.2 hg
theorem hv_beatsDrummed (l : Launch) (g : zG) (zX : va_W) (ad : Int → Nat) (M F : zMem) {t many : Int} {V : Int → Int} {U : Int → Int → Int} (hL : zLw t many V U M F) (x0 : Int) (hx0 : zR x0) (hg : zpl x0 V ≠ -1) : zMx l yX11_beatsDrummed cX11_beatsDrummed 2 (some .int) 8 1 6 g (0, 398, zX) ad [.ref (ad 0), .int (zI x0)] M F (zPi (fun k M' F' => k = V (96 + 47 * (zpl x0 V) + 6) ∧ zQm t many V U M F M' F')) (fun _ _ _ => False) := by
  refine zMx.mono (ct_X11_beatsDrummed l g zX ad M F V t x0 hx0 hL.rs hL.iv hL.id) (fun v M' F' h => ?_) (fun E M' F' h => ?_)
  · obtain ⟨r, rfl, hr, -, rfl, rfl, rfl⟩ := h
    exact ⟨_, rfl, hr, rfl, zQm.rf hL⟩
  · exact h.1.2 hg
theorem ks_L_drawn : zKS yL_drawn cL_drawn 9 (some (.object "DrumWarren")) 1 := ⟨zk_64, zk_63, zk_24, by decide, by decide, by decide +kernel⟩
theorem ks_L_cell : zKS yL_cell cL_cell 2 (some .int) 2 := ⟨zk_372, zk_371, zk_24, by decide, by decide, by decide +kernel⟩
theorem ks_L_ways : zKS yL_ways cL_ways 9 (some .boolean) 1 := ⟨zk_772, zk_771, zk_24, by decide, by decide, by decide +kernel⟩
theorem ks_L_nearest : zKS yL_nearest cL_nearest 7 (some .int) 4 := ⟨zk_807, zk_806, zk_24, by decide, by decide, by decide +kernel⟩
theorem ks_L_hares : zKS yL_hares cL_hares 9 (some .boolean) 1 := ⟨zk_866, zk_865, zk_24, by decide, by decide, by decide +kernel⟩
theorem ks_L_messages : zKS yL_messages cL_messages 10 (some .boolean) 1 := ⟨zk_976, zk_975, zk_24, by decide, by decide, by decide +kernel⟩
theorem ks_L_numberOf : zKS yL_numberOf cL_numberOf 7 (some .int) 2 := ⟨zk_986, zk_985, zk_24, by decide, by decide, by decide +kernel⟩
theorem ks_L_spells : zKS yL_spells cL_spells 5 (some .boolean) 3 := ⟨zk_1333, zk_1332, zk_24, by decide, by decide, by decide +kernel⟩
theorem ks_L_codes : zKS yL_codes cL_codes 8 (some .boolean) 1 := ⟨zk_1434, zk_1433, zk_24, by decide, by decide, by decide +kernel⟩
theorem ks_L_undone : zKS yL_undone cL_undone 8 (some .boolean) 2 := ⟨zk_1470, zk_1469, zk_24, by decide, by decide, by decide +kernel⟩
theorem ks_L_sum : zKS yL_sum cL_sum 5 (some .long) 1 := ⟨zk_1473, zk_1472, zk_24, by decide, by decide, by decide +kernel⟩
theorem ks_L_execute : zKS yL_execute cL_execute 3 (some .int) 2 := ⟨zk_1528, zk_1527, zk_24, by decide, by decide, by decide +kernel⟩
