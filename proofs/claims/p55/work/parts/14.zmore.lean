/-! further rows: booleans, copies, chars, places by name -/
def zb (c : Prop) [Decidable c] : Int := if c then 1 else 0
theorem zb_t {c : Prop} [Decidable c] (h : c) : zb c = 1 := if_pos h
theorem zb_f {c : Prop} [Decidable c] (h : ¬ c) : zb c = 0 := if_neg h
theorem zb_01 (c : Prop) [Decidable c] : zb c = 0 ∨ zb c = 1 := by unfold zb; split <;> simp
theorem zb_R (c : Prop) [Decidable c] : zR (zb c) := by unfold zb; split <;> exact ⟨by decide, by decide⟩
theorem zb_0 {c : Prop} [Decidable c] : zb c = 0 ↔ ¬ c := by unfold zb; split <;> simp_all
theorem zb_1 {c : Prop} [Decidable c] : zb c = 1 ↔ c := by unfold zb; split <;> simp_all
/-- copied: n numbers of the row i1 from sp on to the row i2 from dp on -/
def zcpy (M : zMem) (i1 sp i2 dp n : Int) : zMem := zrow M i2 (fun j => if dp ≤ j ∧ j < dp + n then M i1 (sp + (j - dp)) else M i2 j)
theorem zRM_zcpy {M : zMem} {i1 sp i2 dp n : Int} (h : zRM M) : zRM (zcpy M i1 sp i2 dp n) := zRM_zrow h (fun j => by split <;> exact h _ _)
theorem fb_char {n : Nat} (h : n < 65536) : (nI n).toUInt32.toUInt16.toUInt32.toInt32 = nI n := by
  apply Int32.toBitVec_inj.1
  apply BitVec.eq_of_toNat_eq
  have e1 : (nI n).toBitVec.toNat = n := by
    show (BitVec.ofNat 32 n).toNat = n
    rw [BitVec.toNat_ofNat, Nat.mod_eq_of_lt (by omega)]
  have e2 : ((nI n).toUInt32.toUInt16.toUInt32).toNat = n := by
    rw [UInt16.toNat_toUInt32, UInt32.toNat_toUInt16]
    show (nI n).toBitVec.toNat % 2 ^ 16 = n
    rw [e1, Nat.mod_eq_of_lt (by omega)]
  rw [e1]
  exact e2
section ZM
variable {g : zG} {A : Nat → Prop} {p : Program} {l : Launch} {e : Env} {R : Room} {s : State} {m : MethodId} {args : Array Value} {below : List Frame} {meth : Method} {c : Code} {H : Heap} {locs : List Loc} {cells slots : Nat} {Q : State → Prop}
variable {cc : ByteArray} {nL : Nat} {own : String} {pc : Nat} {N : zNs} {ls : Array Slot} {rest : List Value} {ad : Int → Nat} {M F : zMem}
theorem z_rf {i j : Int} (h : i = j) (k : W p l e R s m args below meth c H locs cells slots Q (F0 m pc ls (.ref (ad j) :: rest))) : W p l e R s m args below meth c H locs cells slots Q (F0 m pc ls (.ref (ad i) :: rest)) := by rw [h]; exact k
theorem z_if_eq_b (C0 : zC g A p s m args c cc nL own) {P : Prop} [Decidable P] {off : Int} {tgt : Nat} (hdg : decode cc pc = .ok (.ifCond .eq off, 3)) (ht : (pc : Int) + off = (tgt : Int)) (k1 : ¬ P → W p l e R s m args below meth c H locs cells slots Q (F0 m tgt ls rest)) (k2 : P → W p l e R s m args below meth c H locs cells slots Q (F0 m (pc + 3) ls rest)) : W p l e R s m args below meth c H locs cells slots Q (F0 m pc ls (.int (zI (zb P)) :: rest)) := z_if_eq C0 (zb_R P) hdg ht (fun h => k1 (zb_0.mp h)) (fun h => k2 (Decidable.byContradiction fun q => h (zb_f q)))
theorem z_if_ne_b (C0 : zC g A p s m args c cc nL own) {P : Prop} [Decidable P] {off : Int} {tgt : Nat} (hdg : decode cc pc = .ok (.ifCond .ne off, 3)) (ht : (pc : Int) + off = (tgt : Int)) (k1 : P → W p l e R s m args below meth c H locs cells slots Q (F0 m tgt ls rest)) (k2 : ¬ P → W p l e R s m args below meth c H locs cells slots Q (F0 m (pc + 3) ls rest)) : W p l e R s m args below meth c H locs cells slots Q (F0 m pc ls (.int (zI (zb P)) :: rest)) := z_if_ne C0 (zb_R P) hdg ht (fun h => k1 (Decidable.byContradiction fun q => h (zb_f q))) (fun h => k2 (zb_0.mp h))
theorem z_ldc (C0 : zC g A p s m args c cc nL own) {n : Int32} {v : Int} {index : Nat} (hconst : Cond.constant own index n ∈ zT) (hv : n = zI v) (hdg : decode cc pc = .ok (.ldc index, 2)) (k : W p l e R s m args below meth c H locs cells slots Q (F0 m (pc + 2) ls (.int (zI v) :: rest))) : W p l e R s m args below meth c H locs cells slots Q (F0 m pc ls rest) := lv_ldc C0.1.1 C0.1.2.1 C0.1.2.2.2.1 (C0.1.2.2.2.2 _ hconst) hdg (by rw [hv]; exact k)
theorem zI_char {x : Int} (h0 : 0 ≤ x) (h1 : x < 65536) : ((zI x).toUInt32 % 65536).toInt32 = zI x := by
  obtain ⟨n, rfl⟩ : ∃ n : Nat, x = n := ⟨x.toNat, by omega⟩
  rw [zI_nI, pk_char, pk_tn (by omega), Nat.mod_eq_of_lt (by omega)]
theorem z_i2c (C0 : zC g A p s m args c cc nL own) {x : Int32} {v : Int} (hv : (x.toUInt32 % 65536).toInt32 = zI v) (hdg : decode cc pc = .ok (.i2c, 1)) (k : W p l e R s m args below meth c H locs cells slots Q (F0 m (pc + 1) ls (.int (zI v) :: rest))) : W p l e R s m args below meth c H locs cells slots Q (F0 m pc ls (.int x :: rest)) := lv_i2c C0.1.1 C0.1.2.1 hdg hv k
theorem z_ishl (C0 : zC g A p s m args c cc nL own) {x y : Int32} {v : Int} (hv : x <<< (y &&& 31) = zI v) (hdg : decode cc pc = .ok (.ishl, 1)) (k : W p l e R s m args below meth c H locs cells slots Q (F0 m (pc + 1) ls (.int (zI v) :: rest))) : W p l e R s m args below meth c H locs cells slots Q (F0 m pc ls (.int y :: .int x :: rest)) := lv_ishl C0.1.1 C0.1.2.1 hdg (by rw [hv]; exact k)
theorem z_ishr (C0 : zC g A p s m args c cc nL own) {x y : Int32} {v : Int} (hv : x >>> (y &&& 31) = zI v) (hdg : decode cc pc = .ok (.ishr, 1)) (k : W p l e R s m args below meth c H locs cells slots Q (F0 m (pc + 1) ls (.int (zI v) :: rest))) : W p l e R s m args below meth c H locs cells slots Q (F0 m pc ls (.int y :: .int x :: rest)) := lv_ishr C0.1.1 C0.1.2.1 hdg (by rw [hv]; exact k)
theorem z_copyi (C0 : zC g A p s m args c cc nL own) (Wd : zW g A s.heap N ad M F H locs) (hsz : ls.size = nL) {i1 i2 : Int} {n1 n2 idx : Nat} {sp dp n : Int} (hi1 : zIn N i1) (hi2 : zIn N i2) (hk1 : zkd i1 = 13) (hk2 : zkd i2 = 13) (hn1 : zln i1 = n1) (hn2 : zln i2 = n2) (hb1 : n1 ≤ 2147483647) (hb2 : n2 ≤ 2147483647) (h1 : 0 ≤ sp) (h2 : 0 ≤ dp) (h3 : 0 ≤ n) (h4 : sp + n ≤ n1) (h5 : dp + n ≤ n2) (hR : 1 ≤ R.frames ∧ (rest.map fun v => v.category).sum + (nativeFrameWords "java/lang/System" "arraycopy" 5 + 11) ≤ R.locals) (hlink : Cond.methodLink own idx arraycopyName ∈ zT) (hdg : decode cc pc = .ok (.invokestatic idx, 3)) (kk : ∀ (H1 : Heap) (locs1 : List Loc), zW g A s.heap N ad (zcpy M i1 sp i2 dp n) F H1 locs1 → W p l e R s m args below meth c H1 locs1 cells slots Q (F0 m (pc + 3) ls rest)) : W p l e R s m args below meth c H locs cells slots Q (F0 m pc ls (.int (zI n) :: .int (zI dp) :: .ref (ad i2) :: .int (zI sp) :: .ref (ad i1) :: rest)) := by
  have c1 := zI_clamp h1 (by omega)
  have c2 := zI_clamp h2 (by omega)
  have c3 := zI_clamp h3 (by omega)
  have nz : ∀ {x : Int}, 0 ≤ x → x < 2147483648 → ¬ zI x < 0 := by
    intro x h0 h9
    rw [Int32.lt_iff_toInt_lt, zI_toInt (by omega) h9]
    simp
    omega
  refine va_copyi C0.1.1 C0.1.2.1 (by rw [C0.1.2.2.1, hsz]) C0.1.2.2.2.1 (C0.1.2.2.2.2 _ hlink) (C0.1.2.2.2.2 _ zNat_ac) (C0.1.2.2.2.2 _ zSt_ac) (C0.1.2.2.2.2 _ zIn_sys) C0.2.1 Wd.1.1 Wd.1.2.1 Wd.1.2.2 (i1 - N.1).toNat (i2 - N.1).toNat 2 2 (by rw [wl_get hi1, zE_13 hk1, hn1]) (by rw [wl_get hi2, zE_13 hk2, hn2]) rfl rfl rfl (nz h1 (by omega)) (nz h2 (by omega)) (nz h3 (by omega)) (by rw [c1, c3]; omega) (by rw [c2, c3]; omega) (fun _ _ => rfl) hR.1 hR.2 hdg (fun H1 locs1 hP hD hS => ?_)
  have e1 : va_cpy (zRow (M i1)) (zRow (M i2)) (zI sp).toNatClampNeg (zI dp).toNatClampNeg (zI n).toNatClampNeg = zRow (zcpy M i1 sp i2 dp n i2) := by
    rw [c1, c2, c3]
    funext b
    simp only [va_cpy, zRow, zcpy, zrow_same]
    by_cases h : dp.toNat ≤ b ∧ b < dp.toNat + n.toNat
    · rw [if_pos h, if_pos (by omega)]
      congr 2
      omega
    · rw [if_neg h, if_neg (by omega)]
  rw [e1] at hP hD
  rw [wl_put (M' := zcpy M i1 sp i2 dp n) (F' := F) hi2 (by rw [zE_13 hk2, hn2]) (fun a ha => zrow_ne ha) (fun _ _ => rfl)] at hP hD
  exact kk H1 locs1 ⟨⟨hP, hD, hS⟩, zRM_zcpy Wd.2⟩
theorem z_cald (C0 : zC g A p s m args c cc nL own) (Wd : zW g A s.heap N ad M F H locs) {i : Int} {n : Nat} {t : Int} (hi : zIn N i) (hk : zkd i = 12) (hn : zln i = n) (h0 : 0 ≤ t) (h1 : t < (n : Int)) (hN : n ≤ 2147483647) (hdg : decode cc pc = .ok (.caload, 1)) (kk : W p l e R s m args below meth c H locs cells slots Q (F0 m (pc + 1) ls (.int (zI (M i t)) :: rest))) : W p l e R s m args below meth c H locs cells slots Q (F0 m pc ls (.int (zI t) :: .ref (ad i) :: rest)) := by
  refine va_cald C0.1.1 C0.1.2.1 C0.2.1 Wd.1.1 (i - N.1).toNat 1 (by rw [wl_get hi, zE_12 hk, hn]) rfl (zI_in h0 h1 (by omega)) hdg ?_
  rw [zRow_at h0 (by omega)]
  exact kk
theorem vp_nar_ch {v : Int} (h0 : 0 ≤ v) (h1 : v < 65536) : vp_nar .char (zI v) = zI v := by
  obtain ⟨n, rfl⟩ : ∃ n : Nat, v = n := ⟨v.toNat, by omega⟩
  rw [zI_nI, vp_nar_char]
  exact fb_char (by omega)
theorem z_cast (C0 : zC g A p s m args c cc nL own) (Wd : zW g A s.heap N ad M F H locs) {i : Int} {n : Nat} {t v : Int} (hi : zIn N i) (hk : zkd i = 12) (hn : zln i = n) (h0 : 0 ≤ t) (h1 : t < (n : Int)) (hN : n ≤ 2147483647) (hv0 : 0 ≤ v) (hv1 : v < 65536) (hdg : decode cc pc = .ok (.castore, 1)) (kk : ∀ (H1 : Heap) (locs1 : List Loc), zW g A s.heap N ad (zu M i t v) F H1 locs1 → W p l e R s m args below meth c H1 locs1 cells slots Q (F0 m (pc + 1) ls rest)) : W p l e R s m args below meth c H locs cells slots Q (F0 m pc ls (.int (zI v) :: .int (zI t) :: .ref (ad i) :: rest)) := by
  refine va_cast C0.1.1 C0.1.2.1 C0.2.1 Wd.1.1 Wd.1.2.1 Wd.1.2.2 (i - N.1).toNat 1 (by rw [wl_get hi, zE_12 hk, hn]) rfl (zI_in h0 h1 (by omega)) hdg (fun H1 locs1 hP hD hS => ?_)
  rw [vp_nar_ch hv0 hv1, zRow_upd h0 (by omega)] at hP hD
  rw [wl_put (M' := zu M i t v) (F' := F) hi (by rw [zE_12 hk, hn, zu_self]) (fun a ha => zu_row ha) (fun _ _ => rfl)] at hP hD
  exact kk H1 locs1 ⟨⟨hP, hD, hS⟩, zRM_zu Wd.2 ⟨by omega, by omega⟩⟩
end ZM
