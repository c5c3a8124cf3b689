/-! rows of the class: constants, arrays of references, calls of other kinds, calls that may throw -/
section ZCL
variable {g : zG} {A : Nat → Prop} {p : Program} {l : Launch} {e : Env} {R : Room} {s : State} {m : MethodId} {args : Array Value} {below : List Frame} {meth : Method} {c : Code} {H : Heap} {locs : List Loc} {cells slots : Nat} {Q : State → Prop}
variable {cc : ByteArray} {nL : Nat} {own : String} {pc : Nat} {N : zNs} {ls : Array Slot} {rest st0 : List Value} {ad : Int → Nat} {M F : zMem}
variable {post : Option Value → zMem → zMem → Prop} {mc ms : Nat} {a : Array Value}
theorem zI_cl {t : Int} (h0 : 0 ≤ t) (h1 : t < 2147483648) : (((zI t).toNatClampNeg : Nat) : Int) = t := by
  rw [zI_clamp h0 h1, Int.toNat_of_nonneg h0]
theorem z_aald14 (C0 : zC g A p s m args c cc nL own) (Wd : zW g A s.heap N ad M F H locs) {i : Int} {n : Nat} {t : Int} (hi : zIn N i) (hk : zkd i = 14) (hn : zln i = n) (h0 : 0 ≤ t) (h1 : t < (n : Int)) (hN : n ≤ 2147483647) (hdg : decode cc pc = .ok (.aaload, 1)) (kk : W p l e R s m args below meth c H locs cells slots Q (F0 m (pc + 1) ls (.ref (ad (i + 1 + 2 * t)) :: rest))) : W p l e R s m args below meth c H locs cells slots Q (F0 m pc ls (.int (zI t) :: .ref (ad i) :: rest)) := by
  refine va_aldq C0.1.1 C0.1.2.1 C0.2.1 Wd.1.1 (i - N.1).toNat 3 (by rw [wl_get hi, zE_14 hk, hn]) rfl (zI_in h0 h1 (by omega)) hdg ?_
  show W p l e R s m args below meth c H locs cells slots Q (F0 m (pc + 1) ls (.ref (ad (i + 1 + 2 * (((zI t).toNatClampNeg : Nat) : Int))) :: rest))
  rw [zI_cl h0 (by omega)]
  exact kk
theorem z_aald15 (C0 : zC g A p s m args c cc nL own) (Wd : zW g A s.heap N ad M F H locs) {i : Int} {n : Nat} {t : Int} (hi : zIn N i) (hk : zkd i = 15) (hn : zln i = n) (h0 : 0 ≤ t) (h1 : t < (n : Int)) (hN : n ≤ 2147483647) (hdg : decode cc pc = .ok (.aaload, 1)) (kk : W p l e R s m args below meth c H locs cells slots Q (F0 m (pc + 1) ls (.ref (ad (i + 4 + t)) :: rest))) : W p l e R s m args below meth c H locs cells slots Q (F0 m pc ls (.int (zI t) :: .ref (ad i) :: rest)) := by
  refine va_aldq C0.1.1 C0.1.2.1 C0.2.1 Wd.1.1 (i - N.1).toNat 4 (by rw [wl_get hi, zE_15 hk, hn]) rfl (zI_in h0 h1 (by omega)) hdg ?_
  show W p l e R s m args below meth c H locs cells slots Q (F0 m (pc + 1) ls (.ref (ad (i + 4 + (((zI t).toNatClampNeg : Nat) : Int))) :: rest))
  rw [zI_cl h0 (by omega)]
  exact kk
theorem z_aald16 (C0 : zC g A p s m args c cc nL own) (Wd : zW g A s.heap N ad M F H locs) {i : Int} {n : Nat} {t : Int} (hi : zIn N i) (hk : zkd i = 16) (hn : zln i = n) (h0 : 0 ≤ t) (h1 : t < (n : Int)) (hN : n ≤ 2147483647) (hdg : decode cc pc = .ok (.aaload, 1)) (kk : W p l e R s m args below meth c H locs cells slots Q (F0 m (pc + 1) ls (.ref (ad (F i t)) :: rest))) : W p l e R s m args below meth c H locs cells slots Q (F0 m pc ls (.int (zI t) :: .ref (ad i) :: rest)) := by
  refine va_aldq C0.1.1 C0.1.2.1 C0.2.1 Wd.1.1 (i - N.1).toNat 5 (by rw [wl_get hi, zE_16 hk, hn]) rfl (zI_in h0 h1 (by omega)) hdg ?_
  show W p l e R s m args below meth c H locs cells slots Q (F0 m (pc + 1) ls (.ref (ad (F i (((zI t).toNatClampNeg : Nat) : Int))) :: rest))
  rw [zI_cl h0 (by omega)]
  exact kk
theorem z_aald17 (C0 : zC g A p s m args c cc nL own) (Wd : zW g A s.heap N ad M F H locs) {i : Int} {n : Nat} {t : Int} (hi : zIn N i) (hk : zkd i = 17) (hn : zln i = n) (h0 : 0 ≤ t) (h1 : t < (n : Int)) (hN : n ≤ 2147483647) (hdg : decode cc pc = .ok (.aaload, 1)) (kk : W p l e R s m args below meth c H locs cells slots Q (F0 m (pc + 1) ls (.ref (ad (i + 1 + 31 * t)) :: rest))) : W p l e R s m args below meth c H locs cells slots Q (F0 m pc ls (.int (zI t) :: .ref (ad i) :: rest)) := by
  refine va_aldq C0.1.1 C0.1.2.1 C0.2.1 Wd.1.1 (i - N.1).toNat 6 (by rw [wl_get hi, zE_17 hk, hn]) rfl (zI_in h0 h1 (by omega)) hdg ?_
  show W p l e R s m args below meth c H locs cells slots Q (F0 m (pc + 1) ls (.ref (ad (i + 1 + 31 * (((zI t).toNatClampNeg : Nat) : Int))) :: rest))
  rw [zI_cl h0 (by omega)]
  exact kk
theorem z_aast16 (C0 : zC g A p s m args c cc nL own) (Wd : zW g A s.heap N ad M F H locs) {i o : Int} {n : Nat} {t : Int} (hi : zIn N i) (hk : zkd i = 16) (hn : zln i = n) (h0 : 0 ≤ t) (h1 : t < (n : Int)) (hN : n ≤ 2147483647) (ho : zIn N o) (hko : zkd o = 6) (hdg : decode cc pc = .ok (.aastore, 1)) (kk : ∀ (H1 : Heap) (locs1 : List Loc), zW g A s.heap N ad M (zu F i t o) H1 locs1 → W p l e R s m args below meth c H1 locs1 cells slots Q (F0 m (pc + 1) ls rest)) : W p l e R s m args below meth c H locs cells slots Q (F0 m pc ls (.ref (ad o) :: .int (zI t) :: .ref (ad i) :: rest)) := by
  refine va_astq C0.1.1 C0.1.2.1 C0.2.1 Wd.1.1 Wd.1.2.1 Wd.1.2.2 (i - N.1).toNat 5 (o - N.1).toNat 6 (by rw [wl_get hi, zE_16 hk, hn]) rfl (by rw [wl_get ho, zE_6 hko]) rfl (zI_in h0 h1 (by omega)) hdg (fun H1 locs1 hP hD hS => ?_)
  have ef : (va_up (fun j : Nat => some (ad (F i (j : Int)))) (zI t).toNatClampNeg (some (ad o))) = fun j : Nat => some (ad (zu F i t o i (j : Int))) := by
    funext j
    unfold va_up
    by_cases e9 : j = (zI t).toNatClampNeg
    · have e8 : (j : Int) = t := by rw [e9]; exact zI_cl h0 (by omega)
      rw [if_pos e9, e8, zu_same]
    · have e8 : ¬ (j : Int) = t := fun q => e9 (by have := zI_cl h0 (show t < 2147483648 by omega); omega)
      rw [if_neg e9, zu_ne (fun q => e8 q.2)]
  rw [ef] at hP hD
  rw [wl_put (M' := M) (F' := zu F i t o) hi (by rw [zE_16 hk, hn]) (fun _ _ => rfl) (fun a ha => zu_row ha)] at hP hD
  exact kk H1 locs1 ⟨⟨hP, hD, hS⟩, Wd.2⟩
theorem z_gets (C0 : zC g A p s m args c cc nL own) (Wd : zW g A s.heap N ad M F H locs) {C n d : String} {v : Value} {idx : Nat} (hZ : va_Z C n d v A s s.heap) (hlink : Cond.fieldLink own idx C n d ∈ zT) (hdg : decode cc pc = .ok (.getstatic idx, 3)) (kk : W p l e R s m args below meth c H locs cells slots Q (F0 m (pc + 3) ls (v :: rest))) : W p l e R s m args below meth c H locs cells slots Q (F0 m pc ls rest) :=
  va_gets C0.1.1 C0.1.2.1 hZ Wd.1.2.2 C0.1.2.2.2.1 (C0.1.2.2.2.2 _ hlink) (fun _ h => h) hdg kk
theorem z_getsN (C0 : zC g A p s m args c cc nL own) (Wd : zW g A s.heap N ad M F H locs) {C n d host : String} {v : Value} {idx : Nat} (hZ : va_Z C n d v A s s.heap) (hlink : va_Nw (.fieldLinkNest own idx C n d host) s) (hdg : decode cc pc = .ok (.getstatic idx, 3)) (kk : W p l e R s m args below meth c H locs cells slots Q (F0 m (pc + 3) ls (v :: rest))) : W p l e R s m args below meth c H locs cells slots Q (F0 m pc ls rest) :=
  va_getsN C0.1.1 C0.1.2.1 hZ Wd.1.2.2 C0.1.2.2.2.1 (va_Nw.use rfl hlink) (fun _ h => h) hdg kk
/-- a field of a constant object -/
theorem z_getO (C0 : zC g A p s m args c cc nL own) (Wd : zW g A s.heap N ad M F H locs) {o n d : String} {q : Nat} {v : Value} {idx : Nat} (hE : va_OF o n d v q A s s.heap) (hlink : Cond.fieldLink own idx o n d ∈ zT) (hdg : decode cc pc = .ok (.getfield idx, 3)) (kk : W p l e R s m args below meth c H locs cells slots Q (F0 m (pc + 3) ls (v :: rest))) : W p l e R s m args below meth c H locs cells slots Q (F0 m pc ls (.ref q :: rest)) :=
  vk_getf C0.1.1 C0.1.2.1 hE Wd.1.2.2 C0.1.2.2.2.1 (C0.1.2.2.2.2 _ hlink) (fun _ h => h) hdg kk
theorem z_getON (C0 : zC g A p s m args c cc nL own) (Wd : zW g A s.heap N ad M F H locs) {o n d host : String} {q : Nat} {v : Value} {idx : Nat} (hE : va_OF o n d v q A s s.heap) (hlink : va_Nw (.fieldLinkNest own idx o n d host) s) (hdg : decode cc pc = .ok (.getfield idx, 3)) (kk : W p l e R s m args below meth c H locs cells slots Q (F0 m (pc + 3) ls (v :: rest))) : W p l e R s m args below meth c H locs cells slots Q (F0 m pc ls (.ref q :: rest)) := by
  obtain ⟨cf, k, fi, f, cell, h1, h2, h3, h4, h5, h6⟩ := hE.kept Wd.1.2.2.2.1
  exact va_Wgetf C0.1.1 C0.1.2.1 C0.1.2.2.2.1 (va_Nw.use rfl hlink) h1 h2 h3 h4 h5 rfl rfl hdg kk
theorem z_tabi (C0 : zC g A p s m args c cc nL own) (Wd : zW g A s.heap N ad M F H locs) {q n : Nat} {f : Nat → Value} {t : Int} {v : Value} (hT : va_T .int q n f A s s.heap) (h0 : 0 ≤ t) (h1 : t < (n : Int)) (hN : n ≤ 2147483647) (hv : f t.toNat = v) (hdg : decode cc pc = .ok (.iaload, 1)) (kk : W p l e R s m args below meth c H locs cells slots Q (F0 m (pc + 1) ls (v :: rest))) : W p l e R s m args below meth c H locs cells slots Q (F0 m pc ls (.int (zI t) :: .ref q :: rest)) :=
  va_ti C0.1.1 C0.1.2.1 hT Wd.1.2.2 (zI_in h0 h1 (by omega)) (by rw [zI_clamp h0 (by omega)]; exact hv) hdg kk
theorem z_tabb (C0 : zC g A p s m args c cc nL own) (Wd : zW g A s.heap N ad M F H locs) {q n : Nat} {f : Nat → Value} {t : Int} {v : Value} (hT : va_T .byte q n f A s s.heap) (h0 : 0 ≤ t) (h1 : t < (n : Int)) (hN : n ≤ 2147483647) (hv : f t.toNat = v) (hdg : decode cc pc = .ok (.baload, 1)) (kk : W p l e R s m args below meth c H locs cells slots Q (F0 m (pc + 1) ls (v :: rest))) : W p l e R s m args below meth c H locs cells slots Q (F0 m pc ls (.int (zI t) :: .ref q :: rest)) :=
  va_tb C0.1.1 C0.1.2.1 hT Wd.1.2.2 (zI_in h0 h1 (by omega)) (by rw [zI_clamp h0 (by omega)]; exact hv) hdg kk
theorem z_tabq (C0 : zC g A p s m args c cc nL own) (Wd : zW g A s.heap N ad M F H locs) {C : String} {q n : Nat} {f : Nat → Value} {t : Int} {v : Value} (hT : va_T (.object C) q n f A s s.heap) (h0 : 0 ≤ t) (h1 : t < (n : Int)) (hN : n ≤ 2147483647) (hv : f t.toNat = v) (hdg : decode cc pc = .ok (.aaload, 1)) (kk : W p l e R s m args below meth c H locs cells slots Q (F0 m (pc + 1) ls (v :: rest))) : W p l e R s m args below meth c H locs cells slots Q (F0 m pc ls (.int (zI t) :: .ref q :: rest)) :=
  vb_tq C0.1.1 C0.1.2.1 hT Wd.1.2.2 (zI_in h0 h1 (by omega)) (by rw [zI_clamp h0 (by omega)]; exact hv) hdg kk
theorem z_tlen (C0 : zC g A p s m args c cc nL own) (Wd : zW g A s.heap N ad M F H locs) {ty : FieldType} {q n : Nat} {f : Nat → Value} (hT : va_T ty q n f A s s.heap) (hdg : decode cc pc = .ok (.arraylength, 1)) (kk : W p l e R s m args below meth c H locs cells slots Q (F0 m (pc + 1) ls (.int (zI (n : Int)) :: rest))) : W p l e R s m args below meth c H locs cells slots Q (F0 m pc ls (.ref q :: rest)) :=
  va_tlen C0.1.1 C0.1.2.1 hT Wd.1.2.2 (by rw [zI_nI]; rfl) hdg kk
theorem zc_F0 (C0 : zC g A p s m args c cc nL own) : va_Z "DrumWarren$Fault" "NONE" "LDrumWarren$Fault;" (.ref (g.2.2.2 0)) A s s.heap := (C0.2.2.1.1.1.1 0 (by decide)).1
theorem zc_F1 (C0 : zC g A p s m args c cc nL own) : va_Z "DrumWarren$Fault" "NO_SUCH_INDEX" "LDrumWarren$Fault;" (.ref (g.2.2.2 1)) A s s.heap := (C0.2.2.1.1.1.1 1 (by decide)).1
theorem zc_F2 (C0 : zC g A p s m args c cc nL own) : va_Z "DrumWarren$Fault" "NO_SUCH_ELEMENT" "LDrumWarren$Fault;" (.ref (g.2.2.2 2)) A s s.heap := (C0.2.2.1.1.1.1 2 (by decide)).1
theorem zc_F3 (C0 : zC g A p s m args c cc nL own) : va_Z "DrumWarren$Fault" "BAD_ARGUMENT" "LDrumWarren$Fault;" (.ref (g.2.2.2 3)) A s s.heap := (C0.2.2.1.1.1.1 3 (by decide)).1
theorem zc_F4 (C0 : zC g A p s m args c cc nL own) : va_Z "DrumWarren$Fault" "BAD_STATE" "LDrumWarren$Fault;" (.ref (g.2.2.2 4)) A s s.heap := (C0.2.2.1.1.1.1 4 (by decide)).1
theorem zc_K0 (C0 : zC g A p s m args c cc nL own) : va_Z "DrumWarren$CommandKind" "CHAMBER" "LDrumWarren$CommandKind;" (.ref (g.2.2.2 10)) A s s.heap := (C0.2.2.1.1.2.1.1 0 (by decide)).1
theorem zc_S0 (C0 : zC g A p s m args c cc nL own) : va_Z "DrumWarren$1" "$SwitchMap$DrumWarren$Fault" "[I" (.ref (g.2.2.2 100)) A s s.heap := C0.2.2.1.1.2.2.2.2.1 ("DrumWarren$1", "$SwitchMap$DrumWarren$Fault", "[I", 100) (List.mem_of_getElem? (i := 0) rfl)
theorem zc_S1 (C0 : zC g A p s m args c cc nL own) : va_Z "DrumWarren$1" "$SwitchMap$DrumWarren$CommandKind" "[I" (.ref (g.2.2.2 101)) A s s.heap := C0.2.2.1.1.2.2.2.2.1 ("DrumWarren$1", "$SwitchMap$DrumWarren$CommandKind", "[I", 101) (List.mem_of_getElem? (i := 1) rfl)
theorem zc_S2 (C0 : zC g A p s m args c cc nL own) : va_Z "DrumWarren" "COMMAND_KINDS" "[LDrumWarren$CommandKind;" (.ref (g.2.2.2 102)) A s s.heap := C0.2.2.1.1.2.2.2.2.1 ("DrumWarren", "COMMAND_KINDS", "[LDrumWarren$CommandKind;", 102) (List.mem_of_getElem? (i := 2) rfl)
theorem zc_S3 (C0 : zC g A p s m args c cc nL own) : va_Z "java/lang/Integer" "DigitOnes" "[B" (.ref (g.2.2.2 103)) A s s.heap := C0.2.2.1.1.2.2.2.2.1 ("java/lang/Integer", "DigitOnes", "[B", 103) (List.mem_of_getElem? (i := 3) rfl)
theorem zc_S4 (C0 : zC g A p s m args c cc nL own) : va_Z "java/lang/Integer" "DigitTens" "[B" (.ref (g.2.2.2 104)) A s s.heap := C0.2.2.1.1.2.2.2.2.1 ("java/lang/Integer", "DigitTens", "[B", 104) (List.mem_of_getElem? (i := 4) rfl)
theorem zc_cs (C0 : zC g A p s m args c cc nL own) : va_Z "java/lang/String" "COMPACT_STRINGS" "Z" (.int 1) A s s.heap := C0.2.2.1.1.2.2.2.2.2.1
theorem zc_T0 (C0 : zC g A p s m args c cc nL own) : va_T .int (g.2.2.2 100) 5 (fun j => .int (zI (j : Int))) A s s.heap := C0.2.2.1.1.2.2.2.2.2.2.1
theorem zc_T1 (C0 : zC g A p s m args c cc nL own) : va_T .int (g.2.2.2 101) 8 (fun j => .int (zI ((j : Int) + 1))) A s s.heap := C0.2.2.1.1.2.2.2.2.2.2.2.1
theorem zc_T2 (C0 : zC g A p s m args c cc nL own) : va_T (.object "DrumWarren$CommandKind") (g.2.2.2 102) 8 (fun j => .ref (g.2.2.2 (10 + (j : Int)))) A s s.heap := C0.2.2.1.1.2.2.2.2.2.2.2.2.1
theorem zc_T3 (C0 : zC g A p s m args c cc nL own) : va_T .byte (g.2.2.2 103) 100 (fun j => .int (zI (48 + (j : Int) % 10))) A s s.heap := C0.2.2.1.1.2.2.2.2.2.2.2.2.2.1
theorem zc_T4 (C0 : zC g A p s m args c cc nL own) : va_T .byte (g.2.2.2 104) 100 (fun j => .int (zI (48 + (j : Int) / 10))) A s s.heap := C0.2.2.1.1.2.2.2.2.2.2.2.2.2.2.1
theorem zc_us (C0 : zC g A p s m args c cc nL own) : vx_Zq "java/lang/Throwable" "UNASSIGNED_STACK" "[Ljava/lang/StackTraceElement;" A s s.heap := C0.2.2.1.1.2.2.2.2.2.2.2.2.2.2.2.1
theorem zc_ss (C0 : zC g A p s m args c cc nL own) : vx_Zq "java/lang/Throwable" "SUPPRESSED_SENTINEL" "Ljava/util/List;" A s s.heap := C0.2.2.1.1.2.2.2.2.2.2.2.2.2.2.2.2.1
theorem zc_fm (C0 : zC g A p s m args c cc nL own) : va_Zq "jdk/internal/util/Preconditions" "SIOOBE_FORMATTER" "Ljava/util/function/BiFunction;" A s s.heap := C0.2.2.1.1.2.2.2.2.2.2.2.2.2.2.2.2.2.1
theorem zc_ao (C0 : zC g A p s m args c cc nL own) : ∀ C ∈ zAOs, va_AO C s := C0.2.2.1.1.2.2.2.2.2.2.2.2.2.2.2.2.2.2
theorem zc_FO (C0 : zC g A p s m args c cc nL own) (i : Nat) (hi : i < 5) : va_O "DrumWarren$Fault" (g.2.2.2 (i : Int)) A s s.heap ∧ va_OF "java/lang/Enum" "ordinal" "I" (.int (([0, 1, 2, 3, 4] : List Int32).getD i 0)) (g.2.2.2 (i : Int)) A s s.heap := ⟨(C0.2.2.1.1.1.1 i hi).2.1, (C0.2.2.1.1.1.1 i hi).2.2 _ List.mem_cons_self⟩
theorem zc_KO (C0 : zC g A p s m args c cc nL own) (i : Nat) (hi : i < 8) : va_O "DrumWarren$CommandKind" (g.2.2.2 (10 + (i : Int))) A s s.heap ∧ va_OF "java/lang/Enum" "ordinal" "I" (.int (([0, 1, 2, 3, 4, 5, 6, 7] : List Int32).getD i 0)) (g.2.2.2 (10 + (i : Int))) A s s.heap ∧ va_OF "DrumWarren$CommandKind" "form" "Ljava/lang/String;" (.ref (g.2.2.2 (20 + (i : Int)))) (g.2.2.2 (10 + (i : Int))) A s s.heap := ⟨(C0.2.2.1.1.2.1.1 i hi).2.1, (C0.2.2.1.1.2.1.1 i hi).2.2 _ List.mem_cons_self, C0.2.2.1.1.2.2.1 i hi⟩
theorem zc_x (C0 : zC g A p s m args c cc nL own) {q : Int × Int × List Int32} (hq : q ∈ zTxt) : zStr (g.2.2.2 q.1) (g.2.2.2 q.2.1) q.2.2 A s s.heap := C0.2.2.1.1.2.2.2.1 q hq
theorem zc_r (C0 : zC g A p s m args c cc nL own) {q : String × Nat × String × Int} (hq : q ∈ zStrs) : vk_R q.1 q.2.1 q.2.2.1 (g.2.2.2 q.2.2.2) s := C0.2.2.1.2.1 q hq
theorem zc_nm (C0 : zC g A p s m args c cc nL own) {q : String × Nat × MethodName × String} (hq : q ∈ zNMs) : va_Nw (.methodLinkNest q.1 q.2.1 q.2.2.1 q.2.2.2) s := C0.2.2.1.2.2.1 q hq
theorem zc_nf (C0 : zC g A p s m args c cc nL own) {q : String × Nat × String × String × String × String} (hq : q ∈ zNFs) : va_Nw (.fieldLinkNest q.1 q.2.1 q.2.2.1 q.2.2.2.1 q.2.2.2.2.1 q.2.2.2.2.2) s := C0.2.2.1.2.2.2.1 q hq
theorem zc_ca (C0 : zC g A p s m args c cc nL own) {q : String × String} (hq : q ∈ zCas) : va_Nw (.castable q.1 q.2) s := C0.2.2.1.2.2.2.2.1 q hq
theorem zc_nc (C0 : zC g A p s m args c cc nL own) {q : String × String} (hq : q ∈ zNCas) : va_Nc q.1 q.2 s := C0.2.2.1.2.2.2.2.2.1 q hq
theorem zc_pr (C0 : zC g A p s m args c cc nL own) {q : MethodName} (hq : q ∈ zPrs) : va_Nw (.privateMethod q) s := C0.2.2.1.2.2.2.2.2.2 q hq
theorem z_kki {P : Int → zMem → zMem → Prop} (kk : ∀ (r : Int) (M' F' : zMem) (H1 : Heap) (locs1 : List Loc), zR r → P r M' F' → zW g A s.heap N ad M' F' H1 locs1 → W p l e R s m args below meth c H1 locs1 cells slots Q (F0 m pc ls (.int (zI r) :: rest))) : ∀ (v : Option Value) (M' F' : zMem) (H1 : Heap) (locs1 : List Loc), (zPi P) v M' F' → zW g A s.heap N ad M' F' H1 locs1 → W p l e R s m args below meth c H1 locs1 cells slots Q (F0 m pc ls (v.toList ++ rest)) := by
  intro v M' F' H1 locs1 hp hw
  obtain ⟨r, rfl, hr, hp⟩ := hp
  exact kk r M' F' H1 locs1 hr hp hw
theorem z_kkv {P : zMem → zMem → Prop} (kk : ∀ (M' F' : zMem) (H1 : Heap) (locs1 : List Loc), P M' F' → zW g A s.heap N ad M' F' H1 locs1 → W p l e R s m args below meth c H1 locs1 cells slots Q (F0 m pc ls (rest))) : ∀ (v : Option Value) (M' F' : zMem) (H1 : Heap) (locs1 : List Loc), (zPv P) v M' F' → zW g A s.heap N ad M' F' H1 locs1 → W p l e R s m args below meth c H1 locs1 cells slots Q (F0 m pc ls (v.toList ++ rest)) := by
  intro v M' F' H1 locs1 hp hw
  obtain ⟨rfl, hp⟩ := hp
  exact kk M' F' H1 locs1 hp hw
theorem z_kkr {P : Int → zMem → zMem → Prop} (kk : ∀ (r : Int) (M' F' : zMem) (H1 : Heap) (locs1 : List Loc), P r M' F' → zW g A s.heap N ad M' F' H1 locs1 → W p l e R s m args below meth c H1 locs1 cells slots Q (F0 m pc ls (.ref (ad r) :: rest))) : ∀ (v : Option Value) (M' F' : zMem) (H1 : Heap) (locs1 : List Loc), (zPr ad P) v M' F' → zW g A s.heap N ad M' F' H1 locs1 → W p l e R s m args below meth c H1 locs1 cells slots Q (F0 m pc ls (v.toList ++ rest)) := by
  intro v M' F' H1 locs1 hp hw
  obtain ⟨r, rfl, hp⟩ := hp
  exact kk r M' F' H1 locs1 hp hw
theorem z_kke {P : Int → zMem → zMem → Prop} (kk : ∀ (r : Int) (M' F' : zMem) (H1 : Heap) (locs1 : List Loc), P r M' F' → zW g A s.heap N ad M' F' H1 locs1 → W p l e R s m args below meth c H1 locs1 cells slots Q (F0 m pc ls (.ref (g.2.2.2 r) :: rest))) : ∀ (v : Option Value) (M' F' : zMem) (H1 : Heap) (locs1 : List Loc), (zPe g P) v M' F' → zW g A s.heap N ad M' F' H1 locs1 → W p l e R s m args below meth c H1 locs1 cells slots Q (F0 m pc ls (v.toList ++ rest)) := by
  intro v M' F' H1 locs1 hp hw
  obtain ⟨r, rfl, hp⟩ := hp
  exact kk r M' F' H1 locs1 hp hw
theorem z_kkf {P : UInt32 → zMem → zMem → Prop} (kk : ∀ (r : UInt32) (M' F' : zMem) (H1 : Heap) (locs1 : List Loc), P r M' F' → zW g A s.heap N ad M' F' H1 locs1 → W p l e R s m args below meth c H1 locs1 cells slots Q (F0 m pc ls (.float r :: rest))) : ∀ (v : Option Value) (M' F' : zMem) (H1 : Heap) (locs1 : List Loc), (zPf P) v M' F' → zW g A s.heap N ad M' F' H1 locs1 → W p l e R s m args below meth c H1 locs1 cells slots Q (F0 m pc ls (v.toList ++ rest)) := by
  intro v M' F' H1 locs1 hp hw
  obtain ⟨r, rfl, hp⟩ := hp
  exact kk r M' F' H1 locs1 hp hw
theorem z_kkd {P : UInt64 → zMem → zMem → Prop} (kk : ∀ (r : UInt64) (M' F' : zMem) (H1 : Heap) (locs1 : List Loc), P r M' F' → zW g A s.heap N ad M' F' H1 locs1 → W p l e R s m args below meth c H1 locs1 cells slots Q (F0 m pc ls (.double r :: rest))) : ∀ (v : Option Value) (M' F' : zMem) (H1 : Heap) (locs1 : List Loc), (zPd P) v M' F' → zW g A s.heap N ad M' F' H1 locs1 → W p l e R s m args below meth c H1 locs1 cells slots Q (F0 m pc ls (v.toList ++ rest)) := by
  intro v M' F' H1 locs1 hp hw
  obtain ⟨r, rfl, hp⟩ := hp
  exact kk r M' F' H1 locs1 hp hw
/-- the receiver: a cell of the world, or a constant object -/
theorem zrecvW (C0 : zC g A p s m args c cc nL own) (Wd : zW g A s.heap N ad M F H locs) {i : Int} {ci Nf : Nat} {C : String} {T : u_T} {fs : List Value} (hi : zIn N i) (he : zE g ad i (M i) (F i) = .inr (ci, fs)) (hc : zCl[ci]? = some (C, T, Nf)) : ∃ cell : Cell, H[ad i]? = some cell ∧ cell.vm.isStatics = false ∧ s.vm.findClass C = some cell.cls := va_recv C0.2.1 Wd.1.1 (ci := ci) (q0 := (i - N.1).toNat) hc (by rw [wl_get hi, he])
theorem zrecvO (C0 : zC g A p s m args c cc nL own) (Wd : zW g A s.heap N ad M F H locs) {b : Nat} {C : String} (h : va_O C b A s s.heap) : ∃ cell : Cell, H[b]? = some cell ∧ cell.vm.isStatics = false ∧ s.vm.findClass C = some cell.cls := va_Orecv h Wd.1.2.2
theorem z_invO {b : Nat} {C : String} {y : MethodName} {cc' : ByteArray} {nL' : Nat} {ret' : Option FieldType} {d n idx : Nat} {As : List Value} (C0 : zC g A p s m args c cc nL own) (Wd : zW g A s.heap N ad M F H locs) (hM : zMt l y cc' nL' ret' d mc ms g N ad (.ref b :: As) M F post) (kv : zKV y cc' nL' ret' C n) (hrecv : ∃ cell : Cell, H[b]? = some cell ∧ cell.vm.isStatics = false ∧ s.vm.findClass C = some cell.cls) (hlink : Cond.methodLink own idx y ∈ zT) (hn : As.length = n) (hsz : ls.size = nL) (hst0 : st0 = As.reverse ++ .ref b :: rest) (hst : (rest.map fun v => v.category).sum ≤ 8) (hR : d + 1 ≤ R.frames ∧ 8 + (nL' + 11) + 60 * d ≤ R.locals) (hf : cells + mc ≤ R.cells ∧ slots + ms ≤ R.slots) (hdg : decode cc pc = .ok (.invokevirtual idx, 3)) (kk : ∀ (v : Option Value) (M' F' : zMem) (H1 : Heap) (locs1 : List Loc), post v M' F' → zW g A s.heap N ad M' F' H1 locs1 → W p l e R s m args below meth c H1 locs1 (cells + mc) (slots + ms) Q (F0 m (pc + 3) ls (v.toList ++ rest))) : W p l e R s m args below meth c H locs cells slots Q (F0 m pc ls st0) := by
  obtain ⟨k1, k2, k3, k4, k5, k6, k7⟩ := kv
  exact z_call (va_runV (As := As) (rest := rest) C0.1 (hM H.size) ⟨z_callB C0 k1 k4 ⟨k5, k6, k7⟩ hlink hR, C0.1.2.2.2.2 _ k2, C0.1.2.2.2.2 _ k3⟩ ⟨zPre_blind, hrecv, zPre_of C0 Wd _⟩ rfl hn hsz hst0 (lv_room hst) hdg hf) C0 Wd kk
/-- what an inherited method's name brings: x at the reference, y what runs -/
def zKU (x y : MethodName) (cc : ByteArray) (nL : Nat) (ret : Option FieldType) (C owner : String) (n : Nat) : Prop :=
  Cond.code y cc nL ret ∈ zT ∧ Cond.instanceMethod y ∈ zT ∧ Cond.selects C x y ∈ zT ∧ Cond.initialized y.cls ∈ zT ∧ Cond.sameMethod x.cls owner x.name x.desc ∈ zT ∧ y = ⟨owner, x.name, x.desc⟩ ∧ owner ≠ "java/lang/invoke/MethodHandle" ∧ owner ≠ "java/lang/invoke/VarHandle" ∧ (parseMethodDescriptor x.desc).map (fun d => d.parameters.length) = some n
theorem zT_good {w : Cond} (h : w ∈ zT) : w ∈ zT ∧ ((w.onTables && w.keeps) = true ∨ ∃ ty, w = .arrayClass ty) := ⟨h, good_of_word (List.mem_filter.mp h).2⟩
theorem z_invU {x : MethodName} {b : Nat} {C owner : String} {y : MethodName} {cc' : ByteArray} {nL' : Nat} {ret' : Option FieldType} {d n idx : Nat} {As : List Value} (C0 : zC g A p s m args c cc nL own) (Wd : zW g A s.heap N ad M F H locs) (hM : zMt l y cc' nL' ret' d mc ms g N ad (.ref b :: As) M F post) (kv : zKU x y cc' nL' ret' C owner n) (hrecv : ∃ cell : Cell, H[b]? = some cell ∧ cell.vm.isStatics = false ∧ s.vm.findClass C = some cell.cls) (hlink : Cond.methodLink own idx x ∈ zT) (hn : As.length = n) (hsz : ls.size = nL) (hst0 : st0 = As.reverse ++ .ref b :: rest) (hst : (rest.map fun v => v.category).sum ≤ 8) (hR : d + 1 ≤ R.frames ∧ 8 + (nL' + 11) + 60 * d ≤ R.locals) (hf : cells + mc ≤ R.cells ∧ slots + ms ≤ R.slots) (hdg : decode cc pc = .ok (.invokevirtual idx, 3)) (kk : ∀ (v : Option Value) (M' F' : zMem) (H1 : Heap) (locs1 : List Loc), post v M' F' → zW g A s.heap N ad M' F' H1 locs1 → W p l e R s m args below meth c H1 locs1 (cells + mc) (slots + ms) Q (F0 m (pc + 3) ls (v.toList ++ rest))) : W p l e R s m args below meth c H locs cells slots Q (F0 m pc ls st0) := by
  obtain ⟨k1, k2, k3, k4, k5, k6, k7, k8, k9⟩ := kv
  have hG : GoodIn zT (va_wsU own idx C owner x y (Cond.code y cc' nL' ret' :: zT)) := by
    intro w hw
    unfold va_wsU at hw
    rcases List.mem_append.mp hw with h | h
    · simp only [List.mem_cons, List.not_mem_nil, or_false] at h
      rcases h with rfl | rfl | rfl | rfl | rfl
      · exact zT_good hlink
      · exact zT_good k5
      · exact zT_good k3
      · exact zT_good k2
      · exact zT_good k4
    · exact zGoodT k1 w h
  exact z_call (va_runU (As := As) (rest := rest) C0.1 (hM H.size) (va_cwU n C0.1.2.2.2.2 hG rfl rfl rfl k6 ⟨k7, k8, k9⟩ hR) ⟨zPre_blind, hrecv, zPre_of C0 Wd _⟩ rfl hn hsz hst0 (lv_room hst) hdg hf) C0 Wd kk
theorem z_invSN {host : String} {y : MethodName} {cc' : ByteArray} {nL' : Nat} {ret' : Option FieldType} {d n idx : Nat} {As : List Value} (C0 : zC g A p s m args c cc nL own) (Wd : zW g A s.heap N ad M F H locs) (hM : zMt l y cc' nL' ret' d mc ms g N ad As M F post) (kv : zKS y cc' nL' ret' n) (hlink : va_Nw (.methodLinkNest own idx y host) s) (hn : As.length = n) (hsz : ls.size = nL) (hst0 : st0 = As.reverse ++ rest) (hst : (rest.map fun v => v.category).sum ≤ 8) (hR : d + 1 ≤ R.frames ∧ 8 + (nL' + 11) + 60 * d ≤ R.locals) (hf : cells + mc ≤ R.cells ∧ slots + ms ≤ R.slots) (hdg : decode cc pc = .ok (.invokestatic idx, 3)) (kk : ∀ (v : Option Value) (M' F' : zMem) (H1 : Heap) (locs1 : List Loc), post v M' F' → zW g A s.heap N ad M' F' H1 locs1 → W p l e R s m args below meth c H1 locs1 (cells + mc) (slots + ms) Q (F0 m (pc + 3) ls (v.toList ++ rest))) : W p l e R s m args below meth c H locs cells slots Q (F0 m pc ls st0) := by
  obtain ⟨k1, k2, k3, k4, k5, k6⟩ := kv
  exact z_call (va_runSN (As := As) (rest := rest) C0.1 (hM H.size) ⟨va_cnB n C0.1.2.2.2.2 (zGoodT k1) rfl rfl rfl hlink (C0.1.2.2.2.2 _ k3) ⟨k4, k5, k6⟩ hR, C0.1.2.2.2.2 _ k2, trivial⟩ ⟨zPre_blind, zPre_of C0 Wd _⟩ rfl hn hsz hst0 (lv_room hst) hdg hf) C0 Wd kk
end ZCL
