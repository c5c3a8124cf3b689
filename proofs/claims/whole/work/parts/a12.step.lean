/-! one call of the law -/
def zAi (t d : Int) (k : Int) (v : Option Value) (M F : zMem) : Prop := ∃ b, v = some (.int (zI b)) ∧ zR b ∧ M 398 8 = k ∧ (k = 0 → M 408 0 = b) ∧ zCR t d M F
def zAb (t d : Int) (k : Int) (v : Option Value) (M F : zMem) : Prop := ∃ b, v = some (.int (zI b)) ∧ (b = 0 ∨ b = 1) ∧ M 398 8 = k ∧ (k = 0 → M 408 0 = b) ∧ zCR t d M F
def zAf (t d : Int) (k : Int) (v : Option Value) (M F : zMem) : Prop := ∃ x, v = some (.float x) ∧ M 398 8 = k ∧ (k = 0 → zf64 (FP.f2d x) ∧ F 409 0 = dbi (FP.f2d x)) ∧ zCR t d M F
def zAd (t d : Int) (k : Int) (v : Option Value) (M F : zMem) : Prop := ∃ x, v = some (.double x) ∧ M 398 8 = k ∧ (k = 0 → zf64 x ∧ F 409 0 = dbi x) ∧ zCR t d M F
/-- the class's helper, then the model -/
def zLS (l : Launch) (g : zG) (ad : Int → Nat) (yL : MethodName) (cL : ByteArray) (nL : Nat) (hh : List (Nat × Nat × Nat × Nat)) (dL mc ms : Nat) (avL : List Value) (yX : MethodName) (cX : ByteArray) (nX : Nat) (rX : Option FieldType) (dX : Nat) (avX : List Value) (M F : zMem) (ans : Int → Option Value → zMem → zMem → Prop) : Prop :=
  ∃ post : Int → zMem → zMem → Prop, hMt l yL cL nL hh dL mc ms g ad avL M F (zPi post) ∧ ∀ k M1 F1, post k M1 F1 → zRM M1 → ∃ pm, zMt l yX cX nX rX dX 0 0 g 410 ad avX M1 F1 pm ∧ ∀ v M2 F2, pm v M2 F2 → ans k v M2 F2
/-- the class itself, then the model: plain questions -/
def zLP (l : Launch) (g : zG) (ad : Int → Nat) (yC : MethodName) (cC : ByteArray) (nC : Nat) (rC : Option FieldType) (dC : Nat) (avC : List Value) (yX : MethodName) (cX : ByteArray) (nX : Nat) (rX : Option FieldType) (dX : Nat) (avX : List Value) (M F : zMem) (ans : zMem → zMem → Prop) : Prop :=
  ∃ post : Int → zMem → zMem → Prop, zMt l yC cC nC rC dC 0 0 g 410 ad avC M F (zPi post) ∧ ∀ r M1 F1, post r M1 F1 → zRM M1 → ∃ pm : Int → zMem → zMem → Prop, zMt l yX cX nX rX dX 0 0 g 410 ad avX M1 F1 (zPi pm) ∧ ∀ b M2 F2, pm b M2 F2 → b = r ∧ ans M2 F2
theorem lq_rel {t d : Int} {M F M1 F1 M2 F2 : zMem} (h : zCR t d M F) (hF : ∀ i, i ≠ 409 → F1 i = F i) (hs : ∀ i, i ≠ 408 → i ≠ 5 → ¬(32 ≤ i ∧ i < 63) → M1 i = M i) (h2 : ∀ i, i ≠ 398 → i ≠ 400 → i ≠ 401 → i ≠ 404 → M2 i = M1 i) (h9 : ∀ j, j ≠ 8 → M2 398 j = M1 398 j) (hF2 : F2 = F1) : zCR t d M2 F2 := by
  subst hF2
  exact zCR_in h (fun i i0 i1 i2 i3 => ⟨(h2 i (by omega) (by omega) (by omega) (by omega)).trans (hs i (by omega) i2 i3), hF i (by omega)⟩) (zRp_in (zCR_rp h) (hF (32 + 6) (by omega))) (fun i i0 i1 i2 i3 i4 => (h2 i (by omega) i2 i3 i4).trans (hs i (by omega) (by omega) (by omega))) (fun j j0 => (h9 j j0).trans (congrFun (hs 398 (by omega) (by omega) (by omega)) j))
theorem lq_st2 {t d : Int} {M F M1 F1 M2 F2 : zMem} {k b : Int} {q : zQu} (h : zCR t d M F) (hs : F1 = F ∧ (∀ i, i ≠ 408 → i ≠ 5 → M1 i = M i) ∧ (k, if k = 0 then M1 408 0 else 0) = q) (hb : zR b) (e1 : q.1 = 0 → q.2 = b) (h2 : ∀ i, i ≠ 398 → i ≠ 400 → i ≠ 401 → i ≠ 404 → M2 i = M1 i) (h8 : M2 398 8 = q.1) (h9 : ∀ j, j ≠ 8 → M2 398 j = M1 398 j) (hF2 : F2 = F1) : zAi t d k (some (.int (zI b))) M2 F2 := by
  obtain ⟨hF, hm, hq⟩ := hs
  refine ⟨b, rfl, hb, by rw [h8, ← hq], fun hk => ?_, lq_rel h (fun i _ => congrFun hF i) (fun i a1 a2 _ => hm i a1 a2) h2 h9 hF2⟩
  rw [h2 408 (by omega) (by omega) (by omega) (by omega), ← e1 (by rw [← hq]; exact hk), ← hq]
  show _ = if k = 0 then _ else _
  rw [if_pos hk]
theorem lq_std {t d : Int} {M F M1 F1 M2 F2 : zMem} {k b : Int} {q : zQu} (h : zCR t d M F) (hs : F1 = F ∧ (∀ i, i ≠ 408 → i ≠ 5 → M1 i = M i) ∧ (k, if k = 0 then M1 408 0 else 0) = q) (hb : zR b) (e1 : q.2 = b) (h2 : ∀ i, i ≠ 398 → i ≠ 400 → i ≠ 401 → i ≠ 404 → M2 i = M1 i) (h8 : M2 398 8 = q.1) (h9 : ∀ j, j ≠ 8 → M2 398 j = M1 398 j) (hF2 : F2 = F1) : zAi t d k (some (.int (zI b))) M2 F2 := lq_st2 h hs hb (fun _ => e1) h2 h8 h9 hF2
theorem lq_bool {t d k b : Int} {M F : zMem} (h : zAi t d k (some (.int (zI b))) M F) (hb : zR b) (h01 : b = 0 ∨ b = 1) : zAb t d k (some (.int (zI b))) M F := by
  obtain ⟨c, e, hc, h1, h2, h3⟩ := h
  have : b = c := by
    have e1 : zI b = zI c := by injection (Option.some.inj e)
    exact (zI_eq hb hc).mp e1
  subst this
  exact ⟨b, rfl, h01, h1, h2, h3⟩
theorem zGd.la {t : Int} {V : Int → Int} (h : zGd t V) : zLa V := h.2.2.2.2.2.2.1
theorem zGd.idd {t : Int} {V : Int → Int} (h : zGd t V) : zId V := h.2.2.2.2.2.2.2.1
theorem zGd.one {t : Int} {V : Int → Int} (h : zGd t V) : zOne V := h.2.2.2.2.2.1
theorem zpl_bd {x : Int} {V : Int → Int} : -1 ≤ zpl x V ∧ (0 ≤ V 2 → zpl x V < V 2) := by
  have h := zlast_bd (P := fun q => V (96 + 47 * q + 0) = x) (V 2).toNat
  unfold zpl
  exact ⟨h.1, fun q => by omega⟩
theorem zqDe_is : ∀ n : Fin 32, (zpc (n.val : Int) % 2 = 0 ↔ zbt ((n.val : Int) / 2) 4 = (n.val : Int) % 2) := by decide +kernel
