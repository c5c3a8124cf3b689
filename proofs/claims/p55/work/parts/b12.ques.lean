/-! the class's world as the law sees it -/
def zOu (M : zMem) : Prop := M 396 1 = 0 ∧ (0 ≤ M 396 3 ∧ M 396 3 ≤ 16) ∧ ∀ j, 0 ≤ j → j < M 396 3 → 0 ≤ M 397 j ∧ M 397 j < 128
def zLw (t many : Int) (V : Int → Int) (U : Int → Int → Int) (M F : zMem) : Prop :=
  zRS 1 V M F ∧ zRp 32 F ∧ zHi t many U M F ∧ (0 ≤ t ∧ zGd t V ∧ zNn V) ∧ (∀ k, 0 ≤ k → k < many → zNn (U k)) ∧ (∃ (T : Int → Int) (n : Int), zCS T n M ∧ ∀ j, 0 ≤ T j ∧ T j < 65536) ∧ zOu M
section ZLW
variable {t many : Int} {V : Int → Int} {U : Int → Int → Int} {M F : zMem}
theorem zLw.rs (h : zLw t many V U M F) : zRS 1 V M F := h.1
theorem zLw.gd (h : zLw t many V U M F) : zGd t V := h.2.2.2.1.2.1
theorem zLw.iv (h : zLw t many V U M F) : zIV t V := h.gd.1
theorem zLw.nn (h : zLw t many V U M F) : zNn V := h.2.2.2.1.2.2
theorem zLw.t0 (h : zLw t many V U M F) : 0 ≤ t := h.2.2.2.1.1
theorem zLw.td (h : zLw t many V U M F) : zTD V := h.gd.2.1
theorem zLw.p0 (h : zLw t many V U M F) : zP0 V := h.gd.2.2
theorem zLw.one (h : zLw t many V U M F) : zOne V := h.p0.2.2.2.1
theorem zLw.la (h : zLw t many V U M F) : zLa V := h.p0.2.2.2.2.1
theorem zLw.id (h : zLw t many V U M F) : zId V := h.p0.2.2.2.2.2.1
theorem zLw.tn (h : zLw t many V U M F) : zTn V := h.p0.2.2.2.2.2.2
theorem zLw.hi (h : zLw t many V U M F) : zHi t many U M F := h.2.2.1
theorem zLw.ou (h : zLw t many V U M F) : zOu M := h.2.2.2.2.2.2
theorem zLw.in {M' F' : zMem} (h : zLw t many V U M F) (hc : ∀ i, 0 ≤ i → i < 398 → i ≠ 5 → ¬(32 ≤ i ∧ i < 63) → M' i = M i ∧ F' i = F i) (h32 : zRp 32 F') : zLw t many V U M' F' := by
  obtain ⟨a1, a2, a3, a4, a5, ⟨T, n, a6, a7⟩, a8⟩ := h
  refine ⟨zRS_but a1 a4.2.1.1.2.1.2 a4.2.1.1.2.2.1.2 (fun i i0 i1 i2 => hc i (by omega) (by omega) (by omega) (by omega)), h32, zHi_in a3 (fun i i0 i1 => hc i (by omega) (by omega) (by omega) (by omega)), a4, a5, ⟨T, n, ?_, a7⟩, ?_⟩
  · obtain ⟨b1, b2, b3⟩ := a6
    exact ⟨by rw [(hc 376 (by omega) (by omega) (by omega) (by omega)).1]; exact b1, by rw [(hc 375 (by omega) (by omega) (by omega) (by omega)).1]; exact b2, b3⟩
  · unfold zOu
    rw [(hc 396 (by omega) (by omega) (by omega) (by omega)).1, (hc 397 (by omega) (by omega) (by omega) (by omega)).1]
    exact a8
end ZLW
/-- a question changes nothing that the law sees -/
def zQm (t many : Int) (V : Int → Int) (U : Int → Int → Int) (M F M' F' : zMem) : Prop := zLw t many V U M' F' ∧ M' 396 = M 396 ∧ M' 397 = M 397
theorem zQm.rf {t many : Int} {V : Int → Int} {U : Int → Int → Int} {M F : zMem} (h : zLw t many V U M F) : zQm t many V U M F M F := ⟨h, rfl, rfl⟩
theorem zQm_5 {t many : Int} {V : Int → Int} {U : Int → Int → Int} {M F : zMem} {r : Int → Int} (h : zLw t many V U M F) : zQm t many V U M F (zrow M (1 + 4) r) F :=
  ⟨h.in (fun i i0 i1 i2 i3 => ⟨zrow_ne (by omega), rfl⟩) h.2.1, zrow_ne (by decide), zrow_ne (by decide)⟩
theorem zQm_32 {t many : Int} {V : Int → Int} {U : Int → Int → Int} {M F M' F' : zMem} (h : zLw t many V U M F) (ho : zOut 32 M F M' F') (hF : F = F') : zQm t many V U M F M' F' :=
  ⟨h.in (fun i i0 i1 i2 i3 => ho i (by omega)) (by rw [← hF]; exact h.2.1), (ho 396 (by omega)).1, (ho 397 (by omega)).1⟩
theorem hMt.mono {l : Launch} {y : MethodName} {cc : ByteArray} {nL : Nat} {hh : List (Nat × Nat × Nat × Nat)} {d mc ms : Nat} {g : zG} {zX : va_W} {ad : Int → Nat} {av : List Value} {M F : zMem} {P P' : Int → zMem → zMem → Prop} (h : hMt l y cc nL hh d mc ms g zX ad av M F (zPi P)) (hP : ∀ k M' F', P k M' F' → P' k M' F') : hMt l y cc nL hh d mc ms g zX ad av M F (zPi P') := by
  intro hst sz
  refine Jvm.Free.MetFree.mono (h hst sz) (fun _ _ z => z) (fun _ _ _ _ _ z => z) (fun a s o t _ z => ?_)
  obtain ⟨⟨⟨v, M1, F1, h1, ⟨r, h2, h3, h4⟩, h5, h6, h7⟩, hF⟩, L⟩ := z
  exact ⟨⟨⟨v, M1, F1, h1, ⟨r, h2, h3, hP r M1 F1 h4⟩, h5, h6, h7⟩, hF⟩, L⟩

def qDl (V : Int → Int) (a b : Int) : Int := if zisC V a ∧ zisC V b then (if V (8 + 8 * a + b) = 0 then -13 else V (8 + 8 * a + b)) else -11
def qSh (V : Int → Int) (a b : Int) : Int := if zisC V a ∧ zisC V b then (if zBF V a b = 1000 then -13 else zBF V a b) else -11
def qLb (V : Int → Int) (a b : Int) : Int := if zisC V a ∧ zisC V b then (zLd a b V).toInt32.toInt else -11
def qMa (V : Int → Int) (p : Int) : Int := if 0 ≤ p ∧ p < V 2 then V (96 + 47 * p + 0) else -11
def qMs (V : Int → Int) (w x : Int) : Int := if zpl x V ≠ -1 then V (96 + 47 * zpl x V + w) else -13
def qHr (V : Int → Int) (w h : Int) : Int := if zisH V h then V (72 + 4 * h + w) else -11
def qDr (V : Int → Int) (h : Int) : Int := if zisH V h then zb (zdrm V h) else -11
def qLa (V : Int → Int) (h : Int) : Int := if zisH V h then (if 0 < V (72 + 4 * h + 2) then V (72 + 4 * h + 3) - 1 else -13) else -11
def qUn (V : Int → Int) (x : Int) : Int := if zpl x V = -1 then -13 else if V (96 + 47 * zpl x V + 4) = 114 ∨ V (96 + 47 * zpl x V + 4) = 108 then -14 else if zudn (zpl x V) V = -1 then -15 else zudn (zpl x V) V
def qTh (n b : Int) : Int := if 0 ≤ n ∧ n ≤ 15 then (if 0 ≤ b ∧ b < 5 then zb (zcd n / 2 ^ (4 - b).toNat % 2 = 1) else -11) else -12
def qDe (c : Int) : Int := if 0 ≤ c ∧ c ≤ 31 then (if zpc c % 2 = 0 then c / 2 else -13) else -12
theorem hq_delayOf (l : Launch) (g : zG) (zX : va_W) (ad : Int → Nat) (M F : zMem) {t many : Int} {V : Int → Int} {U : Int → Int → Int} (hL : zLw t many V U M F) (x0 : Int) (hx0 : zR x0) (x1 : Int) (hx1 : zR x1) : hMt l yL_delayOf cL_delayOf 4 [(0, 6, 7, 20), (0, 6, 11, 28)] 9 3 18 g zX ad [.ref (ad 0), .int (zI x0), .int (zI x1)] M F (zPi (fun k M' F' => k = qDl V x0 x1 ∧ zQm t many V U M F M' F')) := by
  refine hMt.mono (ch_delayOf l g zX ad M F x0 x1 _ _ (ct_X11_tunnelDelay l g zX ad M F V t x0 hx0 x1 hx1 hL.rs hL.iv) (fun E M' F' h => by rcases h.1 with h | h <;> first | exact Or.inl h.1 | exact Or.inr h.1)) (fun k M' F' h => ?_)
  rcases h with ⟨h, rfl, rfl, rfl⟩ | ⟨rfl, ⟨-, h⟩ | ⟨h, -⟩, rfl, rfl⟩ | ⟨rfl, ⟨h, -⟩ | ⟨-, h⟩, rfl, rfl⟩
  · exact ⟨by unfold qDl; rw [if_pos h.1, if_neg h.2], zQm.rf hL⟩
  · exact ⟨by unfold qDl; rw [if_neg h], zQm.rf hL⟩
  · exact absurd h (by decide)
  · exact absurd h (by decide)
  · exact ⟨by unfold qDl; rw [if_pos h.1, if_pos h.2], zQm.rf hL⟩
theorem hq_shortest (l : Launch) (g : zG) (zX : va_W) (ad : Int → Nat) (M F : zMem) {t many : Int} {V : Int → Int} {U : Int → Int → Int} (hL : zLw t many V U M F) (x0 : Int) (hx0 : zR x0) (x1 : Int) (hx1 : zR x1) : hMt l yL_shortest cL_shortest 4 [(0, 6, 7, 20), (0, 6, 11, 28)] 9 3 18 g zX ad [.ref (ad 0), .int (zI x0), .int (zI x1)] M F (zPi (fun k M' F' => k = qSh V x0 x1 ∧ zQm t many V U M F M' F')) := by
  refine hMt.mono (ch_shortest l g zX ad M F x0 x1 _ _ (ct_X11_shortestDelay l g zX ad M F V t x0 hx0 x1 hx1 hL.rs hL.iv) (fun E M' F' h => by rcases h.1 with h | h <;> first | exact Or.inl h.1 | exact Or.inr h.1)) (fun k M' F' h => ?_)
  rcases h with ⟨h, rfl, rfl, rfl⟩ | ⟨rfl, ⟨-, h⟩ | ⟨h, -⟩, rfl, rfl⟩ | ⟨rfl, ⟨h, -⟩ | ⟨-, h⟩, rfl, rfl⟩
  · exact ⟨by unfold qSh; rw [if_pos h.1, if_neg h.2], zQm.rf hL⟩
  · exact ⟨by unfold qSh; rw [if_neg h], zQm.rf hL⟩
  · exact absurd h (by decide)
  · exact absurd h (by decide)
  · exact ⟨by unfold qSh; rw [if_pos h.1, if_pos h.2], zQm.rf hL⟩
theorem hq_loudBits (l : Launch) (g : zG) (zX : va_W) (ad : Int → Nat) (M F : zMem) {t many : Int} {V : Int → Int} {U : Int → Int → Int} (hL : zLw t many V U M F) (x0 : Int) (hx0 : zR x0) (x1 : Int) (hx1 : zR x1) : hMt l yL_loudBits cL_loudBits 4 [(0, 6, 7, 20)] 9 2 12 g zX ad [.ref (ad 0), .int (zI x0), .int (zI x1)] M F (zPi (fun k M' F' => k = qLb V x0 x1 ∧ zQm t many V U M F M' F')) := by
  refine hMt.mono (ch_loudBits l g zX ad M F x0 x1 _ _ (ct_X11_loudnessBits l g zX ad M F V t x0 hx0 x1 hx1 hL.rs hL.iv) (fun E M' F' h => h.1.1)) (fun k M' F' h => ?_)
  rcases h with ⟨h, rfl, rfl, rfl⟩ | ⟨rfl, ⟨-, h⟩, rfl, rfl⟩
  · exact ⟨by unfold qLb; rw [if_pos h], zQm.rf hL⟩
  · exact ⟨by unfold qLb; rw [if_neg h], zQm.rf hL⟩
theorem hq_messageAt (l : Launch) (g : zG) (zX : va_W) (ad : Int → Nat) (M F : zMem) {t many : Int} {V : Int → Int} {U : Int → Int → Int} (hL : zLw t many V U M F) (x0 : Int) (hx0 : zR x0) : hMt l yL_messageAt cL_messageAt 3 [(0, 5, 6, 20)] 9 1 6 g zX ad [.ref (ad 0), .int (zI x0)] M F (zPi (fun k M' F' => k = qMa V x0 ∧ zQm t many V U M F M' F')) := by
  refine hMt.mono (ch_messageAt l g zX ad M F x0 _ _ (ct_X11_message l g zX ad M F V t x0 hx0 hL.rs hL.iv) (fun E M' F' h => h.1.1)) (fun k M' F' h => ?_)
  rcases h with ⟨h, rfl, rfl, rfl⟩ | ⟨rfl, ⟨-, h⟩, rfl, rfl⟩
  · exact ⟨by unfold qMa; rw [if_pos h], zQm.rf hL⟩
  · exact ⟨by unfold qMa; rw [if_neg h], zQm.rf hL⟩
theorem hq_state (l : Launch) (g : zG) (zX : va_W) (ad : Int → Nat) (M F : zMem) {t many : Int} {V : Int → Int} {U : Int → Int → Int} (hL : zLw t many V U M F) (x0 : Int) (hx0 : zR x0) : hMt l yL_state cL_state 3 [(0, 5, 6, 28)] 9 1 6 g zX ad [.ref (ad 0), .int (zI x0)] M F (zPi (fun k M' F' => k = qMs V 4 x0 ∧ zQm t many V U M F M' F')) := by
  refine hMt.mono (ch_state l g zX ad M F x0 _ _ (ct_X11_state l g zX ad M F V t x0 hx0 hL.rs hL.iv hL.id) (fun E M' F' h => h.1.1)) (fun k M' F' h => ?_)
  rcases h with ⟨h, rfl, rfl, rfl⟩ | ⟨rfl, ⟨-, h⟩, rfl, rfl⟩
  · exact ⟨by unfold qMs; rw [if_pos h], zQm.rf hL⟩
  · exact ⟨by unfold qMs; rw [if_neg h], zQm.rf hL⟩
theorem hq_sender (l : Launch) (g : zG) (zX : va_W) (ad : Int → Nat) (M F : zMem) {t many : Int} {V : Int → Int} {U : Int → Int → Int} (hL : zLw t many V U M F) (x0 : Int) (hx0 : zR x0) : hMt l yL_sender cL_sender 3 [(0, 5, 6, 28)] 9 1 6 g zX ad [.ref (ad 0), .int (zI x0)] M F (zPi (fun k M' F' => k = qMs V 1 x0 ∧ zQm t many V U M F M' F')) := by
  refine hMt.mono (ch_sender l g zX ad M F x0 _ _ (ct_X11_sender l g zX ad M F V t x0 hx0 hL.rs hL.iv hL.id) (fun E M' F' h => h.1.1)) (fun k M' F' h => ?_)
  rcases h with ⟨h, rfl, rfl, rfl⟩ | ⟨rfl, ⟨-, h⟩, rfl, rfl⟩
  · exact ⟨by unfold qMs; rw [if_pos h], zQm.rf hL⟩
  · exact ⟨by unfold qMs; rw [if_neg h], zQm.rf hL⟩
theorem hq_receiver (l : Launch) (g : zG) (zX : va_W) (ad : Int → Nat) (M F : zMem) {t many : Int} {V : Int → Int} {U : Int → Int → Int} (hL : zLw t many V U M F) (x0 : Int) (hx0 : zR x0) : hMt l yL_receiver cL_receiver 3 [(0, 5, 6, 28)] 9 1 6 g zX ad [.ref (ad 0), .int (zI x0)] M F (zPi (fun k M' F' => k = qMs V 2 x0 ∧ zQm t many V U M F M' F')) := by
  refine hMt.mono (ch_receiver l g zX ad M F x0 _ _ (ct_X11_receiver l g zX ad M F V t x0 hx0 hL.rs hL.iv hL.id) (fun E M' F' h => h.1.1)) (fun k M' F' h => ?_)
  rcases h with ⟨h, rfl, rfl, rfl⟩ | ⟨rfl, ⟨-, h⟩, rfl, rfl⟩
  · exact ⟨by unfold qMs; rw [if_pos h], zQm.rf hL⟩
  · exact ⟨by unfold qMs; rw [if_neg h], zQm.rf hL⟩
theorem hq_timesLost (l : Launch) (g : zG) (zX : va_W) (ad : Int → Nat) (M F : zMem) {t many : Int} {V : Int → Int} {U : Int → Int → Int} (hL : zLw t many V U M F) (x0 : Int) (hx0 : zR x0) : hMt l yL_timesLost cL_timesLost 3 [(0, 5, 6, 28)] 9 1 6 g zX ad [.ref (ad 0), .int (zI x0)] M F (zPi (fun k M' F' => k = qMs V 5 x0 ∧ zQm t many V U M F M' F')) := by
  refine hMt.mono (ch_timesLost l g zX ad M F x0 _ _ (ct_X11_timesLost l g zX ad M F V t x0 hx0 hL.rs hL.iv hL.id) (fun E M' F' h => h.1.1)) (fun k M' F' h => ?_)
  rcases h with ⟨h, rfl, rfl, rfl⟩ | ⟨rfl, ⟨-, h⟩, rfl, rfl⟩
  · exact ⟨by unfold qMs; rw [if_pos h], zQm.rf hL⟩
  · exact ⟨by unfold qMs; rw [if_neg h], zQm.rf hL⟩
theorem hq_beats (l : Launch) (g : zG) (zX : va_W) (ad : Int → Nat) (M F : zMem) {t many : Int} {V : Int → Int} {U : Int → Int → Int} (hL : zLw t many V U M F) (x0 : Int) (hx0 : zR x0) : hMt l yL_beats cL_beats 3 [(0, 5, 6, 28)] 9 1 6 g zX ad [.ref (ad 0), .int (zI x0)] M F (zPi (fun k M' F' => k = qMs V 6 x0 ∧ zQm t many V U M F M' F')) := by
  refine hMt.mono (ch_beats l g zX ad M F x0 _ _ (ct_X11_beatsDrummed l g zX ad M F V t x0 hx0 hL.rs hL.iv hL.id) (fun E M' F' h => h.1.1)) (fun k M' F' h => ?_)
  rcases h with ⟨h, rfl, rfl, rfl⟩ | ⟨rfl, ⟨-, h⟩, rfl, rfl⟩
  · exact ⟨by unfold qMs; rw [if_pos h], zQm.rf hL⟩
  · exact ⟨by unfold qMs; rw [if_neg h], zQm.rf hL⟩
theorem hq_received (l : Launch) (g : zG) (zX : va_W) (ad : Int → Nat) (M F : zMem) {t many : Int} {V : Int → Int} {U : Int → Int → Int} (hL : zLw t many V U M F) (x0 : Int) (hx0 : zR x0) : hMt l yL_received cL_received 3 [(0, 5, 6, 20)] 9 1 6 g zX ad [.ref (ad 0), .int (zI x0)] M F (zPi (fun k M' F' => k = qHr V 2 x0 ∧ zQm t many V U M F M' F')) := by
  refine hMt.mono (ch_received l g zX ad M F x0 _ _ (ct_X11_received l g zX ad M F V t x0 hx0 hL.rs hL.iv) (fun E M' F' h => h.1.1)) (fun k M' F' h => ?_)
  rcases h with ⟨h, rfl, rfl, rfl⟩ | ⟨rfl, ⟨-, h⟩, rfl, rfl⟩
  · exact ⟨by unfold qHr; rw [if_pos h], zQm.rf hL⟩
  · exact ⟨by unfold qHr; rw [if_neg h], zQm.rf hL⟩
theorem hq_chamberOf (l : Launch) (g : zG) (zX : va_W) (ad : Int → Nat) (M F : zMem) {t many : Int} {V : Int → Int} {U : Int → Int → Int} (hL : zLw t many V U M F) (x0 : Int) (hx0 : zR x0) : hMt l yL_chamberOf cL_chamberOf 3 [(0, 5, 6, 20)] 9 1 6 g zX ad [.ref (ad 0), .int (zI x0)] M F (zPi (fun k M' F' => k = qHr V 0 x0 ∧ zQm t many V U M F M' F')) := by
  refine hMt.mono (ch_chamberOf l g zX ad M F x0 _ _ (ct_X11_chamberOf l g zX ad M F V t x0 hx0 hL.rs hL.iv) (fun E M' F' h => h.1.1)) (fun k M' F' h => ?_)
  rcases h with ⟨h, rfl, rfl, rfl⟩ | ⟨rfl, ⟨-, h⟩, rfl, rfl⟩
  · exact ⟨by unfold qHr; rw [if_pos h], zQm.rf hL⟩
  · exact ⟨by unfold qHr; rw [if_neg h], zQm.rf hL⟩
theorem hq_isListening (l : Launch) (g : zG) (zX : va_W) (ad : Int → Nat) (M F : zMem) {t many : Int} {V : Int → Int} {U : Int → Int → Int} (hL : zLw t many V U M F) (x0 : Int) (hx0 : zR x0) : hMt l yL_isListening cL_isListening 3 [(0, 13, 14, 20)] 9 1 6 g zX ad [.ref (ad 0), .int (zI x0)] M F (zPi (fun k M' F' => k = qHr V 1 x0 ∧ zQm t many V U M F M' F')) := by
  refine hMt.mono (ch_isListening l g zX ad M F x0 _ _ (ct_X11_isListening l g zX ad M F V t x0 hx0 hL.rs hL.iv) (fun E M' F' h => h.1.1) (fun r M' F' h => by rw [← h.2.1]; exact (hL.iv.2.2.2.2.2.1 x0 h.1.1 h.1.2).2.1)) (fun k M' F' h => ?_)
  rcases h with ⟨h, rfl, rfl, rfl⟩ | ⟨rfl, ⟨-, h⟩, rfl, rfl⟩
  · exact ⟨by unfold qHr; rw [if_pos h], zQm.rf hL⟩
  · exact ⟨by unfold qHr; rw [if_neg h], zQm.rf hL⟩
theorem hq_isDrumming (l : Launch) (g : zG) (zX : va_W) (ad : Int → Nat) (M F : zMem) {t many : Int} {V : Int → Int} {U : Int → Int → Int} (hL : zLw t many V U M F) (x0 : Int) (hx0 : zR x0) : hMt l yL_isDrumming cL_isDrumming 3 [(0, 13, 14, 20)] 9 1 6 g zX ad [.ref (ad 0), .int (zI x0)] M F (zPi (fun k M' F' => k = qDr V x0 ∧ zQm t many V U M F M' F')) := by
  refine hMt.mono (ch_isDrumming l g zX ad M F x0 _ _ (ct_X11_isDrumming l g zX ad M F V t x0 hx0 hL.rs hL.iv) (fun E M' F' h => h.1.1) (fun r M' F' h => by rw [← h.2.1]; exact zb_01 _)) (fun k M' F' h => ?_)
  rcases h with ⟨h, rfl, rfl, rfl⟩ | ⟨rfl, ⟨-, h⟩, rfl, rfl⟩
  · exact ⟨by unfold qDr; rw [if_pos h], zQm.rf hL⟩
  · exact ⟨by unfold qDr; rw [if_neg h], zQm.rf hL⟩
theorem hq_latest (l : Launch) (g : zG) (zX : va_W) (ad : Int → Nat) (M F : zMem) {t many : Int} {V : Int → Int} {U : Int → Int → Int} (hL : zLw t many V U M F) (x0 : Int) (hx0 : zR x0) : hMt l yL_latest cL_latest 3 [(0, 5, 6, 20), (0, 5, 10, 28)] 9 2 12 g zX ad [.ref (ad 0), .int (zI x0)] M F (zPi (fun k M' F' => k = qLa V x0 ∧ zQm t many V U M F M' F')) := by
  refine hMt.mono (ch_latest l g zX ad M F x0 _ _ (ct_X11_latestNumber l g zX ad M F V t x0 hx0 hL.rs hL.iv hL.la) (fun E M' F' h => by rcases h.1 with h | h <;> first | exact Or.inl h.1 | exact Or.inr h.1)) (fun k M' F' h => ?_)
  rcases h with ⟨h, rfl, rfl, rfl⟩ | ⟨rfl, ⟨-, h⟩ | ⟨h, -⟩, rfl, rfl⟩ | ⟨rfl, ⟨h, -⟩ | ⟨-, h⟩, rfl, rfl⟩
  · exact ⟨by unfold qLa; rw [if_pos h.1, if_pos h.2], zQm.rf hL⟩
  · exact ⟨by unfold qLa; rw [if_neg h], zQm.rf hL⟩
  · exact absurd h (by decide)
  · exact absurd h (by decide)
  · exact ⟨by unfold qLa; rw [if_pos h.1, if_neg h.2], zQm.rf hL⟩
theorem hq_isThump (l : Launch) (g : zG) (zX : va_W) (ad : Int → Nat) (M F : zMem) {t many : Int} {V : Int → Int} {U : Int → Int → Int} (hL : zLw t many V U M F) (x0 : Int) (hx0 : zR x0) (x1 : Int) (hx1 : zR x1) : hMt l yL_isThump cL_isThump 4 [(0, 14, 15, 22), (0, 14, 19, 20)] 9 2 12 g zX ad [.ref (ad 0), .int (zI x0), .int (zI x1)] M F (zPi (fun k M' F' => k = qTh x0 x1 ∧ zQm t many V U M F M' F')) := by
  refine hMt.mono (ch_isThump l g zX ad M F x0 x1 _ _ (ct_X11_isThump l g zX ad M F x0 hx0 x1 hx1) (fun E M' F' h => by rcases h.1 with h | h <;> first | exact Or.inl h.1 | exact Or.inr h.1) (fun r M' F' h => by rw [← h.2.1]; exact zb_01 _)) (fun k M' F' h => ?_)
  rcases h with ⟨h, rfl, rfl, rfl⟩ | ⟨rfl, ⟨-, h⟩ | ⟨h, -⟩, rfl, rfl⟩ | ⟨rfl, ⟨h, -⟩ | ⟨-, h⟩, rfl, rfl⟩
  · exact ⟨by unfold qTh; rw [if_pos h.1, if_pos h.2], zQm.rf hL⟩
  · exact ⟨by unfold qTh; rw [if_neg h], zQm.rf hL⟩
  · exact absurd h (by decide)
  · exact absurd h (by decide)
  · exact ⟨by unfold qTh; rw [if_pos h.1, if_neg h.2], zQm.rf hL⟩
theorem hq_decode (l : Launch) (g : zG) (zX : va_W) (ad : Int → Nat) (M F : zMem) {t many : Int} {V : Int → Int} {U : Int → Int → Int} (hL : zLw t many V U M F) (x0 : Int) (hx0 : zR x0) : hMt l yL_decode cL_decode 3 [(0, 5, 6, 22), (0, 5, 10, 28)] 9 1 6 g zX ad [.ref (ad 0), .int (zI x0)] M F (zPi (fun k M' F' => k = qDe x0 ∧ zQm t many V U M F M' F')) := by
  refine hMt.mono (ch_decode l g zX ad M F x0 _ _ (ct_X11_decode l g zX ad M F x0 hx0) (fun E M' F' h => by rcases h.1 with h | h <;> first | exact Or.inl h.1 | exact Or.inr h.1)) (fun k M' F' h => ?_)
  rcases h with ⟨h, rfl, rfl, rfl⟩ | ⟨rfl, ⟨-, h⟩ | ⟨h, -⟩, rfl, rfl⟩ | ⟨rfl, ⟨h, -⟩ | ⟨-, h⟩, rfl, rfl⟩
  · exact ⟨by unfold qDe; rw [if_pos h.1, if_pos h.2], zQm.rf hL⟩
  · exact ⟨by unfold qDe; rw [if_neg h], zQm.rf hL⟩
  · exact absurd h (by decide)
  · exact absurd h (by decide)
  · exact ⟨by unfold qDe; rw [if_pos h.1, if_neg h.2], zQm.rf hL⟩
theorem hq_bySearch (l : Launch) (g : zG) (zX : va_W) (ad : Int → Nat) (M F : zMem) {t many : Int} {V : Int → Int} {U : Int → Int → Int} (hL : zLw t many V U M F) (x0 : Int) (hx0 : zR x0) (x1 : Int) (hx1 : zR x1) : hMt l yL_bySearch cL_bySearch 4 [(0, 6, 7, 20), (0, 6, 11, 28)] 9 3 18 g zX ad [.ref (ad 0), .int (zI x0), .int (zI x1)] M F (zPi (fun k M' F' => k = qSh V x0 x1 ∧ zQm t many V U M F M' F')) := by
  refine hMt.mono (ch_bySearch l g zX ad M F x0 x1 _ _ (ct_X11_shortestDelayBySearch l g zX ad M F V t x0 hx0 x1 hx1 hL.rs hL.iv hL.tn) (fun E M' F' h => by rcases h with h | ⟨w, h⟩ <;> first | exact Or.inl h.1 | exact Or.inr h.1)) (fun k M' F' h => ?_)
  rcases h with ⟨w, h, rfl, rfl, rfl⟩ | ⟨rfl, ⟨-, h, rfl, rfl⟩ | ⟨w, h, -⟩⟩ | ⟨rfl, ⟨h, -⟩ | ⟨w, -, h1, h2, rfl, rfl⟩⟩
  · exact ⟨by unfold qSh; rw [if_pos h.1, if_neg h.2], zQm_5 hL⟩
  · exact ⟨by unfold qSh; rw [if_neg h], zQm.rf hL⟩
  · exact absurd h (by decide)
  · exact absurd h (by decide)
  · exact ⟨by unfold qSh; rw [if_pos h1, if_pos h2], zQm_5 hL⟩
theorem hq_byReceived (l : Launch) (g : zG) (zX : va_W) (ad : Int → Nat) (M F : zMem) {t many : Int} {V : Int → Int} {U : Int → Int → Int} (hL : zLw t many V U M F) (x0 : Int) (hx0 : zR x0) : hMt l yL_byReceived cL_byReceived 3 [(0, 5, 6, 28)] 9 1 6 g zX ad [.ref (ad 0), .int (zI x0)] M F (zPi (fun k M' F' => ((∃ q : Int, (0 ≤ q ∧ q < V 1) ∧ zrnk V q = x0 ∧ k = q) ∨ (k = -13 ∧ ∀ q, 0 ≤ q → q < V 1 → zrnk V q ≠ x0)) ∧ zQm t many V U M F M' F')) := by
  refine hMt.mono (ch_byReceived l g zX ad M F x0 _ _ (ct_X11_hareByReceived l g zX ad M F V t x0 hx0 hL.rs hL.iv) (fun E M' F' h => h.1.1)) (fun k M' F' h => ?_)
  rcases h with ⟨q, h1, h2, rfl, rfl, rfl⟩ | ⟨rfl, ⟨-, h⟩, rfl, rfl⟩
  · exact ⟨Or.inl ⟨q, h1, h2, rfl⟩, zQm.rf hL⟩
  · exact ⟨Or.inr ⟨rfl, h⟩, zQm.rf hL⟩
theorem hq_until (l : Launch) (g : zG) (zX : va_W) (ad : Int → Nat) (M F : zMem) {t many : Int} {V : Int → Int} {U : Int → Int → Int} (hL : zLw t many V U M F) (x0 : Int) (hx0 : zR x0) (ht : t ≤ 70000000) : hMt l yL_until cL_until 3 [(0, 5, 6, 28), (0, 5, 10, 14), (0, 5, 14, 107)] 9 2 12 g zX ad [.ref (ad 0), .int (zI x0)] M F (zPi (fun k M' F' => k = qUn V x0 ∧ zQm t many V U M F M' F')) := by
  refine hMt.mono (ch_until l g zX ad M F x0 _ _ (ct_X11_ticksUntilDelivery l g zX ad M F V t x0 hx0 hL.rs hL.iv hL.id hL.td hL.p0 hL.2.1 ht) (fun E M' F' h => by rcases h with h | h | h <;> first | exact Or.inl h.1 | exact Or.inr (Or.inl h.1) | exact Or.inr (Or.inr h.1))) (fun k M' F' h => ?_)
  rcases h with ⟨⟨h, h1⟩, rfl, h2, h3, h4⟩ | ⟨rfl, ⟨-, h, rfl, rfl⟩ | ⟨h, -⟩ | ⟨h, -⟩⟩ | ⟨rfl, ⟨h, -⟩ | ⟨-, h, h1, rfl, rfl⟩ | ⟨h, -⟩⟩ | ⟨rfl, ⟨h, -⟩ | ⟨h, -⟩ | ⟨-, ⟨h, h1⟩, h2, h3, h4⟩⟩
  · exact ⟨by unfold qUn; rw [if_neg h, if_neg h1, if_neg (by omega)], zQm_32 hL h3 h4⟩
  · exact ⟨by unfold qUn; rw [if_pos h], zQm.rf hL⟩
  · exact absurd h (by decide)
  · exact absurd h (by decide)
  · exact absurd h (by decide)
  · exact ⟨by unfold qUn; rw [if_neg h, if_pos h1], zQm.rf hL⟩
  · exact absurd h (by decide)
  · exact absurd h (by decide)
  · exact absurd h (by decide)
  · exact ⟨by unfold qUn; rw [if_neg h, if_neg h1, if_pos h2], zQm_32 hL h3 h4⟩
theorem hq_outputAt (l : Launch) (g : zG) (zX : va_W) (ad : Int → Nat) (M F : zMem) {t many : Int} {V : Int → Int} {U : Int → Int → Int} (hL : zLw t many V U M F) (x0 : Int) (hx0 : zR x0) : hMt l yL_outputAt cL_outputAt 3 [(0, 5, 6, 20)] 9 1 6 g zX ad [.ref (ad 0), .int (zI x0)] M F (zPi (fun k M' F' => k = (if 0 ≤ x0 ∧ x0 < M 396 3 then M 397 x0 else -11) ∧ zQm t many V U M F M' F')) := by
  refine hMt.mono (ch_outputAt l g zX ad M F x0 _ _ (ct_X11_outputCharacter l g zX ad M F x0 hx0 hL.ou.1 hL.ou.2.1 hL.ou.2.2) (fun E M' F' h => h.1)) (fun k M' F' h => ?_)
  rcases h with ⟨h, rfl, rfl, rfl⟩ | ⟨rfl, -, h, rfl, rfl⟩
  · exact ⟨by rw [if_pos h], zQm.rf hL⟩
  · exact ⟨by rw [if_neg h], zQm.rf hL⟩
