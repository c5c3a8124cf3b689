/-! tunnels and messages keep the relation -/
def zSm (f : Int → Int) : Nat → Int
  | 0 => 0
  | n + 1 => zSm f n + f n
theorem zSm_f {f : Int → Int} : ∀ (n : Nat) (c : Int), zfold (fun b c => c + f b) n c = c + zSm f n
  | 0, c => (Int.add_zero c).symm
  | n + 1, c => by
    show zfold (fun b c => c + f b) n c + f n = c + (zSm f n + f n)
    rw [zSm_f n c]
    omega
theorem zSm_c {f g : Int → Int} : ∀ n : Nat, (∀ k : Int, 0 ≤ k → k < n → f k = g k) → zSm f n = zSm g n
  | 0, _ => rfl
  | n + 1, h => by
    show zSm f n + f n = zSm g n + g n
    rw [zSm_c n (fun k h0 h1 => h k h0 (by omega)), h n (by omega) (by omega)]
theorem zSm_u {f g : Int → Int} {u : Int} : ∀ n : Nat, (∀ k : Int, 0 ≤ k → k < n → k ≠ u → f k = g k) → 0 ≤ u → u < n → zSm f n = zSm g n + (f u - g u)
  | 0, _, h0, h1 => by omega
  | n + 1, h, h0, h1 => by
    show zSm f n + f n = zSm g n + g n + (f u - g u)
    by_cases e : u = n
    · rw [zSm_c n (fun k k0 k1 => h k k0 (by omega) (by omega)), e]
      omega
    · rw [zSm_u n (fun k k0 k1 k2 => h k k0 (by omega) k2) h0 (by omega), h n (by omega) (by omega) (fun q => e q.symm)]
      omega
theorem zTu_s (V : Int → Int) : zTu V = zSm (fun a => zSm (fun b => zb (0 < V (8 + 8 * a + b))) a.toNat) 8 := by
  unfold zTu
  have h : ∀ (a c : Int), zfold (fun b c => c + zb (0 < V (8 + 8 * a + b))) a.toNat c = c + zSm (fun b => zb (0 < V (8 + 8 * a + b))) a.toNat := fun a c => zSm_f (f := fun b => zb (0 < V (8 + 8 * a + b))) a.toNat c
  rw [zfold_c (g := fun a c => c + zSm (fun b => zb (0 < V (8 + 8 * a + b))) a.toNat) 8 0 (fun k s _ _ => h k s), zSm_f]
  omega
theorem zTu_hl {V V' : Int → Int} {x y d : Int} (hx : zc8 x) (hy : 0 ≤ y ∧ y < x) (h : ∀ p q, zc8 p → 0 ≤ q → q < p → ¬ (p = x ∧ q = y) → V' (8 + 8 * p + q) = V (8 + 8 * p + q)) (hd : V' (8 + 8 * x + y) = d) : zTu V' = zTu V + (zb (0 < d) - zb (0 < V (8 + 8 * x + y))) := by
  rw [zTu_s, zTu_s]
  have h1 := zSm_u (f := fun a => zSm (fun b => zb (0 < V' (8 + 8 * a + b))) a.toNat) (g := fun a => zSm (fun b => zb (0 < V (8 + 8 * a + b))) a.toNat) (u := x) 8 (fun k k0 k1 k2 => zSm_c _ (fun q q0 q1 => by
    show zb (0 < V' (8 + 8 * k + q)) = zb (0 < V (8 + 8 * k + q))
    rw [h k q ⟨k0, by omega⟩ q0 (by omega) (fun z => k2 z.1)])) hx.1 (by have := hx.2; omega)
  have h2 := zSm_u (f := fun b => zb (0 < V' (8 + 8 * x + b))) (g := fun b => zb (0 < V (8 + 8 * x + b))) (u := y) x.toNat (fun q q0 q1 q2 => by
    show zb (0 < V' (8 + 8 * x + q)) = zb (0 < V (8 + 8 * x + q))
    rw [h x q hx q0 (by omega) (fun z => q2 z.2)]) hy.1 (by omega)
  have e : zb (0 < V' (8 + 8 * x + y)) = zb (0 < d) := by rw [hd]
  rw [h1]
  show _ + (zSm (fun b => zb (0 < V' (8 + 8 * x + b))) x.toNat - zSm (fun b => zb (0 < V (8 + 8 * x + b))) x.toNat) = _
  rw [h2]
  show _ + (_ + (zb (0 < V' (8 + 8 * x + y)) - zb (0 < V (8 + 8 * x + y))) - _) = _
  rw [e]
  omega
theorem zTu_2 {V : Int → Int} {a c d : Int} (ha : zc8 a) (hc : zc8 c) (hne : a ≠ c) (hs : V (8 + 8 * a + c) = V (8 + 8 * c + a)) : zTu (zup (zup V (8 + 8 * a + c) d) (8 + 8 * c + a) d) = zTu V + (zb (0 < d) - zb (0 < V (8 + 8 * a + c))) := by
  have a0 := ha.1
  have a1 := ha.2
  have b0 := hc.1
  have b1 := hc.2
  by_cases e : c < a
  · exact zTu_hl ha ⟨b0, e⟩ (fun p q hp q0 q1 hn => by
      have := hp.2
      rw [zup_ne (by omega), zup_ne (by omega)]) (by rw [zup_ne (by omega), zup_same])
  · rw [hs]
    exact zTu_hl hc ⟨a0, by omega⟩ (fun p q hp q0 q1 hn => by
      have := hp.2
      rw [zup_ne (by omega), zup_ne (by omega)]) (by rw [zup_same])
/-! a new message -/
theorem zfill_is {a : Int} {V : Int → Int} : ∀ (n : Nat) (j : Int), zfold (fun k W => zup W (a + k) 0) n V j = if a ≤ j ∧ j < a + n then 0 else V j
  | 0, j => by
    rw [if_neg (by omega)]
    rfl
  | n + 1, j => by
    show zup (zfold (fun k W => zup W (a + k) 0) n V) (a + n) 0 j = _
    by_cases e : j = a + n
    · rw [zup_at e, if_pos (by omega)]
    · rw [zup_ne e, zfill_is n j]
      by_cases q : a ≤ j ∧ j < a + n
      · rw [if_pos q, if_pos (by omega)]
      · rw [if_neg q, if_neg (by omega)]
section ZSAY
variable {s r n : Int} {V : Int → Int}
theorem zSay_o {j : Int} (h : 0 ≤ V 2) (hj : j ≠ 2 ∧ j ≠ 3 ∧ (j < 96 + 47 * V 2 ∨ 96 + 47 * V 2 + 47 ≤ j)) : zdSayR s r n V j = V j := by
  unfold zdSayR
  rw [zup_ne (by omega), zup_ne (by omega), zup_ne (by omega), zup_ne (by omega), zup_ne (by omega), zup_ne (by omega), zup_ne (by omega), zfill_is, if_neg (by omega)]
theorem zSay_2 : zdSayR s r n V 2 = V 2 + 1 := by
  unfold zdSayR
  rw [zup_ne (by omega), zup_same]
theorem zSay_3 : zdSayR s r n V 3 = V 3 + 1 := by
  unfold zdSayR
  rw [zup_same]
theorem zSay_m0 (h : 0 ≤ V 2) : zdSayR s r n V (96 + 47 * V 2 + 0) = V 3 := by
  unfold zdSayR
  rw [zup_ne (by omega), zup_ne (by omega), zup_ne (by omega), zup_ne (by omega), zup_ne (by omega), zup_ne (by omega), zup_at (by omega)]
theorem zSay_m1 (h : 0 ≤ V 2) : zdSayR s r n V (96 + 47 * V 2 + 1) = s := by
  unfold zdSayR
  rw [zup_ne (by omega), zup_ne (by omega), zup_ne (by omega), zup_ne (by omega), zup_ne (by omega), zup_at (by omega)]
theorem zSay_m2 (h : 0 ≤ V 2) : zdSayR s r n V (96 + 47 * V 2 + 2) = r := by
  unfold zdSayR
  rw [zup_ne (by omega), zup_ne (by omega), zup_ne (by omega), zup_ne (by omega), zup_at (by omega)]
theorem zSay_m3 (h : 0 ≤ V 2) : zdSayR s r n V (96 + 47 * V 2 + 3) = n := by
  unfold zdSayR
  rw [zup_ne (by omega), zup_ne (by omega), zup_ne (by omega), zup_at (by omega)]
theorem zSay_m4 (h : 0 ≤ V 2) : zdSayR s r n V (96 + 47 * V 2 + 4) = 119 := by
  unfold zdSayR
  rw [zup_ne (by omega), zup_ne (by omega), zup_at (by omega)]
theorem zSay_mz {k : Int} (h : 0 ≤ V 2) (h0 : 5 ≤ k) (h1 : k < 47) : zdSayR s r n V (96 + 47 * V 2 + k) = 0 := by
  unfold zdSayR
  rw [zup_ne (by omega), zup_ne (by omega), zup_ne (by omega), zup_ne (by omega), zup_ne (by omega), zup_ne (by omega), zup_ne (by omega), zfill_is, if_pos (by omega)]
end ZSAY
set_option maxHeartbeats 2000000 in
theorem zR_say {b zt : Int} {V : Int → Int} {M F : zMem} (hr : zRS b V M F) (hI : zIV zt V) {s r n : Int} (h8 : V 2 < 8) : zRS b (zdSayR s r n V) (zu (zu (zu (zu (zu (zu (zu (zu (zu M (F (b + 6) (V 2)) 0 (V 3)) (F (b + 6) (V 2)) 1 s) (F (b + 6) (V 2)) 2 r) (F (b + 6) (V 2)) 3 n) (F (b + 6) (V 2)) 4 119) (F (b + 6) (V 2)) 5 0) (F (b + 6) (V 2)) 6 0) b 4 (V 2 + 1)) b 5 (V 3 + 1)) F := by
  have h0b := hI.1
  have h1b := hI.2.1
  have h2b := hI.2.2.1
  obtain ⟨c0, c1, c2, c4, c5, c7, c8, c9, c10⟩ := hr.1
  have hmo := hr.mo h2b.1 h8
  have hbd := zMo_bd hmo
  refine ⟨?_, ?_, ?_, ?_, ?_, ?_, ?_⟩
  · exact ⟨by (repeat (first | rw [zSay_o h2b.1 (by omega)] | rw [zu_ne (by omega)] | rw [zu_at (by omega) (by omega)] | rw [zup_ne (by omega)] | rw [zup_at (by omega)])); assumption, by rw [zTu_c (V := V) (fun i h0 h1 => by (repeat (first | rw [zSay_o h2b.1 (by omega)] | rw [zu_ne (by omega)] | rw [zu_at (by omega) (by omega)] | rw [zup_ne (by omega)] | rw [zup_at (by omega)])))]; (repeat (first | rw [zSay_o h2b.1 (by omega)] | rw [zu_ne (by omega)] | rw [zu_at (by omega) (by omega)] | rw [zup_ne (by omega)] | rw [zup_at (by omega)])); assumption, by (repeat (first | rw [zSay_o h2b.1 (by omega)] | rw [zu_ne (by omega)] | rw [zu_at (by omega) (by omega)] | rw [zup_ne (by omega)] | rw [zup_at (by omega)])); assumption, by rw [zSay_2]; (repeat (first | rw [zSay_o h2b.1 (by omega)] | rw [zu_ne (by omega)] | rw [zu_at (by omega) (by omega)] | rw [zup_ne (by omega)] | rw [zup_at (by omega)])), by rw [zSay_3]; (repeat (first | rw [zSay_o h2b.1 (by omega)] | rw [zu_ne (by omega)] | rw [zu_at (by omega) (by omega)] | rw [zup_ne (by omega)] | rw [zup_at (by omega)])), by (repeat (first | rw [zSay_o h2b.1 (by omega)] | rw [zu_ne (by omega)] | rw [zu_at (by omega) (by omega)] | rw [zup_ne (by omega)] | rw [zup_at (by omega)])); assumption, by (repeat (first | rw [zSay_o h2b.1 (by omega)] | rw [zu_ne (by omega)] | rw [zu_at (by omega) (by omega)] | rw [zup_ne (by omega)] | rw [zup_at (by omega)])); assumption, by (repeat (first | rw [zSay_o h2b.1 (by omega)] | rw [zu_ne (by omega)] | rw [zu_at (by omega) (by omega)] | rw [zup_ne (by omega)] | rw [zup_at (by omega)])); assumption, by (repeat (first | rw [zSay_o h2b.1 (by omega)] | rw [zu_ne (by omega)] | rw [zu_at (by omega) (by omega)] | rw [zup_ne (by omega)] | rw [zup_at (by omega)])); assumption⟩
  · exact zRt_c hr.2.1 (by (repeat (rw [zu_row (by omega)]))) (fun i h0 h1 => by (repeat (first | rw [zSay_o h2b.1 (by omega)] | rw [zu_ne (by omega)] | rw [zu_at (by omega) (by omega)] | rw [zup_ne (by omega)] | rw [zup_at (by omega)])))
  · exact zRw_c hr.2.2.1 (by (repeat (rw [zu_row (by omega)]))) (fun i h0 h1 => by (repeat (first | rw [zSay_o h2b.1 (by omega)] | rw [zu_ne (by omega)] | rw [zu_at (by omega) (by omega)] | rw [zup_ne (by omega)] | rw [zup_at (by omega)])))
  · exact zRh_c hr.2.2.2.1 (fun q h0 h1 => by (repeat (rw [zu_row (by omega)]))) hI.2.1.2 (by (repeat (first | rw [zSay_o h2b.1 (by omega)] | rw [zu_ne (by omega)] | rw [zu_at (by omega) (by omega)] | rw [zup_ne (by omega)] | rw [zup_at (by omega)]))) (fun i h0 h1 => by (repeat (first | rw [zSay_o h2b.1 (by omega)] | rw [zu_ne (by omega)] | rw [zu_at (by omega) (by omega)] | rw [zup_ne (by omega)] | rw [zup_at (by omega)])))
  · exact hr.2.2.2.2.1
  · intro p p0 p1
    rw [zSay_2] at p1
    by_cases e : p = V 2
    · subst e
      refine ⟨⟨?_, ?_, ?_, ?_, ?_, ?_, ?_⟩, fun q c q0 q1 => ?_⟩
      · rw [zSay_m0 h2b.1]; (repeat (first | rw [zu_ne (by omega)] | rw [zu_at (by omega) (by omega)] | rw [zup_ne (by omega)] | rw [zup_at (by omega)]))
      · rw [zSay_m1 h2b.1]; (repeat (first | rw [zu_ne (by omega)] | rw [zu_at (by omega) (by omega)] | rw [zup_ne (by omega)] | rw [zup_at (by omega)]))
      · rw [zSay_m2 h2b.1]; (repeat (first | rw [zu_ne (by omega)] | rw [zu_at (by omega) (by omega)] | rw [zup_ne (by omega)] | rw [zup_at (by omega)]))
      · rw [zSay_m3 h2b.1]; (repeat (first | rw [zu_ne (by omega)] | rw [zu_at (by omega) (by omega)] | rw [zup_ne (by omega)] | rw [zup_at (by omega)]))
      · rw [zSay_m4 h2b.1]; (repeat (first | rw [zu_ne (by omega)] | rw [zu_at (by omega) (by omega)] | rw [zup_ne (by omega)] | rw [zup_at (by omega)]))
      · rw [zSay_mz h2b.1 (by omega) (by omega)]; (repeat (first | rw [zu_ne (by omega)] | rw [zu_at (by omega) (by omega)] | rw [zup_ne (by omega)] | rw [zup_at (by omega)]))
      · rw [zSay_mz h2b.1 (by omega) (by omega)]; (repeat (first | rw [zu_ne (by omega)] | rw [zu_at (by omega) (by omega)] | rw [zup_ne (by omega)] | rw [zup_at (by omega)]))
      · rw [zSay_mz h2b.1 (by omega) (by omega)] at q1
        omega
    · have hne : F (b + 6) p ≠ F (b + 6) (V 2) := fun z => e (hr.2.2.2.2.1.2 p (V 2) ⟨p0, by omega⟩ ⟨h2b.1, h8⟩ z)
      have hmp := hr.mo p0 (show p < 8 by omega)
      have hbp := zMo_bd hmp
      have hpar : F (b + 6) p + 1 ≠ F (b + 6) (V 2) ∧ F (b + 6) p ≠ F (b + 6) (V 2) + 1 := by
        obtain ⟨-, k, k0, k1, e1⟩ := hmp
        obtain ⟨-, k', k0', k1', e2⟩ := hmo
        omega
      exact zRm1_c (hr.2.2.2.2.2.1 p p0 (by omega)) p0 (by omega) ⟨by (repeat (rw [zu_row (by omega)])), by (repeat (rw [zu_row (by omega)]))⟩ (zIV_b6 hI p p0 (by omega)) (fun k k0 k1 => zSay_o h2b.1 (by omega))
  · exact zRa_c hr.2.2.2.2.2.2 (by (repeat (rw [zu_row (by omega)]))) (by (repeat (first | rw [zSay_o h2b.1 (by omega)] | rw [zu_ne (by omega)] | rw [zu_at (by omega) (by omega)] | rw [zup_ne (by omega)] | rw [zup_at (by omega)]))) (fun i h0 h1 => by (repeat (first | rw [zSay_o h2b.1 (by omega)] | rw [zu_ne (by omega)] | rw [zu_at (by omega) (by omega)] | rw [zup_ne (by omega)] | rw [zup_at (by omega)])))
/-! a message goes -/
theorem zFo_o {p j : Int} {V : Int → Int} (hp : 0 ≤ p ∧ p < V 2) (hj : j ≠ 2 ∧ (j < 96 + 47 * p ∨ 472 ≤ j)) (h8 : V 2 ≤ 8) : zdFoR p V j = V j := by
  unfold zdFoR
  rw [if_neg (by omega), zup_ne (by omega)]
theorem zFo_2 {p : Int} {V : Int → Int} (hp : 0 ≤ p ∧ p < V 2) : zdFoR p V 2 = V 2 - 1 := by
  unfold zdFoR
  rw [if_neg (by omega), zup_same]
theorem zFo_m {p q k : Int} {V : Int → Int} (hp : 0 ≤ p ∧ p < V 2) (hq : p ≤ q ∧ q < V 2 - 1) (hk : 0 ≤ k ∧ k < 47) : zdFoR p V (96 + 47 * q + k) = V (96 + 47 * (q + 1) + k) := by
  unfold zdFoR
  rw [if_pos (by omega), zup_ne (by omega)]
  exact congrArg V (by omega)
/-- how the places move -/
def zmv (p n : Int) (r : Int → Int) : Int → Int := fun q => if p ≤ q ∧ q < n - 1 then r (q + 1) else if q = n - 1 then r p else r q
set_option maxHeartbeats 2000000 in
theorem zR_forget {b zt : Int} {V : Int → Int} {M F : zMem} (hr : zRS b V M F) (hI : zIV zt V) {p : Int} {F' : zMem} (hp : 0 ≤ p ∧ p < V 2) (hF : ∀ q, zc8 q → F' (b + 6) q = zmv p (V 2) (F (b + 6)) q) : zRS b (zdFoR p V) (zu M b 4 (V 2 - 1)) F' := by
  have h0b := hI.1
  have h1b := hI.2.1
  have h2b := hI.2.2.1
  obtain ⟨c0, c1, c2, c4, c5, c7, c8, c9, c10⟩ := hr.1
  refine ⟨?_, ?_, ?_, ?_, ?_, ?_, ?_⟩
  · exact ⟨by (repeat (first | rw [zFo_o hp (by omega) h2b.2] | rw [zu_ne (by omega)] | rw [zu_at (by omega) (by omega)] | rw [zup_ne (by omega)] | rw [zup_at (by omega)])); assumption, by rw [zTu_c (V := V) (fun i h0 h1 => by (repeat (first | rw [zFo_o hp (by omega) h2b.2] | rw [zu_ne (by omega)] | rw [zu_at (by omega) (by omega)] | rw [zup_ne (by omega)] | rw [zup_at (by omega)])))]; (repeat (first | rw [zFo_o hp (by omega) h2b.2] | rw [zu_ne (by omega)] | rw [zu_at (by omega) (by omega)] | rw [zup_ne (by omega)] | rw [zup_at (by omega)])); assumption, by (repeat (first | rw [zFo_o hp (by omega) h2b.2] | rw [zu_ne (by omega)] | rw [zu_at (by omega) (by omega)] | rw [zup_ne (by omega)] | rw [zup_at (by omega)])); assumption, by rw [zFo_2 hp]; (repeat (first | rw [zFo_o hp (by omega) h2b.2] | rw [zu_ne (by omega)] | rw [zu_at (by omega) (by omega)] | rw [zup_ne (by omega)] | rw [zup_at (by omega)])), by (repeat (first | rw [zFo_o hp (by omega) h2b.2] | rw [zu_ne (by omega)] | rw [zu_at (by omega) (by omega)] | rw [zup_ne (by omega)] | rw [zup_at (by omega)])); assumption, by (repeat (first | rw [zFo_o hp (by omega) h2b.2] | rw [zu_ne (by omega)] | rw [zu_at (by omega) (by omega)] | rw [zup_ne (by omega)] | rw [zup_at (by omega)])); assumption, by (repeat (first | rw [zFo_o hp (by omega) h2b.2] | rw [zu_ne (by omega)] | rw [zu_at (by omega) (by omega)] | rw [zup_ne (by omega)] | rw [zup_at (by omega)])); assumption, by (repeat (first | rw [zFo_o hp (by omega) h2b.2] | rw [zu_ne (by omega)] | rw [zu_at (by omega) (by omega)] | rw [zup_ne (by omega)] | rw [zup_at (by omega)])); assumption, by (repeat (first | rw [zFo_o hp (by omega) h2b.2] | rw [zu_ne (by omega)] | rw [zu_at (by omega) (by omega)] | rw [zup_ne (by omega)] | rw [zup_at (by omega)])); assumption⟩
  · exact zRt_c hr.2.1 (by (repeat (rw [zu_row (by omega)]))) (fun i h0 h1 => by (repeat (first | rw [zFo_o hp (by omega) h2b.2] | rw [zu_ne (by omega)] | rw [zu_at (by omega) (by omega)] | rw [zup_ne (by omega)] | rw [zup_at (by omega)])))
  · exact zRw_c hr.2.2.1 (by (repeat (rw [zu_row (by omega)]))) (fun i h0 h1 => by (repeat (first | rw [zFo_o hp (by omega) h2b.2] | rw [zu_ne (by omega)] | rw [zu_at (by omega) (by omega)] | rw [zup_ne (by omega)] | rw [zup_at (by omega)])))
  · exact zRh_c hr.2.2.2.1 (fun q h0 h1 => by (repeat (rw [zu_row (by omega)]))) hI.2.1.2 (by (repeat (first | rw [zFo_o hp (by omega) h2b.2] | rw [zu_ne (by omega)] | rw [zu_at (by omega) (by omega)] | rw [zup_ne (by omega)] | rw [zup_at (by omega)]))) (fun i h0 h1 => by (repeat (first | rw [zFo_o hp (by omega) h2b.2] | rw [zu_ne (by omega)] | rw [zu_at (by omega) (by omega)] | rw [zup_ne (by omega)] | rw [zup_at (by omega)])))
  · have e9 : ∀ q, zc8 q → ∃ q', zc8 q' ∧ F' (b + 6) q = F (b + 6) q' ∧ ((p ≤ q ∧ q < V 2 - 1 ∧ q' = q + 1) ∨ (q = V 2 - 1 ∧ q' = p) ∨ ((q < p ∨ V 2 - 1 < q) ∧ q' = q)) := fun q hq => by
      have q0 := hq.1
      have q1 := hq.2
      rw [hF q hq]
      unfold zmv
      by_cases e1 : p ≤ q ∧ q < V 2 - 1
      · exact ⟨q + 1, ⟨by omega, by omega⟩, by rw [if_pos e1], by omega⟩
      · by_cases e2 : q = V 2 - 1
        · exact ⟨p, ⟨by omega, by omega⟩, by rw [if_neg e1, if_pos e2], by omega⟩
        · exact ⟨q, hq, by rw [if_neg e1, if_neg e2], by omega⟩
    refine ⟨fun q hq => ?_, fun q q2 hq hq2 hz => ?_⟩
    · obtain ⟨q', h1, h2, -⟩ := e9 q hq
      rw [h2]
      exact hr.2.2.2.2.1.1 q' h1
    · obtain ⟨a', h1, h2, h3⟩ := e9 q hq
      obtain ⟨b', h4, h5, h6⟩ := e9 q2 hq2
      have := hr.2.2.2.2.1.2 a' b' h1 h4 (by rw [← h2, ← h5]; exact hz)
      omega
  · intro q q0 q1
    rw [zFo_2 hp] at q1
    have q8 : zc8 q := ⟨q0, by omega⟩
    rw [hF q q8]
    unfold zmv
    by_cases e1 : p ≤ q ∧ q < V 2 - 1
    · rw [if_pos e1]
      have h := hr.2.2.2.2.2.1 (q + 1) (by omega) (by omega)
      have hbd := zMo_bd (hr.mo (show 0 ≤ q + 1 by omega) (show q + 1 < 8 by omega))
      have h6 := zIV_b6 hI (q + 1) (by omega) (by omega)
      unfold zRm1
      rw [zFo_m hp e1 ⟨by omega, by omega⟩, zFo_m hp e1 ⟨by omega, by omega⟩, zFo_m hp e1 ⟨by omega, by omega⟩, zFo_m hp e1 ⟨by omega, by omega⟩, zFo_m hp e1 ⟨by omega, by omega⟩, zFo_m hp e1 ⟨by omega, by omega⟩, zFo_m hp e1 ⟨by omega, by omega⟩]
      rw [zu_row (by omega), zu_row (by omega)]
      refine ⟨h.1, fun k c k0 k1 hz hc => ?_⟩
      have c0' := hc.1
      have c1' := hc.2
      have := h.2 k c k0 k1 hz hc
      rw [show 96 + 47 * q + 7 + 8 * k + c = 96 + 47 * q + (7 + 8 * k + c) by omega, zFo_m hp e1 ⟨by omega, by omega⟩, show 96 + 47 * (q + 1) + (7 + 8 * k + c) = 96 + 47 * (q + 1) + 7 + 8 * k + c by omega]
      exact this
    · rw [if_neg e1, if_neg (by omega)]
      have hbd := zMo_bd (hr.mo q0 (show q < 8 by omega))
      exact zRm1_c (hr.2.2.2.2.2.1 q q0 (by omega)) q0 (by omega) ⟨by (repeat (rw [zu_row (by omega)])), by (repeat (rw [zu_row (by omega)]))⟩ (zIV_b6 hI q q0 (by omega)) (fun k k0 k1 => zFo_o hp (by omega) h2b.2)
  · exact zRa_c hr.2.2.2.2.2.2 (by (repeat (rw [zu_row (by omega)]))) (by (repeat (first | rw [zFo_o hp (by omega) h2b.2] | rw [zu_ne (by omega)] | rw [zu_at (by omega) (by omega)] | rw [zup_ne (by omega)] | rw [zup_at (by omega)]))) (fun i h0 h1 => by (repeat (first | rw [zFo_o hp (by omega) h2b.2] | rw [zu_ne (by omega)] | rw [zu_at (by omega) (by omega)] | rw [zup_ne (by omega)] | rw [zup_at (by omega)])))
set_option maxHeartbeats 2000000 in
theorem zR_join {b zt : Int} {V : Int → Int} {M F : zMem} (hr : zRS b V M F) (hI : zIV zt V) {a c d t : Int} {w : Int → Int} (ha : zc8 a) (hc8 : zc8 c) (hw : ∀ x y, zc8 x → zc8 y → w (8 * x + y) = zBF (zup (zup V (8 + 8 * a + c) d) (8 + 8 * c + a) d) x y) (ht : t = zTu (zup (zup V (8 + 8 * a + c) d) (8 + 8 * c + a) d)) : zRS b (zup (zup V (8 + 8 * a + c) d) (8 + 8 * c + a) d) (zu (zrow (zu (zu M (b + 2) (a * 8 + c) d) (b + 2) (c * 8 + a) d) (b + 3) w) (b + 1) 1 t) F := by
  have h0b := hI.1
  have h1b := hI.2.1
  have h2b := hI.2.2.1
  have a0 := ha.1
  have a1 := ha.2
  have b0 := hc8.1
  have b1 := hc8.2
  obtain ⟨c0, c1, c2, c4, c5, c7, c8, c9, c10⟩ := hr.1
  refine ⟨?_, ?_, ?_, ?_, ?_, ?_, ?_⟩
  · exact ⟨by (repeat (first | rw [zrow_ne (by omega)] | rw [zu_ne (by omega)] | rw [zu_at (by omega) (by omega)] | rw [zup_ne (by omega)] | rw [zup_at (by omega)])); assumption, by rw [← ht]; (repeat (first | rw [zrow_ne (by omega)] | rw [zu_ne (by omega)] | rw [zu_at (by omega) (by omega)] | rw [zup_ne (by omega)] | rw [zup_at (by omega)])), by (repeat (first | rw [zrow_ne (by omega)] | rw [zu_ne (by omega)] | rw [zu_at (by omega) (by omega)] | rw [zup_ne (by omega)] | rw [zup_at (by omega)])); assumption, by (repeat (first | rw [zrow_ne (by omega)] | rw [zu_ne (by omega)] | rw [zu_at (by omega) (by omega)] | rw [zup_ne (by omega)] | rw [zup_at (by omega)])); assumption, by (repeat (first | rw [zrow_ne (by omega)] | rw [zu_ne (by omega)] | rw [zu_at (by omega) (by omega)] | rw [zup_ne (by omega)] | rw [zup_at (by omega)])); assumption, by (repeat (first | rw [zrow_ne (by omega)] | rw [zu_ne (by omega)] | rw [zu_at (by omega) (by omega)] | rw [zup_ne (by omega)] | rw [zup_at (by omega)])); assumption, by (repeat (first | rw [zrow_ne (by omega)] | rw [zu_ne (by omega)] | rw [zu_at (by omega) (by omega)] | rw [zup_ne (by omega)] | rw [zup_at (by omega)])); assumption, by (repeat (first | rw [zrow_ne (by omega)] | rw [zu_ne (by omega)] | rw [zu_at (by omega) (by omega)] | rw [zup_ne (by omega)] | rw [zup_at (by omega)])); assumption, by (repeat (first | rw [zrow_ne (by omega)] | rw [zu_ne (by omega)] | rw [zu_at (by omega) (by omega)] | rw [zup_ne (by omega)] | rw [zup_at (by omega)])); assumption⟩
  · intro i i0 i1
    by_cases e1 : i = c * 8 + a
    · rw [zup_at (by omega), zu_ne (by omega), zrow_ne (by omega), zu_at (by omega) (by omega)]
    · rw [zup_ne (by omega), zu_ne (by omega), zrow_ne (by omega), zu_ne (by omega)]
      by_cases e2 : i = a * 8 + c
      · rw [zup_at (by omega), zu_at (by omega) (by omega)]
      · rw [zup_ne (by omega), zu_ne (by omega)]
        exact hr.2.1 i i0 i1
  · intro x y hx hy
    rw [zu_ne (by omega), zrow_same]
    exact hw x y hx hy
  · exact zRh_c hr.2.2.2.1 (fun q h0 h1 => by (repeat (first | rw [zu_row (by omega)] | rw [zrow_ne (by omega)]))) hI.2.1.2 (by (repeat (first | rw [zu_ne (by omega)] | rw [zu_at (by omega) (by omega)] | rw [zup_ne (by omega)] | rw [zup_at (by omega)]))) (fun i h0 h1 => by (repeat (first | rw [zu_ne (by omega)] | rw [zu_at (by omega) (by omega)] | rw [zup_ne (by omega)] | rw [zup_at (by omega)])))
  · exact hr.2.2.2.2.1
  · exact zRm_c hr.2.2.2.2.2.1 hr.2.2.2.2.1 hI.2.2.1.2 (zIV_b6 hI) (fun o ho => by have := zMo_bd ho; constructor <;> (repeat (first | rw [zu_row (by omega)] | rw [zrow_ne (by omega)]))) rfl (by (repeat (first | rw [zu_ne (by omega)] | rw [zu_at (by omega) (by omega)] | rw [zup_ne (by omega)] | rw [zup_at (by omega)]))) (fun i h0 h1 => by (repeat (first | rw [zu_ne (by omega)] | rw [zu_at (by omega) (by omega)] | rw [zup_ne (by omega)] | rw [zup_at (by omega)])))
  · exact zRa_c hr.2.2.2.2.2.2 (by (repeat (first | rw [zu_row (by omega)] | rw [zrow_ne (by omega)]))) (by (repeat (first | rw [zu_ne (by omega)] | rw [zu_at (by omega) (by omega)] | rw [zup_ne (by omega)] | rw [zup_at (by omega)]))) (fun i h0 h1 => by (repeat (first | rw [zu_ne (by omega)] | rw [zu_at (by omega) (by omega)] | rw [zup_ne (by omega)] | rw [zup_at (by omega)])))
