/-! more of the memory -/
theorem zW.mem {g : zG} {A : Nat → Prop} {H0 : Heap} {N : Nat} {ad : Int → Nat} {M M' F : zMem} {H : Heap} {locs : List Loc} (h : zW g A H0 N ad M F H locs) (e : M = M') : zW g A H0 N ad M' F H locs := e ▸ h
theorem zW.fmem {g : zG} {A : Nat → Prop} {H0 : Heap} {N : Nat} {ad : Int → Nat} {M F F' : zMem} {H : Heap} {locs : List Loc} (h : zW g A H0 N ad M F H locs) (e : F = F') : zW g A H0 N ad M F' H locs := e ▸ h
theorem zrow_c {M M' : zMem} (i : Int) (r : Int → Int) (e : M = M') : zrow M i r = zrow M' i r := by rw [e]
theorem zu_c {M M' : zMem} (i t v : Int) (e : M = M') : zu M i t v = zu M' i t v := by rw [e]
