/-! THE START: what the makers leave -/
def B00 : mm_T := mm_B 0 (fun _ => 0) mm_mc mm_na
def hN0 : mm_H := ([.inr (10, mm_defv 10)], true, 1, (mm_defv 10).length)
def ruA : Option mm_R := mm_ev B00 mkP mm_X 20000 20 127 0 (lv_args 0 [.ref 0]) [] hN0
def isU (o : Option mm_R) : Bool := match o with
  | some (.inl none, _) => true
  | _ => false
def getH (o : Option mm_R) : mm_H := match o with
  | some (_, h) => h
  | none => ([], false, 0, 0)
theorem isU_e {o : Option mm_R} (h : isU o = true) : o = some (.inl none, getH o) := by
  unfold isU at h
  split at h
  · rfl
  · cases h
def hA : mm_H := getH ruA
theorem okA : (isU ruA && (hA.2.1 && decide (hA.1.length = 512))) = true := by decide +kernel
