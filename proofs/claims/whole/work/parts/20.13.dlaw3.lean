theorem mm_dl15 : mm_kl15.all (fun q => mm_deq (decode cL_law_ q.1) q.2.1 q.2.2.1) = true := by decide +kernel
theorem mm_dl16 : mm_kl16.all (fun q => mm_deq (decode cL_law_ q.1) q.2.1 q.2.2.1) = true := by decide +kernel
theorem mm_dl17 : mm_kl17.all (fun q => mm_deq (decode cL_law_ q.1) q.2.1 q.2.2.1) = true := by decide +kernel
theorem mm_dl18 : mm_kl18.all (fun q => mm_deq (decode cL_law_ q.1) q.2.1 q.2.2.1) = true := by decide +kernel
theorem mm_dl19 : mm_kl19.all (fun q => mm_deq (decode cL_law_ q.1) q.2.1 q.2.2.1) = true := by decide +kernel
