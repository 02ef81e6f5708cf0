theorem mm_dl0 : mm_kl0.all (fun q => mm_deq (decode cL_law_ q.1) q.2.1 q.2.2.1) = true := by decide +kernel
theorem mm_dl1 : mm_kl1.all (fun q => mm_deq (decode cL_law_ q.1) q.2.1 q.2.2.1) = true := by decide +kernel
theorem mm_dl2 : mm_kl2.all (fun q => mm_deq (decode cL_law_ q.1) q.2.1 q.2.2.1) = true := by decide +kernel
theorem mm_dl3 : mm_kl3.all (fun q => mm_deq (decode cL_law_ q.1) q.2.1 q.2.2.1) = true := by decide +kernel
theorem mm_dl4 : mm_kl4.all (fun q => mm_deq (decode cL_law_ q.1) q.2.1 q.2.2.1) = true := by decide +kernel
