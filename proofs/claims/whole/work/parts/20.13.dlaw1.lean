theorem mm_dl5 : mm_kl5.all (fun q => mm_deq (decode cL_law_ q.1) q.2.1 q.2.2.1) = true := by decide +kernel
theorem mm_dl6 : mm_kl6.all (fun q => mm_deq (decode cL_law_ q.1) q.2.1 q.2.2.1) = true := by decide +kernel
theorem mm_dl7 : mm_kl7.all (fun q => mm_deq (decode cL_law_ q.1) q.2.1 q.2.2.1) = true := by decide +kernel
theorem mm_dl8 : mm_kl8.all (fun q => mm_deq (decode cL_law_ q.1) q.2.1 q.2.2.1) = true := by decide +kernel
theorem mm_dl9 : mm_kl9.all (fun q => mm_deq (decode cL_law_ q.1) q.2.1 q.2.2.1) = true := by decide +kernel
