theorem mm_dl20 : mm_kl20.all (fun q => mm_deq (decode cL_law_ q.1) q.2.1 q.2.2.1) = true := by decide +kernel
theorem mm_dl21 : mm_kl21.all (fun q => mm_deq (decode cL_law_ q.1) q.2.1 q.2.2.1) = true := by decide +kernel
theorem mm_dl22 : mm_kl22.all (fun q => mm_deq (decode cL_law_ q.1) q.2.1 q.2.2.1) = true := by decide +kernel
theorem mm_dl23 : mm_kl23.all (fun q => mm_deq (decode cL_law_ q.1) q.2.1 q.2.2.1) = true := by decide +kernel
theorem mm_dl24 : mm_kl24.all (fun q => mm_deq (decode cL_law_ q.1) q.2.1 q.2.2.1) = true := by decide +kernel
