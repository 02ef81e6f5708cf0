theorem mm_dl10 : mm_kl10.all (fun q => mm_deq (decode cL_law_ q.1) q.2.1 q.2.2.1) = true := by decide +kernel
theorem mm_dl11 : mm_kl11.all (fun q => mm_deq (decode cL_law_ q.1) q.2.1 q.2.2.1) = true := by decide +kernel
theorem mm_dl12 : mm_kl12.all (fun q => mm_deq (decode cL_law_ q.1) q.2.1 q.2.2.1) = true := by decide +kernel
theorem mm_dl13 : mm_kl13.all (fun q => mm_deq (decode cL_law_ q.1) q.2.1 q.2.2.1) = true := by decide +kernel
theorem mm_dl14 : mm_kl14.all (fun q => mm_deq (decode cL_law_ q.1) q.2.1 q.2.2.1) = true := by decide +kernel
