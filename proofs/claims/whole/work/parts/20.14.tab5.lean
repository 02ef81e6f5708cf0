theorem mm_b0 : mm_k0.all (mm_rowb [] 0) = true := by decide +kernel
theorem mm_e0 : mm_cok mm_M0 := mm_mk [] (List.all_eq_true.mp mm_d0) (List.all_eq_true.mp mm_b0) (List.forall_mem_nil _)
theorem mm_b1 : mm_k1.all (mm_rowb [] 0) = true := by decide +kernel
theorem mm_e1 : mm_cok mm_M1 := mm_mk [] (List.all_eq_true.mp mm_d1) (List.all_eq_true.mp mm_b1) (List.forall_mem_nil _)
theorem mm_b2 : mm_k2.all (mm_rowb [] 0) = true := by decide +kernel
theorem mm_e2 : mm_cok mm_M2 := mm_mk [] (List.all_eq_true.mp mm_d2) (List.all_eq_true.mp mm_b2) (List.forall_mem_nil _)
theorem mm_b3 : mm_k3.all (mm_rowb [] 0) = true := by decide +kernel
theorem mm_e3 : mm_cok mm_M3 := mm_mk [] (List.all_eq_true.mp mm_d3) (List.all_eq_true.mp mm_b3) (List.forall_mem_nil _)
theorem mm_b4 : mm_k4.all (mm_rowb [] 0) = true := by decide +kernel
theorem mm_e4 : mm_cok mm_M4 := mm_mk [] (List.all_eq_true.mp mm_d4) (List.all_eq_true.mp mm_b4) (List.forall_mem_nil _)
theorem mm_b5 : mm_k5.all (mm_rowb [] 0) = true := by decide +kernel
theorem mm_e5 : mm_cok mm_M5 := mm_mk [] (List.all_eq_true.mp mm_d5) (List.all_eq_true.mp mm_b5) (List.forall_mem_nil _)
theorem mm_b6 : mm_k6.all (mm_rowb [] 0) = true := by decide +kernel
theorem mm_e6 : mm_cok mm_M6 := mm_mk [] (List.all_eq_true.mp mm_d6) (List.all_eq_true.mp mm_b6) (List.forall_mem_nil _)
theorem mm_b7 : mm_k7.all (mm_rowb [] 0) = true := by decide +kernel
theorem mm_e7 : mm_cok mm_M7 := mm_mk [] (List.all_eq_true.mp mm_d7) (List.all_eq_true.mp mm_b7) (List.forall_mem_nil _)
theorem mm_b8 : mm_k8.all (mm_rowb [] 0) = true := by decide +kernel
theorem mm_e8 : mm_cok mm_M8 := mm_mk [] (List.all_eq_true.mp mm_d8) (List.all_eq_true.mp mm_b8) (List.forall_mem_nil _)
theorem mm_b9 : mm_k9.all (mm_rowb [] 0) = true := by decide +kernel
theorem mm_e9 : mm_cok mm_M9 := mm_mk [] (List.all_eq_true.mp mm_d9) (List.all_eq_true.mp mm_b9) (List.forall_mem_nil _)
theorem mm_b10 : mm_k10.all (mm_rowb [] 0) = true := by decide +kernel
theorem mm_e10 : mm_cok mm_M10 := mm_mk [] (List.all_eq_true.mp mm_d10) (List.all_eq_true.mp mm_b10) (List.forall_mem_nil _)
theorem mm_b11 : mm_k11.all (mm_rowb [] 0) = true := by decide +kernel
theorem mm_e11 : mm_cok mm_M11 := mm_mk [] (List.all_eq_true.mp mm_d11) (List.all_eq_true.mp mm_b11) (List.forall_mem_nil _)
theorem mm_b12 : mm_k12.all (mm_rowb [] 1) = true := by decide +kernel
theorem mm_e12 : mm_cok mm_M12 := mm_mk [] (List.all_eq_true.mp mm_d12) (List.all_eq_true.mp mm_b12) (List.forall_mem_nil _)
theorem mm_b13 : mm_k13.all (mm_rowb [] 1) = true := by decide +kernel
theorem mm_e13 : mm_cok mm_M13 := mm_mk [] (List.all_eq_true.mp mm_d13) (List.all_eq_true.mp mm_b13) (List.forall_mem_nil _)
theorem mm_b14 : mm_k14.all (mm_rowb [] 1) = true := by decide +kernel
theorem mm_e14 : mm_cok mm_M14 := mm_mk [] (List.all_eq_true.mp mm_d14) (List.all_eq_true.mp mm_b14) (List.forall_mem_nil _)
theorem mm_b15 : mm_k15.all (mm_rowb [] 1) = true := by decide +kernel
theorem mm_e15 : mm_cok mm_M15 := mm_mk [] (List.all_eq_true.mp mm_d15) (List.all_eq_true.mp mm_b15) (List.forall_mem_nil _)
theorem mm_b16 : mm_k16.all (mm_rowb [] 1) = true := by decide +kernel
theorem mm_e16 : mm_cok mm_M16 := mm_mk [] (List.all_eq_true.mp mm_d16) (List.all_eq_true.mp mm_b16) (List.forall_mem_nil _)
theorem mm_b17 : mm_k17.all (mm_rowb [] 1) = true := by decide +kernel
theorem mm_e17 : mm_cok mm_M17 := mm_mk [] (List.all_eq_true.mp mm_d17) (List.all_eq_true.mp mm_b17) (List.forall_mem_nil _)
theorem mm_b18 : mm_k18.all (mm_rowb [] 1) = true := by decide +kernel
theorem mm_e18 : mm_cok mm_M18 := mm_mk [] (List.all_eq_true.mp mm_d18) (List.all_eq_true.mp mm_b18) (List.forall_mem_nil _)
theorem mm_b19 : mm_k19.all (mm_rowb [] 1) = true := by decide +kernel
theorem mm_e19 : mm_cok mm_M19 := mm_mk [] (List.all_eq_true.mp mm_d19) (List.all_eq_true.mp mm_b19) (List.forall_mem_nil _)
theorem mm_b20 : mm_k20.all (mm_rowb [] 2) = true := by decide +kernel
theorem mm_e20 : mm_cok mm_M20 := mm_mk [] (List.all_eq_true.mp mm_d20) (List.all_eq_true.mp mm_b20) (List.forall_mem_nil _)
theorem mm_b21 : mm_k21.all (mm_rowb [] 2) = true := by decide +kernel
theorem mm_e21 : mm_cok mm_M21 := mm_mk [] (List.all_eq_true.mp mm_d21) (List.all_eq_true.mp mm_b21) (List.forall_mem_nil _)
theorem mm_b22 : mm_k22.all (mm_rowb [] 2) = true := by decide +kernel
theorem mm_e22 : mm_cok mm_M22 := mm_mk [] (List.all_eq_true.mp mm_d22) (List.all_eq_true.mp mm_b22) (List.forall_mem_nil _)
theorem mm_b23 : mm_k23.all (mm_rowb [] 2) = true := by decide +kernel
theorem mm_e23 : mm_cok mm_M23 := mm_mk [] (List.all_eq_true.mp mm_d23) (List.all_eq_true.mp mm_b23) (List.forall_mem_nil _)
theorem mm_b24 : mm_k24.all (mm_rowb [] 2) = true := by decide +kernel
theorem mm_e24 : mm_cok mm_M24 := mm_mk [] (List.all_eq_true.mp mm_d24) (List.all_eq_true.mp mm_b24) (List.forall_mem_nil _)
theorem mm_b25 : mm_k25.all (mm_rowb [] 2) = true := by decide +kernel
theorem mm_e25 : mm_cok mm_M25 := mm_mk [] (List.all_eq_true.mp mm_d25) (List.all_eq_true.mp mm_b25) (List.forall_mem_nil _)
theorem mm_b26 : mm_k26.all (mm_rowb [] 2) = true := by decide +kernel
theorem mm_e26 : mm_cok mm_M26 := mm_mk [] (List.all_eq_true.mp mm_d26) (List.all_eq_true.mp mm_b26) (List.forall_mem_nil _)
theorem mm_b27 : mm_k27.all (mm_rowb [] 3) = true := by decide +kernel
theorem mm_e27 : mm_cok mm_M27 := mm_mk [] (List.all_eq_true.mp mm_d27) (List.all_eq_true.mp mm_b27) (List.forall_mem_nil _)
theorem mm_b28 : mm_k28.all (mm_rowb [] 3) = true := by decide +kernel
theorem mm_e28 : mm_cok mm_M28 := mm_mk [] (List.all_eq_true.mp mm_d28) (List.all_eq_true.mp mm_b28) (List.forall_mem_nil _)
theorem mm_b29 : mm_k29.all (mm_rowb [] 3) = true := by decide +kernel
theorem mm_e29 : mm_cok mm_M29 := mm_mk [] (List.all_eq_true.mp mm_d29) (List.all_eq_true.mp mm_b29) (List.forall_mem_nil _)
theorem mm_b30 : mm_k30.all (mm_rowb [] 3) = true := by decide +kernel
theorem mm_e30 : mm_cok mm_M30 := mm_mk [] (List.all_eq_true.mp mm_d30) (List.all_eq_true.mp mm_b30) (List.forall_mem_nil _)
theorem mm_b31 : mm_k31.all (mm_rowb [] 3) = true := by decide +kernel
theorem mm_e31 : mm_cok mm_M31 := mm_mk [] (List.all_eq_true.mp mm_d31) (List.all_eq_true.mp mm_b31) (List.forall_mem_nil _)
theorem mm_b32 : mm_k32.all (mm_rowb [] 3) = true := by decide +kernel
theorem mm_e32 : mm_cok mm_M32 := mm_mk [] (List.all_eq_true.mp mm_d32) (List.all_eq_true.mp mm_b32) (List.forall_mem_nil _)
theorem mm_b33 : mm_k33.all (mm_rowb [] 3) = true := by decide +kernel
theorem mm_e33 : mm_cok mm_M33 := mm_mk [] (List.all_eq_true.mp mm_d33) (List.all_eq_true.mp mm_b33) (List.forall_mem_nil _)
theorem mm_b34 : mm_k34.all (mm_rowb [] 3) = true := by decide +kernel
theorem mm_e34 : mm_cok mm_M34 := mm_mk [] (List.all_eq_true.mp mm_d34) (List.all_eq_true.mp mm_b34) (List.forall_mem_nil _)
theorem mm_b35 : mm_k35.all (mm_rowb [] 3) = true := by decide +kernel
theorem mm_e35 : mm_cok mm_M35 := mm_mk [] (List.all_eq_true.mp mm_d35) (List.all_eq_true.mp mm_b35) (List.forall_mem_nil _)
theorem mm_b36 : mm_k36.all (mm_rowb [] 3) = true := by decide +kernel
theorem mm_e36 : mm_cok mm_M36 := mm_mk [] (List.all_eq_true.mp mm_d36) (List.all_eq_true.mp mm_b36) (List.forall_mem_nil _)
theorem mm_b37 : mm_k37.all (mm_rowb [] 3) = true := by decide +kernel
theorem mm_e37 : mm_cok mm_M37 := mm_mk [] (List.all_eq_true.mp mm_d37) (List.all_eq_true.mp mm_b37) (List.forall_mem_nil _)
theorem mm_b38 : mm_k38.all (mm_rowb [] 3) = true := by decide +kernel
theorem mm_e38 : mm_cok mm_M38 := mm_mk [] (List.all_eq_true.mp mm_d38) (List.all_eq_true.mp mm_b38) (List.forall_mem_nil _)
theorem mm_b39 : mm_k39.all (mm_rowb [] 3) = true := by decide +kernel
theorem mm_e39 : mm_cok mm_M39 := mm_mk [] (List.all_eq_true.mp mm_d39) (List.all_eq_true.mp mm_b39) (List.forall_mem_nil _)
theorem mm_b40 : mm_k40.all (mm_rowb [] 3) = true := by decide +kernel
theorem mm_e40 : mm_cok mm_M40 := mm_mk [] (List.all_eq_true.mp mm_d40) (List.all_eq_true.mp mm_b40) (List.forall_mem_nil _)
theorem mm_b41 : mm_k41.all (mm_rowb [] 4) = true := by decide +kernel
theorem mm_e41 : mm_cok mm_M41 := mm_mk [] (List.all_eq_true.mp mm_d41) (List.all_eq_true.mp mm_b41) (List.forall_mem_nil _)
theorem mm_b42 : mm_k42.all (mm_rowb [] 4) = true := by decide +kernel
theorem mm_e42 : mm_cok mm_M42 := mm_mk [] (List.all_eq_true.mp mm_d42) (List.all_eq_true.mp mm_b42) (List.forall_mem_nil _)
theorem mm_b43 : mm_k43.all (mm_rowb [] 4) = true := by decide +kernel
theorem mm_e43 : mm_cok mm_M43 := mm_mk [] (List.all_eq_true.mp mm_d43) (List.all_eq_true.mp mm_b43) (List.forall_mem_nil _)
theorem mm_b44 : mm_k44.all (mm_rowb [] 4) = true := by decide +kernel
theorem mm_e44 : mm_cok mm_M44 := mm_mk [] (List.all_eq_true.mp mm_d44) (List.all_eq_true.mp mm_b44) (List.forall_mem_nil _)
theorem mm_b45 : mm_k45.all (mm_rowb [] 4) = true := by decide +kernel
theorem mm_e45 : mm_cok mm_M45 := mm_mk [] (List.all_eq_true.mp mm_d45) (List.all_eq_true.mp mm_b45) (List.forall_mem_nil _)
theorem mm_b46 : mm_k46.all (mm_rowb [] 4) = true := by decide +kernel
theorem mm_e46 : mm_cok mm_M46 := mm_mk [] (List.all_eq_true.mp mm_d46) (List.all_eq_true.mp mm_b46) (List.forall_mem_nil _)
theorem mm_b47 : mm_k47.all (mm_rowb [] 4) = true := by decide +kernel
theorem mm_e47 : mm_cok mm_M47 := mm_mk [] (List.all_eq_true.mp mm_d47) (List.all_eq_true.mp mm_b47) (List.forall_mem_nil _)
theorem mm_b48 : mm_k48.all (mm_rowb [] 5) = true := by decide +kernel
theorem mm_e48 : mm_cok mm_M48 := mm_mk [] (List.all_eq_true.mp mm_d48) (List.all_eq_true.mp mm_b48) (List.forall_mem_nil _)
theorem mm_b49 : mm_k49.all (mm_rowb [] 5) = true := by decide +kernel
theorem mm_e49 : mm_cok mm_M49 := mm_mk [] (List.all_eq_true.mp mm_d49) (List.all_eq_true.mp mm_b49) (List.forall_mem_nil _)
theorem mm_b50 : mm_k50.all (mm_rowb [] 5) = true := by decide +kernel
theorem mm_e50 : mm_cok mm_M50 := mm_mk [] (List.all_eq_true.mp mm_d50) (List.all_eq_true.mp mm_b50) (List.forall_mem_nil _)
theorem mm_b51 : mm_k51.all (mm_rowb [] 5) = true := by decide +kernel
theorem mm_e51 : mm_cok mm_M51 := mm_mk [] (List.all_eq_true.mp mm_d51) (List.all_eq_true.mp mm_b51) (List.forall_mem_nil _)
theorem mm_b52 : mm_k52.all (mm_rowb [] 5) = true := by decide +kernel
theorem mm_e52 : mm_cok mm_M52 := mm_mk [] (List.all_eq_true.mp mm_d52) (List.all_eq_true.mp mm_b52) (List.forall_mem_nil _)
theorem mm_b53 : mm_k53.all (mm_rowb [] 5) = true := by decide +kernel
theorem mm_e53 : mm_cok mm_M53 := mm_mk [] (List.all_eq_true.mp mm_d53) (List.all_eq_true.mp mm_b53) (List.forall_mem_nil _)
theorem mm_b54 : mm_k54.all (mm_rowb [] 5) = true := by decide +kernel
theorem mm_e54 : mm_cok mm_M54 := mm_mk [] (List.all_eq_true.mp mm_d54) (List.all_eq_true.mp mm_b54) (List.forall_mem_nil _)
theorem mm_b55 : mm_k55.all (mm_rowb [] 5) = true := by decide +kernel
theorem mm_e55 : mm_cok mm_M55 := mm_mk [] (List.all_eq_true.mp mm_d55) (List.all_eq_true.mp mm_b55) (List.forall_mem_nil _)
theorem mm_b56 : mm_k56.all (mm_rowb [] 5) = true := by decide +kernel
theorem mm_e56 : mm_cok mm_M56 := mm_mk [] (List.all_eq_true.mp mm_d56) (List.all_eq_true.mp mm_b56) (List.forall_mem_nil _)
theorem mm_b57 : mm_k57.all (mm_rowb [] 5) = true := by decide +kernel
theorem mm_e57 : mm_cok mm_M57 := mm_mk [] (List.all_eq_true.mp mm_d57) (List.all_eq_true.mp mm_b57) (List.forall_mem_nil _)
theorem mm_b58 : mm_k58.all (mm_rowb [] 5) = true := by decide +kernel
theorem mm_e58 : mm_cok mm_M58 := mm_mk [] (List.all_eq_true.mp mm_d58) (List.all_eq_true.mp mm_b58) (List.forall_mem_nil _)
theorem mm_b59 : mm_k59.all (mm_rowb [] 5) = true := by decide +kernel
theorem mm_e59 : mm_cok mm_M59 := mm_mk [] (List.all_eq_true.mp mm_d59) (List.all_eq_true.mp mm_b59) (List.forall_mem_nil _)
theorem mm_b60 : mm_k60.all (mm_rowb [] 5) = true := by decide +kernel
theorem mm_e60 : mm_cok mm_M60 := mm_mk [] (List.all_eq_true.mp mm_d60) (List.all_eq_true.mp mm_b60) (List.forall_mem_nil _)
theorem mm_b61 : mm_k61.all (mm_rowb [] 5) = true := by decide +kernel
theorem mm_e61 : mm_cok mm_M61 := mm_mk [] (List.all_eq_true.mp mm_d61) (List.all_eq_true.mp mm_b61) (List.forall_mem_nil _)
theorem mm_b62 : mm_k62.all (mm_rowb [] 6) = true := by decide +kernel
theorem mm_e62 : mm_cok mm_M62 := mm_mk [] (List.all_eq_true.mp mm_d62) (List.all_eq_true.mp mm_b62) (List.forall_mem_nil _)
theorem mm_b63 : mm_k63.all (mm_rowb [] 6) = true := by decide +kernel
theorem mm_e63 : mm_cok mm_M63 := mm_mk [] (List.all_eq_true.mp mm_d63) (List.all_eq_true.mp mm_b63) (List.forall_mem_nil _)
theorem mm_b64 : mm_k64.all (mm_rowb [] 6) = true := by decide +kernel
theorem mm_e64 : mm_cok mm_M64 := mm_mk [] (List.all_eq_true.mp mm_d64) (List.all_eq_true.mp mm_b64) (List.forall_mem_nil _)
theorem mm_b65 : mm_k65.all (mm_rowb [] 6) = true := by decide +kernel
theorem mm_e65 : mm_cok mm_M65 := mm_mk [] (List.all_eq_true.mp mm_d65) (List.all_eq_true.mp mm_b65) (List.forall_mem_nil _)
theorem mm_b66 : mm_k66.all (mm_rowb [] 6) = true := by decide +kernel
theorem mm_e66 : mm_cok mm_M66 := mm_mk [] (List.all_eq_true.mp mm_d66) (List.all_eq_true.mp mm_b66) (List.forall_mem_nil _)
theorem mm_b67 : mm_k67.all (mm_rowb [] 6) = true := by decide +kernel
theorem mm_e67 : mm_cok mm_M67 := mm_mk [] (List.all_eq_true.mp mm_d67) (List.all_eq_true.mp mm_b67) (List.forall_mem_nil _)
theorem mm_b68 : mm_k68.all (mm_rowb [] 6) = true := by decide +kernel
theorem mm_e68 : mm_cok mm_M68 := mm_mk [] (List.all_eq_true.mp mm_d68) (List.all_eq_true.mp mm_b68) (List.forall_mem_nil _)
theorem mm_b69 : mm_k69.all (mm_rowb [] 6) = true := by decide +kernel
theorem mm_e69 : mm_cok mm_M69 := mm_mk [] (List.all_eq_true.mp mm_d69) (List.all_eq_true.mp mm_b69) (List.forall_mem_nil _)
theorem mm_b70 : mm_k70.all (mm_rowb [] 6) = true := by decide +kernel
theorem mm_e70 : mm_cok mm_M70 := mm_mk [] (List.all_eq_true.mp mm_d70) (List.all_eq_true.mp mm_b70) (List.forall_mem_nil _)
theorem mm_b71 : mm_k71.all (mm_rowb [] 6) = true := by decide +kernel
theorem mm_e71 : mm_cok mm_M71 := mm_mk [] (List.all_eq_true.mp mm_d71) (List.all_eq_true.mp mm_b71) (List.forall_mem_nil _)
theorem mm_b72 : mm_k72.all (mm_rowb [] 6) = true := by decide +kernel
theorem mm_e72 : mm_cok mm_M72 := mm_mk [] (List.all_eq_true.mp mm_d72) (List.all_eq_true.mp mm_b72) (List.forall_mem_nil _)
theorem mm_b73 : mm_k73.all (mm_rowb [] 6) = true := by decide +kernel
theorem mm_e73 : mm_cok mm_M73 := mm_mk [] (List.all_eq_true.mp mm_d73) (List.all_eq_true.mp mm_b73) (List.forall_mem_nil _)
theorem mm_b74 : mm_k74.all (mm_rowb [] 6) = true := by decide +kernel
theorem mm_e74 : mm_cok mm_M74 := mm_mk [] (List.all_eq_true.mp mm_d74) (List.all_eq_true.mp mm_b74) (List.forall_mem_nil _)
theorem mm_b75 : mm_k75.all (mm_rowb [] 6) = true := by decide +kernel
theorem mm_e75 : mm_cok mm_M75 := mm_mk [] (List.all_eq_true.mp mm_d75) (List.all_eq_true.mp mm_b75) (List.forall_mem_nil _)
theorem mm_b76 : mm_k76.all (mm_rowb [] 6) = true := by decide +kernel
theorem mm_e76 : mm_cok mm_M76 := mm_mk [] (List.all_eq_true.mp mm_d76) (List.all_eq_true.mp mm_b76) (List.forall_mem_nil _)
theorem mm_b77 : mm_k77.all (mm_rowb [] 6) = true := by decide +kernel
theorem mm_e77 : mm_cok mm_M77 := mm_mk [] (List.all_eq_true.mp mm_d77) (List.all_eq_true.mp mm_b77) (List.forall_mem_nil _)
theorem mm_b78 : mm_k78.all (mm_rowb [] 6) = true := by decide +kernel
theorem mm_e78 : mm_cok mm_M78 := mm_mk [] (List.all_eq_true.mp mm_d78) (List.all_eq_true.mp mm_b78) (List.forall_mem_nil _)
theorem mm_b79 : mm_k79.all (mm_rowb [] 6) = true := by decide +kernel
theorem mm_e79 : mm_cok mm_M79 := mm_mk [] (List.all_eq_true.mp mm_d79) (List.all_eq_true.mp mm_b79) (List.forall_mem_nil _)
theorem mm_b80 : mm_k80.all (mm_rowb [] 6) = true := by decide +kernel
theorem mm_e80 : mm_cok mm_M80 := mm_mk [] (List.all_eq_true.mp mm_d80) (List.all_eq_true.mp mm_b80) (List.forall_mem_nil _)
theorem mm_b81 : mm_k81.all (mm_rowb [] 6) = true := by decide +kernel
theorem mm_e81 : mm_cok mm_M81 := mm_mk [] (List.all_eq_true.mp mm_d81) (List.all_eq_true.mp mm_b81) (List.forall_mem_nil _)
theorem mm_b82 : mm_k82.all (mm_rowb [] 6) = true := by decide +kernel
theorem mm_e82 : mm_cok mm_M82 := mm_mk [] (List.all_eq_true.mp mm_d82) (List.all_eq_true.mp mm_b82) (List.forall_mem_nil _)
theorem mm_b83 : mm_k83.all (mm_rowb [] 6) = true := by decide +kernel
theorem mm_e83 : mm_cok mm_M83 := mm_mk [] (List.all_eq_true.mp mm_d83) (List.all_eq_true.mp mm_b83) (List.forall_mem_nil _)
theorem mm_b84 : mm_k84.all (mm_rowb [] 6) = true := by decide +kernel
theorem mm_e84 : mm_cok mm_M84 := mm_mk [] (List.all_eq_true.mp mm_d84) (List.all_eq_true.mp mm_b84) (List.forall_mem_nil _)
theorem mm_b85 : mm_k85.all (mm_rowb [] 6) = true := by decide +kernel
theorem mm_e85 : mm_cok mm_M85 := mm_mk [] (List.all_eq_true.mp mm_d85) (List.all_eq_true.mp mm_b85) (List.forall_mem_nil _)
theorem mm_b86 : mm_k86.all (mm_rowb [] 6) = true := by decide +kernel
theorem mm_e86 : mm_cok mm_M86 := mm_mk [] (List.all_eq_true.mp mm_d86) (List.all_eq_true.mp mm_b86) (List.forall_mem_nil _)
theorem mm_b87 : mm_k87.all (mm_rowb [] 6) = true := by decide +kernel
theorem mm_e87 : mm_cok mm_M87 := mm_mk [] (List.all_eq_true.mp mm_d87) (List.all_eq_true.mp mm_b87) (List.forall_mem_nil _)
theorem mm_b88 : mm_k88.all (mm_rowb [] 6) = true := by decide +kernel
theorem mm_e88 : mm_cok mm_M88 := mm_mk [] (List.all_eq_true.mp mm_d88) (List.all_eq_true.mp mm_b88) (List.forall_mem_nil _)
theorem mm_b89 : mm_k89.all (mm_rowb [] 6) = true := by decide +kernel
theorem mm_e89 : mm_cok mm_M89 := mm_mk [] (List.all_eq_true.mp mm_d89) (List.all_eq_true.mp mm_b89) (List.forall_mem_nil _)
theorem mm_b90 : mm_k90.all (mm_rowb [] 6) = true := by decide +kernel
theorem mm_e90 : mm_cok mm_M90 := mm_mk [] (List.all_eq_true.mp mm_d90) (List.all_eq_true.mp mm_b90) (List.forall_mem_nil _)
theorem mm_b91 : mm_k91.all (mm_rowb [] 7) = true := by decide +kernel
theorem mm_e91 : mm_cok mm_M91 := mm_mk [] (List.all_eq_true.mp mm_d91) (List.all_eq_true.mp mm_b91) (List.forall_mem_nil _)
theorem mm_b92 : mm_k92.all (mm_rowb [] 7) = true := by decide +kernel
theorem mm_e92 : mm_cok mm_M92 := mm_mk [] (List.all_eq_true.mp mm_d92) (List.all_eq_true.mp mm_b92) (List.forall_mem_nil _)
theorem mm_b93 : mm_k93.all (mm_rowb [] 7) = true := by decide +kernel
theorem mm_e93 : mm_cok mm_M93 := mm_mk [] (List.all_eq_true.mp mm_d93) (List.all_eq_true.mp mm_b93) (List.forall_mem_nil _)
theorem mm_b94 : mm_k94.all (mm_rowb [] 7) = true := by decide +kernel
theorem mm_e94 : mm_cok mm_M94 := mm_mk [] (List.all_eq_true.mp mm_d94) (List.all_eq_true.mp mm_b94) (List.forall_mem_nil _)
theorem mm_b95 : mm_k95.all (mm_rowb [] 7) = true := by decide +kernel
theorem mm_e95 : mm_cok mm_M95 := mm_mk [] (List.all_eq_true.mp mm_d95) (List.all_eq_true.mp mm_b95) (List.forall_mem_nil _)
theorem mm_b96 : mm_k96.all (mm_rowb [] 7) = true := by decide +kernel
theorem mm_e96 : mm_cok mm_M96 := mm_mk [] (List.all_eq_true.mp mm_d96) (List.all_eq_true.mp mm_b96) (List.forall_mem_nil _)
theorem mm_b97 : mm_k97.all (mm_rowb [] 8) = true := by decide +kernel
theorem mm_e97 : mm_cok mm_M97 := mm_mk [] (List.all_eq_true.mp mm_d97) (List.all_eq_true.mp mm_b97) (List.forall_mem_nil _)
theorem mm_b98 : mm_k98.all (mm_rowb [] 8) = true := by decide +kernel
theorem mm_e98 : mm_cok mm_M98 := mm_mk [] (List.all_eq_true.mp mm_d98) (List.all_eq_true.mp mm_b98) (List.forall_mem_nil _)
theorem mm_b99 : mm_k99.all (mm_rowb [] 8) = true := by decide +kernel
theorem mm_e99 : mm_cok mm_M99 := mm_mk [] (List.all_eq_true.mp mm_d99) (List.all_eq_true.mp mm_b99) (List.forall_mem_nil _)
theorem mm_b100 : mm_k100.all (mm_rowb [] 8) = true := by decide +kernel
theorem mm_e100 : mm_cok mm_M100 := mm_mk [] (List.all_eq_true.mp mm_d100) (List.all_eq_true.mp mm_b100) (List.forall_mem_nil _)
theorem mm_b101 : mm_k101.all (mm_rowb [] 8) = true := by decide +kernel
theorem mm_e101 : mm_cok mm_M101 := mm_mk [] (List.all_eq_true.mp mm_d101) (List.all_eq_true.mp mm_b101) (List.forall_mem_nil _)
theorem mm_b102 : mm_k102.all (mm_rowb [] 8) = true := by decide +kernel
theorem mm_e102 : mm_cok mm_M102 := mm_mk [] (List.all_eq_true.mp mm_d102) (List.all_eq_true.mp mm_b102) (List.forall_mem_nil _)
theorem mm_b103 : mm_k103.all (mm_rowb [] 8) = true := by decide +kernel
theorem mm_e103 : mm_cok mm_M103 := mm_mk [] (List.all_eq_true.mp mm_d103) (List.all_eq_true.mp mm_b103) (List.forall_mem_nil _)
theorem mm_b104 : mm_k104.all (mm_rowb [] 8) = true := by decide +kernel
theorem mm_e104 : mm_cok mm_M104 := mm_mk [] (List.all_eq_true.mp mm_d104) (List.all_eq_true.mp mm_b104) (List.forall_mem_nil _)
theorem mm_b105 : mm_k105.all (mm_rowb [] 8) = true := by decide +kernel
theorem mm_e105 : mm_cok mm_M105 := mm_mk [] (List.all_eq_true.mp mm_d105) (List.all_eq_true.mp mm_b105) (List.forall_mem_nil _)
theorem mm_b106 : mm_k106.all (mm_rowb [] 8) = true := by decide +kernel
theorem mm_e106 : mm_cok mm_M106 := mm_mk [] (List.all_eq_true.mp mm_d106) (List.all_eq_true.mp mm_b106) (List.forall_mem_nil _)
theorem mm_b107 : mm_k107.all (mm_rowb [] 8) = true := by decide +kernel
theorem mm_e107 : mm_cok mm_M107 := mm_mk [] (List.all_eq_true.mp mm_d107) (List.all_eq_true.mp mm_b107) (List.forall_mem_nil _)
theorem mm_b108 : mm_k108.all (mm_rowb [] 8) = true := by decide +kernel
theorem mm_e108 : mm_cok mm_M108 := mm_mk [] (List.all_eq_true.mp mm_d108) (List.all_eq_true.mp mm_b108) (List.forall_mem_nil _)
theorem mm_b109 : mm_k109.all (mm_rowb [] 8) = true := by decide +kernel
theorem mm_e109 : mm_cok mm_M109 := mm_mk [] (List.all_eq_true.mp mm_d109) (List.all_eq_true.mp mm_b109) (List.forall_mem_nil _)
theorem mm_b110 : mm_k110.all (mm_rowb [] 9) = true := by decide +kernel
theorem mm_e110 : mm_cok mm_M110 := mm_mk [] (List.all_eq_true.mp mm_d110) (List.all_eq_true.mp mm_b110) (List.forall_mem_nil _)
theorem mm_b111 : mm_k111.all (mm_rowb [] 9) = true := by decide +kernel
theorem mm_e111 : mm_cok mm_M111 := mm_mk [] (List.all_eq_true.mp mm_d111) (List.all_eq_true.mp mm_b111) (List.forall_mem_nil _)
theorem mm_b112 : mm_k112.all (mm_rowb [] 9) = true := by decide +kernel
theorem mm_e112 : mm_cok mm_M112 := mm_mk [] (List.all_eq_true.mp mm_d112) (List.all_eq_true.mp mm_b112) (List.forall_mem_nil _)
theorem mm_b113 : mm_k113.all (mm_rowb [] 9) = true := by decide +kernel
theorem mm_e113 : mm_cok mm_M113 := mm_mk [] (List.all_eq_true.mp mm_d113) (List.all_eq_true.mp mm_b113) (List.forall_mem_nil _)
theorem mm_b114 : mm_k114.all (mm_rowb [] 9) = true := by decide +kernel
theorem mm_e114 : mm_cok mm_M114 := mm_mk [] (List.all_eq_true.mp mm_d114) (List.all_eq_true.mp mm_b114) (List.forall_mem_nil _)
theorem mm_b115 : mm_k115.all (mm_rowb [] 9) = true := by decide +kernel
theorem mm_e115 : mm_cok mm_M115 := mm_mk [] (List.all_eq_true.mp mm_d115) (List.all_eq_true.mp mm_b115) (List.forall_mem_nil _)
theorem mm_b116 : mm_k116.all (mm_rowb [] 9) = true := by decide +kernel
theorem mm_e116 : mm_cok mm_M116 := mm_mk [] (List.all_eq_true.mp mm_d116) (List.all_eq_true.mp mm_b116) (List.forall_mem_nil _)
theorem mm_b117 : mm_k117.all (mm_rowb [] 9) = true := by decide +kernel
theorem mm_e117 : mm_cok mm_M117 := mm_mk [] (List.all_eq_true.mp mm_d117) (List.all_eq_true.mp mm_b117) (List.forall_mem_nil _)
theorem mm_b118 : mm_k118.all (mm_rowb [] 9) = true := by decide +kernel
theorem mm_e118 : mm_cok mm_M118 := mm_mk [] (List.all_eq_true.mp mm_d118) (List.all_eq_true.mp mm_b118) (List.forall_mem_nil _)
theorem mm_b119 : mm_k119.all (mm_rowb [] 9) = true := by decide +kernel
theorem mm_e119 : mm_cok mm_M119 := mm_mk [] (List.all_eq_true.mp mm_d119) (List.all_eq_true.mp mm_b119) (List.forall_mem_nil _)
theorem mm_b120 : mm_k120.all (mm_rowb [] 9) = true := by decide +kernel
theorem mm_e120 : mm_cok mm_M120 := mm_mk [] (List.all_eq_true.mp mm_d120) (List.all_eq_true.mp mm_b120) (List.forall_mem_nil _)
theorem mm_b121 : mm_k121.all (mm_rowb [] 9) = true := by decide +kernel
theorem mm_e121 : mm_cok mm_M121 := mm_mk [] (List.all_eq_true.mp mm_d121) (List.all_eq_true.mp mm_b121) (List.forall_mem_nil _)
theorem mm_b122 : mm_k122.all (mm_rowb [] 9) = true := by decide +kernel
theorem mm_e122 : mm_cok mm_M122 := mm_mk [] (List.all_eq_true.mp mm_d122) (List.all_eq_true.mp mm_b122) (List.forall_mem_nil _)
theorem mm_b123 : mm_k123.all (mm_rowb [] 9) = true := by decide +kernel
theorem mm_e123 : mm_cok mm_M123 := mm_mk [] (List.all_eq_true.mp mm_d123) (List.all_eq_true.mp mm_b123) (List.forall_mem_nil _)
theorem mm_b124 : mm_k124.all (mm_rowb [] 9) = true := by decide +kernel
theorem mm_e124 : mm_cok mm_M124 := mm_mk [] (List.all_eq_true.mp mm_d124) (List.all_eq_true.mp mm_b124) (List.forall_mem_nil _)
theorem mm_b125 : mm_k125.all (mm_rowb [] 9) = true := by decide +kernel
theorem mm_e125 : mm_cok mm_M125 := mm_mk [] (List.all_eq_true.mp mm_d125) (List.all_eq_true.mp mm_b125) (List.forall_mem_nil _)
theorem mm_b126 : mm_k126.all (mm_rowb [] 9) = true := by decide +kernel
theorem mm_e126 : mm_cok mm_M126 := mm_mk [] (List.all_eq_true.mp mm_d126) (List.all_eq_true.mp mm_b126) (List.forall_mem_nil _)
theorem mm_b127 : mm_k127.all (mm_rowb [] 10) = true := by decide +kernel
theorem mm_e127 : mm_cok mm_M127 := mm_mk [] (List.all_eq_true.mp mm_d127) (List.all_eq_true.mp mm_b127) (List.forall_mem_nil _)
theorem mm_b128 : mm_k128.all (mm_rowb [] 10) = true := by decide +kernel
theorem mm_e128 : mm_cok mm_M128 := mm_mk [] (List.all_eq_true.mp mm_d128) (List.all_eq_true.mp mm_b128) (List.forall_mem_nil _)
theorem mm_b129 : mm_k129.all (mm_rowb [] 10) = true := by decide +kernel
theorem mm_e129 : mm_cok mm_M129 := mm_mk [] (List.all_eq_true.mp mm_d129) (List.all_eq_true.mp mm_b129) (List.forall_mem_nil _)
theorem mm_b130 : mm_k130.all (mm_rowb [(0, 32), (1, 54)] 10) = true := by decide +kernel
theorem mm_e130 : mm_cok mm_M130 := mm_mk [(0, 32), (1, 54)] (List.all_eq_true.mp mm_d130) (List.all_eq_true.mp mm_b130) (List.forall_mem_cons.mpr ⟨mm_t0, List.forall_mem_cons.mpr ⟨mm_t1, List.forall_mem_nil _⟩⟩)
theorem mm_b131 : mm_k131.all (mm_rowb [(2, 17)] 10) = true := by decide +kernel
theorem mm_e131 : mm_cok mm_M131 := mm_mk [(2, 17)] (List.all_eq_true.mp mm_d131) (List.all_eq_true.mp mm_b131) (List.forall_mem_cons.mpr ⟨mm_t2, List.forall_mem_nil _⟩)
theorem mm_b132 : mm_k132.all (mm_rowb [] 10) = true := by decide +kernel
theorem mm_e132 : mm_cok mm_M132 := mm_mk [] (List.all_eq_true.mp mm_d132) (List.all_eq_true.mp mm_b132) (List.forall_mem_nil _)
theorem mm_b133 : mm_k133.all (mm_rowb [] 10) = true := by decide +kernel
theorem mm_e133 : mm_cok mm_M133 := mm_mk [] (List.all_eq_true.mp mm_d133) (List.all_eq_true.mp mm_b133) (List.forall_mem_nil _)
theorem mm_b134 : mm_k134.all (mm_rowb [] 10) = true := by decide +kernel
theorem mm_e134 : mm_cok mm_M134 := mm_mk [] (List.all_eq_true.mp mm_d134) (List.all_eq_true.mp mm_b134) (List.forall_mem_nil _)
theorem mm_b135 : mm_k135.all (mm_rowb [] 10) = true := by decide +kernel
theorem mm_e135 : mm_cok mm_M135 := mm_mk [] (List.all_eq_true.mp mm_d135) (List.all_eq_true.mp mm_b135) (List.forall_mem_nil _)
theorem mm_b136 : mm_k136.all (mm_rowb [] 10) = true := by decide +kernel
theorem mm_e136 : mm_cok mm_M136 := mm_mk [] (List.all_eq_true.mp mm_d136) (List.all_eq_true.mp mm_b136) (List.forall_mem_nil _)
theorem mm_b137 : mm_k137.all (mm_rowb [] 10) = true := by decide +kernel
theorem mm_e137 : mm_cok mm_M137 := mm_mk [] (List.all_eq_true.mp mm_d137) (List.all_eq_true.mp mm_b137) (List.forall_mem_nil _)
theorem mm_b138 : mm_k138.all (mm_rowb [(3, 11)] 10) = true := by decide +kernel
theorem mm_e138 : mm_cok mm_M138 := mm_mk [(3, 11)] (List.all_eq_true.mp mm_d138) (List.all_eq_true.mp mm_b138) (List.forall_mem_cons.mpr ⟨mm_t3, List.forall_mem_nil _⟩)
theorem mm_b139 : mm_k139.all (mm_rowb [(4, 34)] 10) = true := by decide +kernel
theorem mm_e139 : mm_cok mm_M139 := mm_mk [(4, 34)] (List.all_eq_true.mp mm_d139) (List.all_eq_true.mp mm_b139) (List.forall_mem_cons.mpr ⟨mm_t4, List.forall_mem_nil _⟩)
theorem mm_b140 : mm_k140.all (mm_rowb [] 10) = true := by decide +kernel
theorem mm_e140 : mm_cok mm_M140 := mm_mk [] (List.all_eq_true.mp mm_d140) (List.all_eq_true.mp mm_b140) (List.forall_mem_nil _)
theorem mm_b141 : mm_k141.all (mm_rowb [(5, 42)] 10) = true := by decide +kernel
theorem mm_e141 : mm_cok mm_M141 := mm_mk [(5, 42)] (List.all_eq_true.mp mm_d141) (List.all_eq_true.mp mm_b141) (List.forall_mem_cons.mpr ⟨mm_t5, List.forall_mem_nil _⟩)
theorem mm_b142 : mm_k142.all (mm_rowb [] 10) = true := by decide +kernel
theorem mm_e142 : mm_cok mm_M142 := mm_mk [] (List.all_eq_true.mp mm_d142) (List.all_eq_true.mp mm_b142) (List.forall_mem_nil _)
theorem mm_b143 : mm_k143.all (mm_rowb [] 10) = true := by decide +kernel
theorem mm_e143 : mm_cok mm_M143 := mm_mk [] (List.all_eq_true.mp mm_d143) (List.all_eq_true.mp mm_b143) (List.forall_mem_nil _)
theorem mm_b144 : mm_k144.all (mm_rowb [(6, 10)] 10) = true := by decide +kernel
theorem mm_e144 : mm_cok mm_M144 := mm_mk [(6, 10)] (List.all_eq_true.mp mm_d144) (List.all_eq_true.mp mm_b144) (List.forall_mem_cons.mpr ⟨mm_t6, List.forall_mem_nil _⟩)
theorem mm_b145 : mm_k145.all (mm_rowb [] 10) = true := by decide +kernel
theorem mm_e145 : mm_cok mm_M145 := mm_mk [] (List.all_eq_true.mp mm_d145) (List.all_eq_true.mp mm_b145) (List.forall_mem_nil _)
theorem mm_b146 : mm_k146.all (mm_rowb [(7, 22)] 10) = true := by decide +kernel
theorem mm_e146 : mm_cok mm_M146 := mm_mk [(7, 22)] (List.all_eq_true.mp mm_d146) (List.all_eq_true.mp mm_b146) (List.forall_mem_cons.mpr ⟨mm_t7, List.forall_mem_nil _⟩)
theorem mm_b147 : mm_k147.all (mm_rowb [] 10) = true := by decide +kernel
theorem mm_e147 : mm_cok mm_M147 := mm_mk [] (List.all_eq_true.mp mm_d147) (List.all_eq_true.mp mm_b147) (List.forall_mem_nil _)
theorem mm_b148 : mm_k148.all (mm_rowb [] 10) = true := by decide +kernel
theorem mm_e148 : mm_cok mm_M148 := mm_mk [] (List.all_eq_true.mp mm_d148) (List.all_eq_true.mp mm_b148) (List.forall_mem_nil _)
theorem mm_b149 : mm_k149.all (mm_rowb [] 10) = true := by decide +kernel
theorem mm_e149 : mm_cok mm_M149 := mm_mk [] (List.all_eq_true.mp mm_d149) (List.all_eq_true.mp mm_b149) (List.forall_mem_nil _)
theorem mm_b150 : mm_k150.all (mm_rowb [] 10) = true := by decide +kernel
theorem mm_e150 : mm_cok mm_M150 := mm_mk [] (List.all_eq_true.mp mm_d150) (List.all_eq_true.mp mm_b150) (List.forall_mem_nil _)
theorem mm_b151 : mm_k151.all (mm_rowb [] 10) = true := by decide +kernel
theorem mm_e151 : mm_cok mm_M151 := mm_mk [] (List.all_eq_true.mp mm_d151) (List.all_eq_true.mp mm_b151) (List.forall_mem_nil _)
theorem mm_b152 : mm_k152.all (mm_rowb [] 10) = true := by decide +kernel
theorem mm_e152 : mm_cok mm_M152 := mm_mk [] (List.all_eq_true.mp mm_d152) (List.all_eq_true.mp mm_b152) (List.forall_mem_nil _)
theorem mm_b153 : mm_k153.all (mm_rowb [] 10) = true := by decide +kernel
theorem mm_e153 : mm_cok mm_M153 := mm_mk [] (List.all_eq_true.mp mm_d153) (List.all_eq_true.mp mm_b153) (List.forall_mem_nil _)
theorem mm_b154 : mm_k154.all (mm_rowb [] 10) = true := by decide +kernel
theorem mm_e154 : mm_cok mm_M154 := mm_mk [] (List.all_eq_true.mp mm_d154) (List.all_eq_true.mp mm_b154) (List.forall_mem_nil _)
theorem mm_b155 : mm_k155.all (mm_rowb [] 10) = true := by decide +kernel
theorem mm_e155 : mm_cok mm_M155 := mm_mk [] (List.all_eq_true.mp mm_d155) (List.all_eq_true.mp mm_b155) (List.forall_mem_nil _)
theorem mm_b156 : mm_k156.all (mm_rowb [] 10) = true := by decide +kernel
theorem mm_e156 : mm_cok mm_M156 := mm_mk [] (List.all_eq_true.mp mm_d156) (List.all_eq_true.mp mm_b156) (List.forall_mem_nil _)
theorem mm_b157 : mm_k157.all (mm_rowb [] 10) = true := by decide +kernel
theorem mm_e157 : mm_cok mm_M157 := mm_mk [] (List.all_eq_true.mp mm_d157) (List.all_eq_true.mp mm_b157) (List.forall_mem_nil _)
theorem mm_b158 : mm_k158.all (mm_rowb [] 10) = true := by decide +kernel
theorem mm_e158 : mm_cok mm_M158 := mm_mk [] (List.all_eq_true.mp mm_d158) (List.all_eq_true.mp mm_b158) (List.forall_mem_nil _)
theorem mm_b159 : mm_k159.all (mm_rowb [] 10) = true := by decide +kernel
theorem mm_e159 : mm_cok mm_M159 := mm_mk [] (List.all_eq_true.mp mm_d159) (List.all_eq_true.mp mm_b159) (List.forall_mem_nil _)
theorem mm_b160 : mm_k160.all (mm_rowb [(8, 18)] 10) = true := by decide +kernel
theorem mm_e160 : mm_cok mm_M160 := mm_mk [(8, 18)] (List.all_eq_true.mp mm_d160) (List.all_eq_true.mp mm_b160) (List.forall_mem_cons.mpr ⟨mm_t8, List.forall_mem_nil _⟩)
theorem mm_b161 : mm_k161.all (mm_rowb [] 10) = true := by decide +kernel
theorem mm_e161 : mm_cok mm_M161 := mm_mk [] (List.all_eq_true.mp mm_d161) (List.all_eq_true.mp mm_b161) (List.forall_mem_nil _)
theorem mm_b162 : mm_k162.all (mm_rowb [] 10) = true := by decide +kernel
theorem mm_e162 : mm_cok mm_M162 := mm_mk [] (List.all_eq_true.mp mm_d162) (List.all_eq_true.mp mm_b162) (List.forall_mem_nil _)
theorem mm_b163 : mm_k163.all (mm_rowb [] 10) = true := by decide +kernel
theorem mm_e163 : mm_cok mm_M163 := mm_mk [] (List.all_eq_true.mp mm_d163) (List.all_eq_true.mp mm_b163) (List.forall_mem_nil _)
theorem mm_b164 : mm_k164.all (mm_rowb [] 10) = true := by decide +kernel
theorem mm_e164 : mm_cok mm_M164 := mm_mk [] (List.all_eq_true.mp mm_d164) (List.all_eq_true.mp mm_b164) (List.forall_mem_nil _)
theorem mm_b165 : mm_k165.all (mm_rowb [] 10) = true := by decide +kernel
theorem mm_e165 : mm_cok mm_M165 := mm_mk [] (List.all_eq_true.mp mm_d165) (List.all_eq_true.mp mm_b165) (List.forall_mem_nil _)
theorem mm_b166 : mm_k166.all (mm_rowb [] 10) = true := by decide +kernel
theorem mm_e166 : mm_cok mm_M166 := mm_mk [] (List.all_eq_true.mp mm_d166) (List.all_eq_true.mp mm_b166) (List.forall_mem_nil _)
theorem mm_b167 : mm_k167.all (mm_rowb [] 10) = true := by decide +kernel
theorem mm_e167 : mm_cok mm_M167 := mm_mk [] (List.all_eq_true.mp mm_d167) (List.all_eq_true.mp mm_b167) (List.forall_mem_nil _)
theorem mm_b168 : mm_k168.all (mm_rowb [] 10) = true := by decide +kernel
theorem mm_e168 : mm_cok mm_M168 := mm_mk [] (List.all_eq_true.mp mm_d168) (List.all_eq_true.mp mm_b168) (List.forall_mem_nil _)
theorem mm_b169 : mm_k169.all (mm_rowb [] 10) = true := by decide +kernel
theorem mm_e169 : mm_cok mm_M169 := mm_mk [] (List.all_eq_true.mp mm_d169) (List.all_eq_true.mp mm_b169) (List.forall_mem_nil _)
theorem mm_b170 : mm_k170.all (mm_rowb [] 10) = true := by decide +kernel
theorem mm_e170 : mm_cok mm_M170 := mm_mk [] (List.all_eq_true.mp mm_d170) (List.all_eq_true.mp mm_b170) (List.forall_mem_nil _)
theorem mm_b171 : mm_k171.all (mm_rowb [] 10) = true := by decide +kernel
theorem mm_e171 : mm_cok mm_M171 := mm_mk [] (List.all_eq_true.mp mm_d171) (List.all_eq_true.mp mm_b171) (List.forall_mem_nil _)
theorem mm_b172 : mm_k172.all (mm_rowb [] 10) = true := by decide +kernel
theorem mm_e172 : mm_cok mm_M172 := mm_mk [] (List.all_eq_true.mp mm_d172) (List.all_eq_true.mp mm_b172) (List.forall_mem_nil _)
theorem mm_b173 : mm_k173.all (mm_rowb [] 10) = true := by decide +kernel
theorem mm_e173 : mm_cok mm_M173 := mm_mk [] (List.all_eq_true.mp mm_d173) (List.all_eq_true.mp mm_b173) (List.forall_mem_nil _)
theorem mm_b174 : mm_k174.all (mm_rowb [] 10) = true := by decide +kernel
theorem mm_e174 : mm_cok mm_M174 := mm_mk [] (List.all_eq_true.mp mm_d174) (List.all_eq_true.mp mm_b174) (List.forall_mem_nil _)
theorem mm_b175 : mm_k175.all (mm_rowb [] 10) = true := by decide +kernel
theorem mm_e175 : mm_cok mm_M175 := mm_mk [] (List.all_eq_true.mp mm_d175) (List.all_eq_true.mp mm_b175) (List.forall_mem_nil _)
theorem mm_b176 : mm_k176.all (mm_rowb [] 10) = true := by decide +kernel
theorem mm_e176 : mm_cok mm_M176 := mm_mk [] (List.all_eq_true.mp mm_d176) (List.all_eq_true.mp mm_b176) (List.forall_mem_nil _)
theorem mm_b177 : mm_k177.all (mm_rowb [] 10) = true := by decide +kernel
theorem mm_e177 : mm_cok mm_M177 := mm_mk [] (List.all_eq_true.mp mm_d177) (List.all_eq_true.mp mm_b177) (List.forall_mem_nil _)
theorem mm_b178 : mm_k178.all (mm_rowb [] 10) = true := by decide +kernel
theorem mm_e178 : mm_cok mm_M178 := mm_mk [] (List.all_eq_true.mp mm_d178) (List.all_eq_true.mp mm_b178) (List.forall_mem_nil _)
theorem mm_b179 : mm_k179.all (mm_rowb [(9, 10)] 10) = true := by decide +kernel
theorem mm_e179 : mm_cok mm_M179 := mm_mk [(9, 10)] (List.all_eq_true.mp mm_d179) (List.all_eq_true.mp mm_b179) (List.forall_mem_cons.mpr ⟨mm_t9, List.forall_mem_nil _⟩)
theorem mm_b180 : mm_k180.all (mm_rowb [(10, 10)] 10) = true := by decide +kernel
theorem mm_e180 : mm_cok mm_M180 := mm_mk [(10, 10)] (List.all_eq_true.mp mm_d180) (List.all_eq_true.mp mm_b180) (List.forall_mem_cons.mpr ⟨mm_t10, List.forall_mem_nil _⟩)
theorem mm_b181 : mm_k181.all (mm_rowb [(11, 18)] 10) = true := by decide +kernel
theorem mm_e181 : mm_cok mm_M181 := mm_mk [(11, 18)] (List.all_eq_true.mp mm_d181) (List.all_eq_true.mp mm_b181) (List.forall_mem_cons.mpr ⟨mm_t11, List.forall_mem_nil _⟩)
theorem mm_b182 : mm_k182.all (mm_rowb [(12, 15)] 10) = true := by decide +kernel
theorem mm_e182 : mm_cok mm_M182 := mm_mk [(12, 15)] (List.all_eq_true.mp mm_d182) (List.all_eq_true.mp mm_b182) (List.forall_mem_cons.mpr ⟨mm_t12, List.forall_mem_nil _⟩)
theorem mm_b183 : mm_k183.all (mm_rowb [(13, 14)] 10) = true := by decide +kernel
theorem mm_e183 : mm_cok mm_M183 := mm_mk [(13, 14)] (List.all_eq_true.mp mm_d183) (List.all_eq_true.mp mm_b183) (List.forall_mem_cons.mpr ⟨mm_t13, List.forall_mem_nil _⟩)
theorem mm_b184 : mm_k184.all (mm_rowb [(14, 9)] 10) = true := by decide +kernel
theorem mm_e184 : mm_cok mm_M184 := mm_mk [(14, 9)] (List.all_eq_true.mp mm_d184) (List.all_eq_true.mp mm_b184) (List.forall_mem_cons.mpr ⟨mm_t14, List.forall_mem_nil _⟩)
theorem mm_b185 : mm_k185.all (mm_rowb [(15, 4)] 10) = true := by decide +kernel
theorem mm_e185 : mm_cok mm_M185 := mm_mk [(15, 4)] (List.all_eq_true.mp mm_d185) (List.all_eq_true.mp mm_b185) (List.forall_mem_cons.mpr ⟨mm_t15, List.forall_mem_nil _⟩)
theorem mm_b186 : mm_k186.all (mm_rowb [(16, 10)] 10) = true := by decide +kernel
theorem mm_e186 : mm_cok mm_M186 := mm_mk [(16, 10)] (List.all_eq_true.mp mm_d186) (List.all_eq_true.mp mm_b186) (List.forall_mem_cons.mpr ⟨mm_t16, List.forall_mem_nil _⟩)
