theorem mm_b187 : mm_k187.all (mm_rowb [] 11) = true := by decide +kernel
theorem mm_e187 : mm_cok mm_M187 := mm_mk [] (List.all_eq_true.mp mm_d187) (List.all_eq_true.mp mm_b187) (List.forall_mem_nil _)
theorem mm_b188 : mm_k188.all (mm_rowb [] 11) = true := by decide +kernel
theorem mm_e188 : mm_cok mm_M188 := mm_mk [] (List.all_eq_true.mp mm_d188) (List.all_eq_true.mp mm_b188) (List.forall_mem_nil _)
theorem mm_b189 : mm_k189.all (mm_rowb [] 11) = true := by decide +kernel
theorem mm_e189 : mm_cok mm_M189 := mm_mk [] (List.all_eq_true.mp mm_d189) (List.all_eq_true.mp mm_b189) (List.forall_mem_nil _)
theorem mm_b190 : mm_k190.all (mm_rowb [] 11) = true := by decide +kernel
theorem mm_e190 : mm_cok mm_M190 := mm_mk [] (List.all_eq_true.mp mm_d190) (List.all_eq_true.mp mm_b190) (List.forall_mem_nil _)
theorem mm_b191 : mm_k191.all (mm_rowb [] 11) = true := by decide +kernel
theorem mm_e191 : mm_cok mm_M191 := mm_mk [] (List.all_eq_true.mp mm_d191) (List.all_eq_true.mp mm_b191) (List.forall_mem_nil _)
theorem mm_b192 : mm_k192.all (mm_rowb [] 11) = true := by decide +kernel
theorem mm_e192 : mm_cok mm_M192 := mm_mk [] (List.all_eq_true.mp mm_d192) (List.all_eq_true.mp mm_b192) (List.forall_mem_nil _)
theorem mm_b193 : mm_k193.all (mm_rowb [] 11) = true := by decide +kernel
theorem mm_e193 : mm_cok mm_M193 := mm_mk [] (List.all_eq_true.mp mm_d193) (List.all_eq_true.mp mm_b193) (List.forall_mem_nil _)
theorem mm_b194 : mm_k194.all (mm_rowb [] 11) = true := by decide +kernel
theorem mm_e194 : mm_cok mm_M194 := mm_mk [] (List.all_eq_true.mp mm_d194) (List.all_eq_true.mp mm_b194) (List.forall_mem_nil _)
theorem mm_b195 : mm_k195.all (mm_rowb [] 11) = true := by decide +kernel
theorem mm_e195 : mm_cok mm_M195 := mm_mk [] (List.all_eq_true.mp mm_d195) (List.all_eq_true.mp mm_b195) (List.forall_mem_nil _)
theorem mm_b196 : mm_k196.all (mm_rowb [] 11) = true := by decide +kernel
theorem mm_e196 : mm_cok mm_M196 := mm_mk [] (List.all_eq_true.mp mm_d196) (List.all_eq_true.mp mm_b196) (List.forall_mem_nil _)
theorem mm_b197 : mm_k197.all (mm_rowb [] 11) = true := by decide +kernel
theorem mm_e197 : mm_cok mm_M197 := mm_mk [] (List.all_eq_true.mp mm_d197) (List.all_eq_true.mp mm_b197) (List.forall_mem_nil _)
theorem mm_b198 : mm_k198.all (mm_rowb [] 11) = true := by decide +kernel
theorem mm_e198 : mm_cok mm_M198 := mm_mk [] (List.all_eq_true.mp mm_d198) (List.all_eq_true.mp mm_b198) (List.forall_mem_nil _)
theorem mm_b199 : mm_k199.all (mm_rowb [] 11) = true := by decide +kernel
theorem mm_e199 : mm_cok mm_M199 := mm_mk [] (List.all_eq_true.mp mm_d199) (List.all_eq_true.mp mm_b199) (List.forall_mem_nil _)
theorem mm_b200 : mm_k200.all (mm_rowb [] 11) = true := by decide +kernel
theorem mm_e200 : mm_cok mm_M200 := mm_mk [] (List.all_eq_true.mp mm_d200) (List.all_eq_true.mp mm_b200) (List.forall_mem_nil _)
theorem mm_b201 : mm_k201.all (mm_rowb [] 11) = true := by decide +kernel
theorem mm_e201 : mm_cok mm_M201 := mm_mk [] (List.all_eq_true.mp mm_d201) (List.all_eq_true.mp mm_b201) (List.forall_mem_nil _)
theorem mm_b202 : mm_k202.all (mm_rowb [] 11) = true := by decide +kernel
theorem mm_e202 : mm_cok mm_M202 := mm_mk [] (List.all_eq_true.mp mm_d202) (List.all_eq_true.mp mm_b202) (List.forall_mem_nil _)
theorem mm_b203 : mm_k203.all (mm_rowb [] 11) = true := by decide +kernel
theorem mm_e203 : mm_cok mm_M203 := mm_mk [] (List.all_eq_true.mp mm_d203) (List.all_eq_true.mp mm_b203) (List.forall_mem_nil _)
theorem mm_b204 : mm_k204.all (mm_rowb [] 11) = true := by decide +kernel
theorem mm_e204 : mm_cok mm_M204 := mm_mk [] (List.all_eq_true.mp mm_d204) (List.all_eq_true.mp mm_b204) (List.forall_mem_nil _)
theorem mm_b205 : mm_k205.all (mm_rowb [] 11) = true := by decide +kernel
theorem mm_e205 : mm_cok mm_M205 := mm_mk [] (List.all_eq_true.mp mm_d205) (List.all_eq_true.mp mm_b205) (List.forall_mem_nil _)
theorem mm_b206 : mm_k206.all (mm_rowb [] 11) = true := by decide +kernel
theorem mm_e206 : mm_cok mm_M206 := mm_mk [] (List.all_eq_true.mp mm_d206) (List.all_eq_true.mp mm_b206) (List.forall_mem_nil _)
theorem mm_b207 : mm_k207.all (mm_rowb [] 11) = true := by decide +kernel
theorem mm_e207 : mm_cok mm_M207 := mm_mk [] (List.all_eq_true.mp mm_d207) (List.all_eq_true.mp mm_b207) (List.forall_mem_nil _)
theorem mm_b208 : mm_k208.all (mm_rowb [] 11) = true := by decide +kernel
theorem mm_e208 : mm_cok mm_M208 := mm_mk [] (List.all_eq_true.mp mm_d208) (List.all_eq_true.mp mm_b208) (List.forall_mem_nil _)
theorem mm_b209 : mm_k209.all (mm_rowb [] 11) = true := by decide +kernel
theorem mm_e209 : mm_cok mm_M209 := mm_mk [] (List.all_eq_true.mp mm_d209) (List.all_eq_true.mp mm_b209) (List.forall_mem_nil _)
theorem mm_b210 : mm_k210.all (mm_rowb [] 11) = true := by decide +kernel
theorem mm_e210 : mm_cok mm_M210 := mm_mk [] (List.all_eq_true.mp mm_d210) (List.all_eq_true.mp mm_b210) (List.forall_mem_nil _)
theorem mm_b211 : mm_k211.all (mm_rowb [] 11) = true := by decide +kernel
theorem mm_e211 : mm_cok mm_M211 := mm_mk [] (List.all_eq_true.mp mm_d211) (List.all_eq_true.mp mm_b211) (List.forall_mem_nil _)
theorem mm_b212 : mm_k212.all (mm_rowb [] 11) = true := by decide +kernel
theorem mm_e212 : mm_cok mm_M212 := mm_mk [] (List.all_eq_true.mp mm_d212) (List.all_eq_true.mp mm_b212) (List.forall_mem_nil _)
theorem mm_b213 : mm_k213.all (mm_rowb [] 11) = true := by decide +kernel
theorem mm_e213 : mm_cok mm_M213 := mm_mk [] (List.all_eq_true.mp mm_d213) (List.all_eq_true.mp mm_b213) (List.forall_mem_nil _)
theorem mm_b214 : mm_k214.all (mm_rowb [] 11) = true := by decide +kernel
theorem mm_e214 : mm_cok mm_M214 := mm_mk [] (List.all_eq_true.mp mm_d214) (List.all_eq_true.mp mm_b214) (List.forall_mem_nil _)
theorem mm_b215 : mm_k215.all (mm_rowb [] 11) = true := by decide +kernel
theorem mm_e215 : mm_cok mm_M215 := mm_mk [] (List.all_eq_true.mp mm_d215) (List.all_eq_true.mp mm_b215) (List.forall_mem_nil _)
theorem mm_b216 : mm_k216.all (mm_rowb [] 11) = true := by decide +kernel
theorem mm_e216 : mm_cok mm_M216 := mm_mk [] (List.all_eq_true.mp mm_d216) (List.all_eq_true.mp mm_b216) (List.forall_mem_nil _)
theorem mm_b217 : mm_k217.all (mm_rowb [] 11) = true := by decide +kernel
theorem mm_e217 : mm_cok mm_M217 := mm_mk [] (List.all_eq_true.mp mm_d217) (List.all_eq_true.mp mm_b217) (List.forall_mem_nil _)
theorem mm_b218 : mm_k218.all (mm_rowb [] 11) = true := by decide +kernel
theorem mm_e218 : mm_cok mm_M218 := mm_mk [] (List.all_eq_true.mp mm_d218) (List.all_eq_true.mp mm_b218) (List.forall_mem_nil _)
theorem mm_b219 : mm_k219.all (mm_rowb [] 11) = true := by decide +kernel
theorem mm_e219 : mm_cok mm_M219 := mm_mk [] (List.all_eq_true.mp mm_d219) (List.all_eq_true.mp mm_b219) (List.forall_mem_nil _)
theorem mm_b220 : mm_k220.all (mm_rowb [] 11) = true := by decide +kernel
theorem mm_e220 : mm_cok mm_M220 := mm_mk [] (List.all_eq_true.mp mm_d220) (List.all_eq_true.mp mm_b220) (List.forall_mem_nil _)
theorem mm_b221 : mm_k221.all (mm_rowb [] 11) = true := by decide +kernel
theorem mm_e221 : mm_cok mm_M221 := mm_mk [] (List.all_eq_true.mp mm_d221) (List.all_eq_true.mp mm_b221) (List.forall_mem_nil _)
theorem mm_b222 : mm_k222.all (mm_rowb [] 11) = true := by decide +kernel
theorem mm_e222 : mm_cok mm_M222 := mm_mk [] (List.all_eq_true.mp mm_d222) (List.all_eq_true.mp mm_b222) (List.forall_mem_nil _)
theorem mm_b223 : mm_k223.all (mm_rowb [] 11) = true := by decide +kernel
theorem mm_e223 : mm_cok mm_M223 := mm_mk [] (List.all_eq_true.mp mm_d223) (List.all_eq_true.mp mm_b223) (List.forall_mem_nil _)
theorem mm_b224 : mm_k224.all (mm_rowb [] 11) = true := by decide +kernel
theorem mm_e224 : mm_cok mm_M224 := mm_mk [] (List.all_eq_true.mp mm_d224) (List.all_eq_true.mp mm_b224) (List.forall_mem_nil _)
theorem mm_b225 : mm_k225.all (mm_rowb [] 11) = true := by decide +kernel
theorem mm_e225 : mm_cok mm_M225 := mm_mk [] (List.all_eq_true.mp mm_d225) (List.all_eq_true.mp mm_b225) (List.forall_mem_nil _)
theorem mm_b226 : mm_k226.all (mm_rowb [] 11) = true := by decide +kernel
theorem mm_e226 : mm_cok mm_M226 := mm_mk [] (List.all_eq_true.mp mm_d226) (List.all_eq_true.mp mm_b226) (List.forall_mem_nil _)
theorem mm_b227 : mm_k227.all (mm_rowb [] 11) = true := by decide +kernel
theorem mm_e227 : mm_cok mm_M227 := mm_mk [] (List.all_eq_true.mp mm_d227) (List.all_eq_true.mp mm_b227) (List.forall_mem_nil _)
theorem mm_b228 : mm_k228.all (mm_rowb [] 11) = true := by decide +kernel
theorem mm_e228 : mm_cok mm_M228 := mm_mk [] (List.all_eq_true.mp mm_d228) (List.all_eq_true.mp mm_b228) (List.forall_mem_nil _)
theorem mm_b229 : mm_k229.all (mm_rowb [] 11) = true := by decide +kernel
theorem mm_e229 : mm_cok mm_M229 := mm_mk [] (List.all_eq_true.mp mm_d229) (List.all_eq_true.mp mm_b229) (List.forall_mem_nil _)
theorem mm_b230 : mm_k230.all (mm_rowb [] 11) = true := by decide +kernel
theorem mm_e230 : mm_cok mm_M230 := mm_mk [] (List.all_eq_true.mp mm_d230) (List.all_eq_true.mp mm_b230) (List.forall_mem_nil _)
theorem mm_b231 : mm_k231.all (mm_rowb [] 11) = true := by decide +kernel
theorem mm_e231 : mm_cok mm_M231 := mm_mk [] (List.all_eq_true.mp mm_d231) (List.all_eq_true.mp mm_b231) (List.forall_mem_nil _)
theorem mm_b232 : mm_k232.all (mm_rowb [] 11) = true := by decide +kernel
theorem mm_e232 : mm_cok mm_M232 := mm_mk [] (List.all_eq_true.mp mm_d232) (List.all_eq_true.mp mm_b232) (List.forall_mem_nil _)
theorem mm_b233 : mm_k233.all (mm_rowb [] 11) = true := by decide +kernel
theorem mm_e233 : mm_cok mm_M233 := mm_mk [] (List.all_eq_true.mp mm_d233) (List.all_eq_true.mp mm_b233) (List.forall_mem_nil _)
theorem mm_b234 : mm_k234.all (mm_rowb [] 11) = true := by decide +kernel
theorem mm_e234 : mm_cok mm_M234 := mm_mk [] (List.all_eq_true.mp mm_d234) (List.all_eq_true.mp mm_b234) (List.forall_mem_nil _)
theorem mm_b235 : mm_k235.all (mm_rowb [] 11) = true := by decide +kernel
theorem mm_e235 : mm_cok mm_M235 := mm_mk [] (List.all_eq_true.mp mm_d235) (List.all_eq_true.mp mm_b235) (List.forall_mem_nil _)
theorem mm_b236 : mm_k236.all (mm_rowb [] 11) = true := by decide +kernel
theorem mm_e236 : mm_cok mm_M236 := mm_mk [] (List.all_eq_true.mp mm_d236) (List.all_eq_true.mp mm_b236) (List.forall_mem_nil _)
theorem mm_b237 : mm_k237.all (mm_rowb [] 11) = true := by decide +kernel
theorem mm_e237 : mm_cok mm_M237 := mm_mk [] (List.all_eq_true.mp mm_d237) (List.all_eq_true.mp mm_b237) (List.forall_mem_nil _)
theorem mm_b238 : mm_k238.all (mm_rowb [] 11) = true := by decide +kernel
theorem mm_e238 : mm_cok mm_M238 := mm_mk [] (List.all_eq_true.mp mm_d238) (List.all_eq_true.mp mm_b238) (List.forall_mem_nil _)
theorem mm_b239 : mm_k239.all (mm_rowb [] 11) = true := by decide +kernel
theorem mm_e239 : mm_cok mm_M239 := mm_mk [] (List.all_eq_true.mp mm_d239) (List.all_eq_true.mp mm_b239) (List.forall_mem_nil _)
theorem mm_b240 : mm_k240.all (mm_rowb [] 11) = true := by decide +kernel
theorem mm_e240 : mm_cok mm_M240 := mm_mk [] (List.all_eq_true.mp mm_d240) (List.all_eq_true.mp mm_b240) (List.forall_mem_nil _)
theorem mm_b241 : mm_k241.all (mm_rowb [] 11) = true := by decide +kernel
theorem mm_e241 : mm_cok mm_M241 := mm_mk [] (List.all_eq_true.mp mm_d241) (List.all_eq_true.mp mm_b241) (List.forall_mem_nil _)
theorem mm_b242 : mm_k242.all (mm_rowb [] 11) = true := by decide +kernel
theorem mm_e242 : mm_cok mm_M242 := mm_mk [] (List.all_eq_true.mp mm_d242) (List.all_eq_true.mp mm_b242) (List.forall_mem_nil _)
theorem mm_b243 : mm_k243.all (mm_rowb [] 11) = true := by decide +kernel
theorem mm_e243 : mm_cok mm_M243 := mm_mk [] (List.all_eq_true.mp mm_d243) (List.all_eq_true.mp mm_b243) (List.forall_mem_nil _)
theorem mm_b244 : mm_k244.all (mm_rowb [] 11) = true := by decide +kernel
theorem mm_e244 : mm_cok mm_M244 := mm_mk [] (List.all_eq_true.mp mm_d244) (List.all_eq_true.mp mm_b244) (List.forall_mem_nil _)
theorem mm_b245 : mm_k245.all (mm_rowb [] 11) = true := by decide +kernel
theorem mm_e245 : mm_cok mm_M245 := mm_mk [] (List.all_eq_true.mp mm_d245) (List.all_eq_true.mp mm_b245) (List.forall_mem_nil _)
theorem mm_b246 : mm_k246.all (mm_rowb [] 11) = true := by decide +kernel
theorem mm_e246 : mm_cok mm_M246 := mm_mk [] (List.all_eq_true.mp mm_d246) (List.all_eq_true.mp mm_b246) (List.forall_mem_nil _)
theorem mm_b247 : mm_k247.all (mm_rowb [] 11) = true := by decide +kernel
theorem mm_e247 : mm_cok mm_M247 := mm_mk [] (List.all_eq_true.mp mm_d247) (List.all_eq_true.mp mm_b247) (List.forall_mem_nil _)
theorem mm_b248 : mm_k248.all (mm_rowb [] 11) = true := by decide +kernel
theorem mm_e248 : mm_cok mm_M248 := mm_mk [] (List.all_eq_true.mp mm_d248) (List.all_eq_true.mp mm_b248) (List.forall_mem_nil _)
theorem mm_b249 : mm_k249.all (mm_rowb [] 11) = true := by decide +kernel
theorem mm_e249 : mm_cok mm_M249 := mm_mk [] (List.all_eq_true.mp mm_d249) (List.all_eq_true.mp mm_b249) (List.forall_mem_nil _)
theorem mm_b250 : mm_k250.all (mm_rowb [] 11) = true := by decide +kernel
theorem mm_e250 : mm_cok mm_M250 := mm_mk [] (List.all_eq_true.mp mm_d250) (List.all_eq_true.mp mm_b250) (List.forall_mem_nil _)
theorem mm_b251 : mm_k251.all (mm_rowb [] 11) = true := by decide +kernel
theorem mm_e251 : mm_cok mm_M251 := mm_mk [] (List.all_eq_true.mp mm_d251) (List.all_eq_true.mp mm_b251) (List.forall_mem_nil _)
theorem mm_b252 : mm_k252.all (mm_rowb [] 11) = true := by decide +kernel
theorem mm_e252 : mm_cok mm_M252 := mm_mk [] (List.all_eq_true.mp mm_d252) (List.all_eq_true.mp mm_b252) (List.forall_mem_nil _)
theorem mm_b253 : mm_k253.all (mm_rowb [] 11) = true := by decide +kernel
theorem mm_e253 : mm_cok mm_M253 := mm_mk [] (List.all_eq_true.mp mm_d253) (List.all_eq_true.mp mm_b253) (List.forall_mem_nil _)
theorem mm_b254 : mm_k254.all (mm_rowb [] 11) = true := by decide +kernel
theorem mm_e254 : mm_cok mm_M254 := mm_mk [] (List.all_eq_true.mp mm_d254) (List.all_eq_true.mp mm_b254) (List.forall_mem_nil _)
theorem mm_b255 : mm_k255.all (mm_rowb [] 11) = true := by decide +kernel
theorem mm_e255 : mm_cok mm_M255 := mm_mk [] (List.all_eq_true.mp mm_d255) (List.all_eq_true.mp mm_b255) (List.forall_mem_nil _)
theorem mm_b256 : mm_k256.all (mm_rowb [] 11) = true := by decide +kernel
theorem mm_e256 : mm_cok mm_M256 := mm_mk [] (List.all_eq_true.mp mm_d256) (List.all_eq_true.mp mm_b256) (List.forall_mem_nil _)
theorem mm_b257 : mm_k257.all (mm_rowb [] 11) = true := by decide +kernel
theorem mm_e257 : mm_cok mm_M257 := mm_mk [] (List.all_eq_true.mp mm_d257) (List.all_eq_true.mp mm_b257) (List.forall_mem_nil _)
theorem mm_b258 : mm_k258.all (mm_rowb [] 11) = true := by decide +kernel
theorem mm_e258 : mm_cok mm_M258 := mm_mk [] (List.all_eq_true.mp mm_d258) (List.all_eq_true.mp mm_b258) (List.forall_mem_nil _)
theorem mm_b259 : mm_k259.all (mm_rowb [] 11) = true := by decide +kernel
theorem mm_e259 : mm_cok mm_M259 := mm_mk [] (List.all_eq_true.mp mm_d259) (List.all_eq_true.mp mm_b259) (List.forall_mem_nil _)
theorem mm_b260 : mm_k260.all (mm_rowb [] 11) = true := by decide +kernel
theorem mm_e260 : mm_cok mm_M260 := mm_mk [] (List.all_eq_true.mp mm_d260) (List.all_eq_true.mp mm_b260) (List.forall_mem_nil _)
theorem mm_b261 : mm_k261.all (mm_rowb [] 11) = true := by decide +kernel
theorem mm_e261 : mm_cok mm_M261 := mm_mk [] (List.all_eq_true.mp mm_d261) (List.all_eq_true.mp mm_b261) (List.forall_mem_nil _)
theorem mm_b262 : mm_k262.all (mm_rowb [] 11) = true := by decide +kernel
theorem mm_e262 : mm_cok mm_M262 := mm_mk [] (List.all_eq_true.mp mm_d262) (List.all_eq_true.mp mm_b262) (List.forall_mem_nil _)
theorem mm_b263 : mm_k263.all (mm_rowb [] 11) = true := by decide +kernel
theorem mm_e263 : mm_cok mm_M263 := mm_mk [] (List.all_eq_true.mp mm_d263) (List.all_eq_true.mp mm_b263) (List.forall_mem_nil _)
theorem mm_b264 : mm_k264.all (mm_rowb [] 11) = true := by decide +kernel
theorem mm_e264 : mm_cok mm_M264 := mm_mk [] (List.all_eq_true.mp mm_d264) (List.all_eq_true.mp mm_b264) (List.forall_mem_nil _)
theorem mm_b265 : mm_k265.all (mm_rowb [] 11) = true := by decide +kernel
theorem mm_e265 : mm_cok mm_M265 := mm_mk [] (List.all_eq_true.mp mm_d265) (List.all_eq_true.mp mm_b265) (List.forall_mem_nil _)
theorem mm_b266 : mm_k266.all (mm_rowb [] 11) = true := by decide +kernel
theorem mm_e266 : mm_cok mm_M266 := mm_mk [] (List.all_eq_true.mp mm_d266) (List.all_eq_true.mp mm_b266) (List.forall_mem_nil _)
theorem mm_b267 : mm_k267.all (mm_rowb [] 11) = true := by decide +kernel
theorem mm_e267 : mm_cok mm_M267 := mm_mk [] (List.all_eq_true.mp mm_d267) (List.all_eq_true.mp mm_b267) (List.forall_mem_nil _)
theorem mm_b268 : mm_k268.all (mm_rowb [] 11) = true := by decide +kernel
theorem mm_e268 : mm_cok mm_M268 := mm_mk [] (List.all_eq_true.mp mm_d268) (List.all_eq_true.mp mm_b268) (List.forall_mem_nil _)
theorem mm_b269 : mm_k269.all (mm_rowb [] 11) = true := by decide +kernel
theorem mm_e269 : mm_cok mm_M269 := mm_mk [] (List.all_eq_true.mp mm_d269) (List.all_eq_true.mp mm_b269) (List.forall_mem_nil _)
theorem mm_b270 : mm_k270.all (mm_rowb [] 11) = true := by decide +kernel
theorem mm_e270 : mm_cok mm_M270 := mm_mk [] (List.all_eq_true.mp mm_d270) (List.all_eq_true.mp mm_b270) (List.forall_mem_nil _)
theorem mm_b271 : mm_k271.all (mm_rowb [] 11) = true := by decide +kernel
theorem mm_e271 : mm_cok mm_M271 := mm_mk [] (List.all_eq_true.mp mm_d271) (List.all_eq_true.mp mm_b271) (List.forall_mem_nil _)
theorem mm_b272 : mm_k272.all (mm_rowb [] 11) = true := by decide +kernel
theorem mm_e272 : mm_cok mm_M272 := mm_mk [] (List.all_eq_true.mp mm_d272) (List.all_eq_true.mp mm_b272) (List.forall_mem_nil _)
theorem mm_b273 : mm_k273.all (mm_rowb [] 11) = true := by decide +kernel
theorem mm_e273 : mm_cok mm_M273 := mm_mk [] (List.all_eq_true.mp mm_d273) (List.all_eq_true.mp mm_b273) (List.forall_mem_nil _)
theorem mm_b274 : mm_k274.all (mm_rowb [] 11) = true := by decide +kernel
theorem mm_e274 : mm_cok mm_M274 := mm_mk [] (List.all_eq_true.mp mm_d274) (List.all_eq_true.mp mm_b274) (List.forall_mem_nil _)
theorem mm_b275 : mm_k275.all (mm_rowb [] 11) = true := by decide +kernel
theorem mm_e275 : mm_cok mm_M275 := mm_mk [] (List.all_eq_true.mp mm_d275) (List.all_eq_true.mp mm_b275) (List.forall_mem_nil _)
theorem mm_b276 : mm_k276.all (mm_rowb [] 11) = true := by decide +kernel
theorem mm_e276 : mm_cok mm_M276 := mm_mk [] (List.all_eq_true.mp mm_d276) (List.all_eq_true.mp mm_b276) (List.forall_mem_nil _)
theorem mm_b277 : mm_k277.all (mm_rowb [] 11) = true := by decide +kernel
theorem mm_e277 : mm_cok mm_M277 := mm_mk [] (List.all_eq_true.mp mm_d277) (List.all_eq_true.mp mm_b277) (List.forall_mem_nil _)
theorem mm_b278 : mm_k278.all (mm_rowb [] 11) = true := by decide +kernel
theorem mm_e278 : mm_cok mm_M278 := mm_mk [] (List.all_eq_true.mp mm_d278) (List.all_eq_true.mp mm_b278) (List.forall_mem_nil _)
theorem mm_b279 : mm_k279.all (mm_rowb [] 11) = true := by decide +kernel
theorem mm_e279 : mm_cok mm_M279 := mm_mk [] (List.all_eq_true.mp mm_d279) (List.all_eq_true.mp mm_b279) (List.forall_mem_nil _)
theorem mm_b280 : mm_k280.all (mm_rowb [] 11) = true := by decide +kernel
theorem mm_e280 : mm_cok mm_M280 := mm_mk [] (List.all_eq_true.mp mm_d280) (List.all_eq_true.mp mm_b280) (List.forall_mem_nil _)
theorem mm_b281 : mm_k281.all (mm_rowb [] 11) = true := by decide +kernel
theorem mm_e281 : mm_cok mm_M281 := mm_mk [] (List.all_eq_true.mp mm_d281) (List.all_eq_true.mp mm_b281) (List.forall_mem_nil _)
theorem mm_b282 : mm_k282.all (mm_rowb [] 11) = true := by decide +kernel
theorem mm_e282 : mm_cok mm_M282 := mm_mk [] (List.all_eq_true.mp mm_d282) (List.all_eq_true.mp mm_b282) (List.forall_mem_nil _)
theorem mm_b283 : mm_k283.all (mm_rowb [] 11) = true := by decide +kernel
theorem mm_e283 : mm_cok mm_M283 := mm_mk [] (List.all_eq_true.mp mm_d283) (List.all_eq_true.mp mm_b283) (List.forall_mem_nil _)
theorem mm_b284 : mm_k284.all (mm_rowb [] 11) = true := by decide +kernel
theorem mm_e284 : mm_cok mm_M284 := mm_mk [] (List.all_eq_true.mp mm_d284) (List.all_eq_true.mp mm_b284) (List.forall_mem_nil _)
theorem mm_b285 : mm_k285.all (mm_rowb [] 11) = true := by decide +kernel
theorem mm_e285 : mm_cok mm_M285 := mm_mk [] (List.all_eq_true.mp mm_d285) (List.all_eq_true.mp mm_b285) (List.forall_mem_nil _)
theorem mm_b286 : mm_k286.all (mm_rowb [] 11) = true := by decide +kernel
theorem mm_e286 : mm_cok mm_M286 := mm_mk [] (List.all_eq_true.mp mm_d286) (List.all_eq_true.mp mm_b286) (List.forall_mem_nil _)
theorem mm_b287 : mm_k287.all (mm_rowb [] 11) = true := by decide +kernel
theorem mm_e287 : mm_cok mm_M287 := mm_mk [] (List.all_eq_true.mp mm_d287) (List.all_eq_true.mp mm_b287) (List.forall_mem_nil _)
theorem mm_b288 : mm_k288.all (mm_rowb [] 11) = true := by decide +kernel
theorem mm_e288 : mm_cok mm_M288 := mm_mk [] (List.all_eq_true.mp mm_d288) (List.all_eq_true.mp mm_b288) (List.forall_mem_nil _)
theorem mm_b289 : mm_k289.all (mm_rowb [] 11) = true := by decide +kernel
theorem mm_e289 : mm_cok mm_M289 := mm_mk [] (List.all_eq_true.mp mm_d289) (List.all_eq_true.mp mm_b289) (List.forall_mem_nil _)
theorem mm_b290 : mm_k290.all (mm_rowb [] 11) = true := by decide +kernel
theorem mm_e290 : mm_cok mm_M290 := mm_mk [] (List.all_eq_true.mp mm_d290) (List.all_eq_true.mp mm_b290) (List.forall_mem_nil _)
theorem mm_b291 : mm_k291.all (mm_rowb [] 11) = true := by decide +kernel
theorem mm_e291 : mm_cok mm_M291 := mm_mk [] (List.all_eq_true.mp mm_d291) (List.all_eq_true.mp mm_b291) (List.forall_mem_nil _)
theorem mm_b292 : mm_k292.all (mm_rowb [] 11) = true := by decide +kernel
theorem mm_e292 : mm_cok mm_M292 := mm_mk [] (List.all_eq_true.mp mm_d292) (List.all_eq_true.mp mm_b292) (List.forall_mem_nil _)
theorem mm_b293 : mm_k293.all (mm_rowb [] 11) = true := by decide +kernel
theorem mm_e293 : mm_cok mm_M293 := mm_mk [] (List.all_eq_true.mp mm_d293) (List.all_eq_true.mp mm_b293) (List.forall_mem_nil _)
theorem mm_b294 : mm_k294.all (mm_rowb [] 11) = true := by decide +kernel
theorem mm_e294 : mm_cok mm_M294 := mm_mk [] (List.all_eq_true.mp mm_d294) (List.all_eq_true.mp mm_b294) (List.forall_mem_nil _)
theorem mm_b295 : mm_k295.all (mm_rowb [] 11) = true := by decide +kernel
theorem mm_e295 : mm_cok mm_M295 := mm_mk [] (List.all_eq_true.mp mm_d295) (List.all_eq_true.mp mm_b295) (List.forall_mem_nil _)
theorem mm_b296 : mm_k296.all (mm_rowb [] 11) = true := by decide +kernel
theorem mm_e296 : mm_cok mm_M296 := mm_mk [] (List.all_eq_true.mp mm_d296) (List.all_eq_true.mp mm_b296) (List.forall_mem_nil _)
theorem mm_b297 : mm_k297.all (mm_rowb [] 11) = true := by decide +kernel
theorem mm_e297 : mm_cok mm_M297 := mm_mk [] (List.all_eq_true.mp mm_d297) (List.all_eq_true.mp mm_b297) (List.forall_mem_nil _)
theorem mm_b298 : mm_k298.all (mm_rowb [] 11) = true := by decide +kernel
theorem mm_e298 : mm_cok mm_M298 := mm_mk [] (List.all_eq_true.mp mm_d298) (List.all_eq_true.mp mm_b298) (List.forall_mem_nil _)
theorem mm_b299 : mm_k299.all (mm_rowb [] 11) = true := by decide +kernel
theorem mm_e299 : mm_cok mm_M299 := mm_mk [] (List.all_eq_true.mp mm_d299) (List.all_eq_true.mp mm_b299) (List.forall_mem_nil _)
theorem mm_b300 : mm_k300.all (mm_rowb [] 11) = true := by decide +kernel
theorem mm_e300 : mm_cok mm_M300 := mm_mk [] (List.all_eq_true.mp mm_d300) (List.all_eq_true.mp mm_b300) (List.forall_mem_nil _)
theorem mm_b301 : mm_k301.all (mm_rowb [] 11) = true := by decide +kernel
theorem mm_e301 : mm_cok mm_M301 := mm_mk [] (List.all_eq_true.mp mm_d301) (List.all_eq_true.mp mm_b301) (List.forall_mem_nil _)
theorem mm_b302 : mm_k302.all (mm_rowb [] 11) = true := by decide +kernel
theorem mm_e302 : mm_cok mm_M302 := mm_mk [] (List.all_eq_true.mp mm_d302) (List.all_eq_true.mp mm_b302) (List.forall_mem_nil _)
theorem mm_b303 : mm_k303.all (mm_rowb [] 11) = true := by decide +kernel
theorem mm_e303 : mm_cok mm_M303 := mm_mk [] (List.all_eq_true.mp mm_d303) (List.all_eq_true.mp mm_b303) (List.forall_mem_nil _)
theorem mm_b304 : mm_k304.all (mm_rowb [] 11) = true := by decide +kernel
theorem mm_e304 : mm_cok mm_M304 := mm_mk [] (List.all_eq_true.mp mm_d304) (List.all_eq_true.mp mm_b304) (List.forall_mem_nil _)
theorem mm_b305 : mm_k305.all (mm_rowb [] 11) = true := by decide +kernel
theorem mm_e305 : mm_cok mm_M305 := mm_mk [] (List.all_eq_true.mp mm_d305) (List.all_eq_true.mp mm_b305) (List.forall_mem_nil _)
theorem mm_b306 : mm_k306.all (mm_rowb [] 11) = true := by decide +kernel
theorem mm_e306 : mm_cok mm_M306 := mm_mk [] (List.all_eq_true.mp mm_d306) (List.all_eq_true.mp mm_b306) (List.forall_mem_nil _)
theorem mm_b307 : mm_k307.all (mm_rowb [] 11) = true := by decide +kernel
theorem mm_e307 : mm_cok mm_M307 := mm_mk [] (List.all_eq_true.mp mm_d307) (List.all_eq_true.mp mm_b307) (List.forall_mem_nil _)
theorem mm_b308 : mm_k308.all (mm_rowb [] 11) = true := by decide +kernel
theorem mm_e308 : mm_cok mm_M308 := mm_mk [] (List.all_eq_true.mp mm_d308) (List.all_eq_true.mp mm_b308) (List.forall_mem_nil _)
theorem mm_b309 : mm_k309.all (mm_rowb [] 11) = true := by decide +kernel
theorem mm_e309 : mm_cok mm_M309 := mm_mk [] (List.all_eq_true.mp mm_d309) (List.all_eq_true.mp mm_b309) (List.forall_mem_nil _)
theorem mm_b310 : mm_k310.all (mm_rowb [] 11) = true := by decide +kernel
theorem mm_e310 : mm_cok mm_M310 := mm_mk [] (List.all_eq_true.mp mm_d310) (List.all_eq_true.mp mm_b310) (List.forall_mem_nil _)
theorem mm_b311 : mm_k311.all (mm_rowb [] 11) = true := by decide +kernel
theorem mm_e311 : mm_cok mm_M311 := mm_mk [] (List.all_eq_true.mp mm_d311) (List.all_eq_true.mp mm_b311) (List.forall_mem_nil _)
theorem mm_b312 : mm_k312.all (mm_rowb [] 11) = true := by decide +kernel
theorem mm_e312 : mm_cok mm_M312 := mm_mk [] (List.all_eq_true.mp mm_d312) (List.all_eq_true.mp mm_b312) (List.forall_mem_nil _)
theorem mm_b313 : mm_k313.all (mm_rowb [] 11) = true := by decide +kernel
theorem mm_e313 : mm_cok mm_M313 := mm_mk [] (List.all_eq_true.mp mm_d313) (List.all_eq_true.mp mm_b313) (List.forall_mem_nil _)
theorem mm_b314 : mm_k314.all (mm_rowb [] 11) = true := by decide +kernel
theorem mm_e314 : mm_cok mm_M314 := mm_mk [] (List.all_eq_true.mp mm_d314) (List.all_eq_true.mp mm_b314) (List.forall_mem_nil _)
theorem mm_b315 : mm_k315.all (mm_rowb [] 11) = true := by decide +kernel
theorem mm_e315 : mm_cok mm_M315 := mm_mk [] (List.all_eq_true.mp mm_d315) (List.all_eq_true.mp mm_b315) (List.forall_mem_nil _)
theorem mm_b316 : mm_k316.all (mm_rowb [] 11) = true := by decide +kernel
theorem mm_e316 : mm_cok mm_M316 := mm_mk [] (List.all_eq_true.mp mm_d316) (List.all_eq_true.mp mm_b316) (List.forall_mem_nil _)
theorem mm_b317 : mm_k317.all (mm_rowb [] 11) = true := by decide +kernel
theorem mm_e317 : mm_cok mm_M317 := mm_mk [] (List.all_eq_true.mp mm_d317) (List.all_eq_true.mp mm_b317) (List.forall_mem_nil _)
theorem mm_b318 : mm_k318.all (mm_rowb [] 11) = true := by decide +kernel
theorem mm_e318 : mm_cok mm_M318 := mm_mk [] (List.all_eq_true.mp mm_d318) (List.all_eq_true.mp mm_b318) (List.forall_mem_nil _)
theorem mm_b319 : mm_k319.all (mm_rowb [] 11) = true := by decide +kernel
theorem mm_e319 : mm_cok mm_M319 := mm_mk [] (List.all_eq_true.mp mm_d319) (List.all_eq_true.mp mm_b319) (List.forall_mem_nil _)
theorem mm_b320 : mm_k320.all (mm_rowb [] 11) = true := by decide +kernel
theorem mm_e320 : mm_cok mm_M320 := mm_mk [] (List.all_eq_true.mp mm_d320) (List.all_eq_true.mp mm_b320) (List.forall_mem_nil _)
theorem mm_b321 : mm_k321.all (mm_rowb [] 11) = true := by decide +kernel
theorem mm_e321 : mm_cok mm_M321 := mm_mk [] (List.all_eq_true.mp mm_d321) (List.all_eq_true.mp mm_b321) (List.forall_mem_nil _)
theorem mm_b322 : mm_k322.all (mm_rowb [] 11) = true := by decide +kernel
theorem mm_e322 : mm_cok mm_M322 := mm_mk [] (List.all_eq_true.mp mm_d322) (List.all_eq_true.mp mm_b322) (List.forall_mem_nil _)
theorem mm_b323 : mm_k323.all (mm_rowb [] 11) = true := by decide +kernel
theorem mm_e323 : mm_cok mm_M323 := mm_mk [] (List.all_eq_true.mp mm_d323) (List.all_eq_true.mp mm_b323) (List.forall_mem_nil _)
theorem mm_b324 : mm_k324.all (mm_rowb [] 11) = true := by decide +kernel
theorem mm_e324 : mm_cok mm_M324 := mm_mk [] (List.all_eq_true.mp mm_d324) (List.all_eq_true.mp mm_b324) (List.forall_mem_nil _)
theorem mm_b325 : mm_k325.all (mm_rowb [] 11) = true := by decide +kernel
theorem mm_e325 : mm_cok mm_M325 := mm_mk [] (List.all_eq_true.mp mm_d325) (List.all_eq_true.mp mm_b325) (List.forall_mem_nil _)
theorem mm_b326 : mm_k326.all (mm_rowb [] 11) = true := by decide +kernel
theorem mm_e326 : mm_cok mm_M326 := mm_mk [] (List.all_eq_true.mp mm_d326) (List.all_eq_true.mp mm_b326) (List.forall_mem_nil _)
theorem mm_b327 : mm_k327.all (mm_rowb [] 11) = true := by decide +kernel
theorem mm_e327 : mm_cok mm_M327 := mm_mk [] (List.all_eq_true.mp mm_d327) (List.all_eq_true.mp mm_b327) (List.forall_mem_nil _)
theorem mm_b328 : mm_k328.all (mm_rowb [] 11) = true := by decide +kernel
theorem mm_e328 : mm_cok mm_M328 := mm_mk [] (List.all_eq_true.mp mm_d328) (List.all_eq_true.mp mm_b328) (List.forall_mem_nil _)
theorem mm_b329 : mm_k329.all (mm_rowb [] 11) = true := by decide +kernel
theorem mm_e329 : mm_cok mm_M329 := mm_mk [] (List.all_eq_true.mp mm_d329) (List.all_eq_true.mp mm_b329) (List.forall_mem_nil _)
theorem mm_b330 : mm_k330.all (mm_rowb [] 11) = true := by decide +kernel
theorem mm_e330 : mm_cok mm_M330 := mm_mk [] (List.all_eq_true.mp mm_d330) (List.all_eq_true.mp mm_b330) (List.forall_mem_nil _)
theorem mm_b331 : mm_k331.all (mm_rowb [] 11) = true := by decide +kernel
theorem mm_e331 : mm_cok mm_M331 := mm_mk [] (List.all_eq_true.mp mm_d331) (List.all_eq_true.mp mm_b331) (List.forall_mem_nil _)
theorem mm_b332 : mm_k332.all (mm_rowb [] 11) = true := by decide +kernel
theorem mm_e332 : mm_cok mm_M332 := mm_mk [] (List.all_eq_true.mp mm_d332) (List.all_eq_true.mp mm_b332) (List.forall_mem_nil _)
theorem mm_b333 : mm_k333.all (mm_rowb [] 11) = true := by decide +kernel
theorem mm_e333 : mm_cok mm_M333 := mm_mk [] (List.all_eq_true.mp mm_d333) (List.all_eq_true.mp mm_b333) (List.forall_mem_nil _)
theorem mm_b334 : mm_k334.all (mm_rowb [] 11) = true := by decide +kernel
theorem mm_e334 : mm_cok mm_M334 := mm_mk [] (List.all_eq_true.mp mm_d334) (List.all_eq_true.mp mm_b334) (List.forall_mem_nil _)
theorem mm_b335 : mm_k335.all (mm_rowb [] 11) = true := by decide +kernel
theorem mm_e335 : mm_cok mm_M335 := mm_mk [] (List.all_eq_true.mp mm_d335) (List.all_eq_true.mp mm_b335) (List.forall_mem_nil _)
theorem mm_b336 : mm_k336.all (mm_rowb [] 11) = true := by decide +kernel
theorem mm_e336 : mm_cok mm_M336 := mm_mk [] (List.all_eq_true.mp mm_d336) (List.all_eq_true.mp mm_b336) (List.forall_mem_nil _)
theorem mm_b337 : mm_k337.all (mm_rowb [] 11) = true := by decide +kernel
theorem mm_e337 : mm_cok mm_M337 := mm_mk [] (List.all_eq_true.mp mm_d337) (List.all_eq_true.mp mm_b337) (List.forall_mem_nil _)
theorem mm_b338 : mm_k338.all (mm_rowb [] 11) = true := by decide +kernel
theorem mm_e338 : mm_cok mm_M338 := mm_mk [] (List.all_eq_true.mp mm_d338) (List.all_eq_true.mp mm_b338) (List.forall_mem_nil _)
theorem mm_b339 : mm_k339.all (mm_rowb [] 11) = true := by decide +kernel
theorem mm_e339 : mm_cok mm_M339 := mm_mk [] (List.all_eq_true.mp mm_d339) (List.all_eq_true.mp mm_b339) (List.forall_mem_nil _)
theorem mm_b340 : mm_k340.all (mm_rowb [] 11) = true := by decide +kernel
theorem mm_e340 : mm_cok mm_M340 := mm_mk [] (List.all_eq_true.mp mm_d340) (List.all_eq_true.mp mm_b340) (List.forall_mem_nil _)
theorem mm_b341 : mm_k341.all (mm_rowb [] 11) = true := by decide +kernel
theorem mm_e341 : mm_cok mm_M341 := mm_mk [] (List.all_eq_true.mp mm_d341) (List.all_eq_true.mp mm_b341) (List.forall_mem_nil _)
theorem mm_b342 : mm_k342.all (mm_rowb [] 13) = true := by decide +kernel
theorem mm_e342 : mm_cok mm_M342 := mm_mk [] (List.all_eq_true.mp mm_d342) (List.all_eq_true.mp mm_b342) (List.forall_mem_nil _)
theorem mm_b343 : mm_k343.all (mm_rowb [] 13) = true := by decide +kernel
theorem mm_e343 : mm_cok mm_M343 := mm_mk [] (List.all_eq_true.mp mm_d343) (List.all_eq_true.mp mm_b343) (List.forall_mem_nil _)
theorem mm_b344 : mm_k344.all (mm_rowb [] 12) = true := by decide +kernel
theorem mm_e344 : mm_cok mm_M344 := mm_mk [] (List.all_eq_true.mp mm_d344) (List.all_eq_true.mp mm_b344) (List.forall_mem_nil _)
theorem mm_b345 : mm_k345.all (mm_rowb [] 12) = true := by decide +kernel
theorem mm_e345 : mm_cok mm_M345 := mm_mk [] (List.all_eq_true.mp mm_d345) (List.all_eq_true.mp mm_b345) (List.forall_mem_nil _)
theorem mm_b346 : mm_k346.all (mm_rowb [] 12) = true := by decide +kernel
theorem mm_e346 : mm_cok mm_M346 := mm_mk [] (List.all_eq_true.mp mm_d346) (List.all_eq_true.mp mm_b346) (List.forall_mem_nil _)
theorem mm_b347 : mm_k347.all (mm_rowb [] 12) = true := by decide +kernel
theorem mm_e347 : mm_cok mm_M347 := mm_mk [] (List.all_eq_true.mp mm_d347) (List.all_eq_true.mp mm_b347) (List.forall_mem_nil _)
theorem mm_b348 : mm_k348.all (mm_rowb [] 12) = true := by decide +kernel
theorem mm_e348 : mm_cok mm_M348 := mm_mk [] (List.all_eq_true.mp mm_d348) (List.all_eq_true.mp mm_b348) (List.forall_mem_nil _)
theorem mm_b349 : mm_k349.all (mm_rowb [] 12) = true := by decide +kernel
theorem mm_e349 : mm_cok mm_M349 := mm_mk [] (List.all_eq_true.mp mm_d349) (List.all_eq_true.mp mm_b349) (List.forall_mem_nil _)
theorem mm_b350 : mm_k350.all (mm_rowb [] 12) = true := by decide +kernel
theorem mm_e350 : mm_cok mm_M350 := mm_mk [] (List.all_eq_true.mp mm_d350) (List.all_eq_true.mp mm_b350) (List.forall_mem_nil _)
theorem mm_b351 : mm_k351.all (mm_rowb [] 12) = true := by decide +kernel
theorem mm_e351 : mm_cok mm_M351 := mm_mk [] (List.all_eq_true.mp mm_d351) (List.all_eq_true.mp mm_b351) (List.forall_mem_nil _)
theorem mm_b352 : mm_k352.all (mm_rowb [] 12) = true := by decide +kernel
theorem mm_e352 : mm_cok mm_M352 := mm_mk [] (List.all_eq_true.mp mm_d352) (List.all_eq_true.mp mm_b352) (List.forall_mem_nil _)
theorem mm_b353 : mm_k353.all (mm_rowb [] 12) = true := by decide +kernel
theorem mm_e353 : mm_cok mm_M353 := mm_mk [] (List.all_eq_true.mp mm_d353) (List.all_eq_true.mp mm_b353) (List.forall_mem_nil _)
theorem mm_b354 : mm_k354.all (mm_rowb [] 12) = true := by decide +kernel
theorem mm_e354 : mm_cok mm_M354 := mm_mk [] (List.all_eq_true.mp mm_d354) (List.all_eq_true.mp mm_b354) (List.forall_mem_nil _)
theorem mm_b355 : mm_k355.all (mm_rowb [] 12) = true := by decide +kernel
theorem mm_e355 : mm_cok mm_M355 := mm_mk [] (List.all_eq_true.mp mm_d355) (List.all_eq_true.mp mm_b355) (List.forall_mem_nil _)
theorem mm_b356 : mm_k356.all (mm_rowb [] 12) = true := by decide +kernel
theorem mm_e356 : mm_cok mm_M356 := mm_mk [] (List.all_eq_true.mp mm_d356) (List.all_eq_true.mp mm_b356) (List.forall_mem_nil _)
theorem mm_b357 : mm_k357.all (mm_rowb [] 12) = true := by decide +kernel
theorem mm_e357 : mm_cok mm_M357 := mm_mk [] (List.all_eq_true.mp mm_d357) (List.all_eq_true.mp mm_b357) (List.forall_mem_nil _)
theorem mm_b358 : mm_k358.all (mm_rowb [] 12) = true := by decide +kernel
theorem mm_e358 : mm_cok mm_M358 := mm_mk [] (List.all_eq_true.mp mm_d358) (List.all_eq_true.mp mm_b358) (List.forall_mem_nil _)
theorem mm_b359 : mm_k359.all (mm_rowb [] 12) = true := by decide +kernel
theorem mm_e359 : mm_cok mm_M359 := mm_mk [] (List.all_eq_true.mp mm_d359) (List.all_eq_true.mp mm_b359) (List.forall_mem_nil _)
theorem mm_b360 : mm_k360.all (mm_rowb [] 12) = true := by decide +kernel
theorem mm_e360 : mm_cok mm_M360 := mm_mk [] (List.all_eq_true.mp mm_d360) (List.all_eq_true.mp mm_b360) (List.forall_mem_nil _)
theorem mm_b361 : mm_k361.all (mm_rowb [] 12) = true := by decide +kernel
theorem mm_e361 : mm_cok mm_M361 := mm_mk [] (List.all_eq_true.mp mm_d361) (List.all_eq_true.mp mm_b361) (List.forall_mem_nil _)
theorem mm_b362 : mm_k362.all (mm_rowb [] 12) = true := by decide +kernel
theorem mm_e362 : mm_cok mm_M362 := mm_mk [] (List.all_eq_true.mp mm_d362) (List.all_eq_true.mp mm_b362) (List.forall_mem_nil _)
theorem mm_b363 : mm_k363.all (mm_rowb [] 12) = true := by decide +kernel
theorem mm_e363 : mm_cok mm_M363 := mm_mk [] (List.all_eq_true.mp mm_d363) (List.all_eq_true.mp mm_b363) (List.forall_mem_nil _)
theorem mm_b364 : mm_k364.all (mm_rowb [] 12) = true := by decide +kernel
theorem mm_e364 : mm_cok mm_M364 := mm_mk [] (List.all_eq_true.mp mm_d364) (List.all_eq_true.mp mm_b364) (List.forall_mem_nil _)
theorem mm_b365 : mm_k365.all (mm_rowb [] 12) = true := by decide +kernel
theorem mm_e365 : mm_cok mm_M365 := mm_mk [] (List.all_eq_true.mp mm_d365) (List.all_eq_true.mp mm_b365) (List.forall_mem_nil _)
theorem mm_b366 : mm_k366.all (mm_rowb [] 12) = true := by decide +kernel
theorem mm_e366 : mm_cok mm_M366 := mm_mk [] (List.all_eq_true.mp mm_d366) (List.all_eq_true.mp mm_b366) (List.forall_mem_nil _)
theorem mm_b367 : mm_k367.all (mm_rowb [] 12) = true := by decide +kernel
theorem mm_e367 : mm_cok mm_M367 := mm_mk [] (List.all_eq_true.mp mm_d367) (List.all_eq_true.mp mm_b367) (List.forall_mem_nil _)
theorem mm_b368 : mm_k368.all (mm_rowb [] 12) = true := by decide +kernel
theorem mm_e368 : mm_cok mm_M368 := mm_mk [] (List.all_eq_true.mp mm_d368) (List.all_eq_true.mp mm_b368) (List.forall_mem_nil _)
theorem mm_b369 : mm_k369.all (mm_rowb [] 12) = true := by decide +kernel
theorem mm_e369 : mm_cok mm_M369 := mm_mk [] (List.all_eq_true.mp mm_d369) (List.all_eq_true.mp mm_b369) (List.forall_mem_nil _)
theorem mm_b370 : mm_k370.all (mm_rowb [] 12) = true := by decide +kernel
theorem mm_e370 : mm_cok mm_M370 := mm_mk [] (List.all_eq_true.mp mm_d370) (List.all_eq_true.mp mm_b370) (List.forall_mem_nil _)
theorem mm_b371 : mm_k371.all (mm_rowb [] 12) = true := by decide +kernel
theorem mm_e371 : mm_cok mm_M371 := mm_mk [] (List.all_eq_true.mp mm_d371) (List.all_eq_true.mp mm_b371) (List.forall_mem_nil _)
