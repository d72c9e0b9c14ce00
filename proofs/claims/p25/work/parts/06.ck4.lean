set_option maxRecDepth 100000 in
theorem ck_180 : pm_ckM pmT pmM_180 = true := by decide +kernel
set_option maxRecDepth 100000 in
theorem ck_181 : pm_ckM pmT pmM_181 = true := by decide +kernel
set_option maxRecDepth 100000 in
theorem ck_182 : pm_ckM pmT pmM_182 = true := by decide +kernel
set_option maxRecDepth 100000 in
theorem ck_183 : pm_ckM pmT pmM_183 = true := by decide +kernel
set_option maxRecDepth 100000 in
theorem ck_184 : pm_ckM pmT pmM_184 = true := by decide +kernel
set_option maxRecDepth 100000 in
theorem ck_185 : pm_ckM pmT pmM_185 = true := by decide +kernel
set_option maxRecDepth 100000 in
theorem ck_186 : pm_ckM pmT pmM_186 = true := by decide +kernel
set_option maxRecDepth 100000 in
theorem ck_187 : pm_ckM pmT pmM_187 = true := by decide +kernel
set_option maxRecDepth 100000 in
theorem ck_188 : pm_ckM pmT pmM_188 = true := by decide +kernel
set_option maxRecDepth 100000 in
theorem ck_189 : pm_ckM pmT pmM_189 = true := by decide +kernel
set_option maxRecDepth 100000 in
theorem ck_190 : pm_ckM pmT pmM_190 = true := by decide +kernel
set_option maxRecDepth 100000 in
theorem ck_191 : pm_ckM pmT pmM_191 = true := by decide +kernel
set_option maxRecDepth 100000 in
theorem ck_192 : pm_ckM pmT pmM_192 = true := by decide +kernel
set_option maxRecDepth 100000 in
theorem ck_193 : pm_ckM pmT pmM_193 = true := by decide +kernel
set_option maxRecDepth 100000 in
theorem ck_194 : pm_ckM pmT pmM_194 = true := by decide +kernel
set_option maxRecDepth 100000 in
theorem ck_195 : pm_ckM pmT pmM_195 = true := by decide +kernel
set_option maxRecDepth 100000 in
theorem ck_196 : pm_ckM pmT pmM_196 = true := by decide +kernel
set_option maxRecDepth 100000 in
theorem ck_197 : pm_ckM pmT pmM_197 = true := by decide +kernel
set_option maxRecDepth 100000 in
theorem ck_198 : pm_ckM pmT pmM_198 = true := by decide +kernel
set_option maxRecDepth 100000 in
theorem ck_199 : pm_ckM pmT pmM_199 = true := by decide +kernel
set_option maxRecDepth 100000 in
theorem ck_200 : pm_ckM pmT pmM_200 = true := by decide +kernel
set_option maxRecDepth 100000 in
theorem ck_201 : pm_ckM pmT pmM_201 = true := by decide +kernel
set_option maxRecDepth 100000 in
theorem ck_202 : pm_ckM pmT pmM_202 = true := by decide +kernel
set_option maxRecDepth 100000 in
theorem ck_203 : pm_ckM pmT pmM_203 = true := by decide +kernel
set_option maxRecDepth 100000 in
theorem ck_204 : pm_ckM pmT pmM_204 = true := by decide +kernel
set_option maxRecDepth 100000 in
theorem ck_205 : pm_ckM pmT pmM_205 = true := by decide +kernel
set_option maxRecDepth 100000 in
theorem ck_206 : pm_ckM pmT pmM_206 = true := by decide +kernel
set_option maxRecDepth 100000 in
theorem ck_207 : pm_ckM pmT pmM_207 = true := by decide +kernel
set_option maxRecDepth 100000 in
theorem ck_208 : pm_ckM pmT pmM_208 = true := by decide +kernel
set_option maxRecDepth 100000 in
theorem ck_209 : pm_ckM pmT pmM_209 = true := by decide +kernel
set_option maxRecDepth 100000 in
theorem ck_210 : pm_ckM pmT pmM_210 = true := by decide +kernel
set_option maxRecDepth 100000 in
theorem ck_211 : pm_ckM pmT pmM_211 = true := by decide +kernel
set_option maxRecDepth 100000 in
theorem ck_212 : pm_ckM pmT pmM_212 = true := by decide +kernel
set_option maxRecDepth 100000 in
theorem ck_213 : pm_ckM pmT pmM_213 = true := by decide +kernel
set_option maxRecDepth 100000 in
theorem ck_214 : pm_ckM pmT pmM_214 = true := by decide +kernel
set_option maxRecDepth 100000 in
theorem ck_215 : pm_ckM pmT pmM_215 = true := by decide +kernel
set_option maxRecDepth 100000 in
theorem ck_216 : pm_ckM pmT pmM_216 = true := by decide +kernel
set_option maxRecDepth 100000 in
theorem ck_217 : pm_ckM pmT pmM_217 = true := by decide +kernel
set_option maxRecDepth 100000 in
theorem ck_218 : pm_ckM pmT pmM_218 = true := by decide +kernel
set_option maxRecDepth 100000 in
theorem ck_219 : pm_ckM pmT pmM_219 = true := by decide +kernel
set_option maxRecDepth 100000 in
theorem ck_220 : pm_ckM pmT pmM_220 = true := by decide +kernel
set_option maxRecDepth 100000 in
theorem ck_221 : pm_ckM pmT pmM_221 = true := by decide +kernel
set_option maxRecDepth 100000 in
theorem ck_222 : pm_ckM pmT pmM_222 = true := by decide +kernel
set_option maxRecDepth 100000 in
theorem ck_223 : pm_ckM pmT pmM_223 = true := by decide +kernel
set_option maxRecDepth 100000 in
theorem ck_224 : pm_ckM pmT pmM_224 = true := by decide +kernel
set_option maxRecDepth 100000 in
theorem ck_225 : pm_ckM pmT pmM_225 = true := by decide +kernel
set_option maxRecDepth 100000 in
theorem ck_226 : pm_ckM pmT pmM_226 = true := by decide +kernel
set_option maxRecDepth 100000 in
theorem ck_227 : pm_ckM pmT pmM_227 = true := by decide +kernel
set_option maxRecDepth 100000 in
theorem ck_228 : pm_ckM pmT pmM_228 = true := by decide +kernel
set_option maxRecDepth 100000 in
theorem ck_229 : pm_ckM pmT pmM_229 = true := by decide +kernel
set_option maxRecDepth 100000 in
theorem ck_230 : pm_ckM pmT pmM_230 = true := by decide +kernel
set_option maxRecDepth 100000 in
theorem ck_231 : pm_ckM pmT pmM_231 = true := by decide +kernel
set_option maxRecDepth 100000 in
theorem ck_232 : pm_ckM pmT pmM_232 = true := by decide +kernel
set_option maxRecDepth 100000 in
theorem ck_233 : pm_ckM pmT pmM_233 = true := by decide +kernel
