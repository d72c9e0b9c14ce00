set_option maxRecDepth 100000 in
theorem ck_120 : pm_ckM pmT pmM_120 = true := by decide +kernel
set_option maxRecDepth 100000 in
theorem ck_121 : pm_ckM pmT pmM_121 = true := by decide +kernel
set_option maxRecDepth 100000 in
theorem ck_122 : pm_ckM pmT pmM_122 = true := by decide +kernel
set_option maxRecDepth 100000 in
theorem ck_123 : pm_ckM pmT pmM_123 = true := by decide +kernel
set_option maxRecDepth 100000 in
theorem ck_124 : pm_ckM pmT pmM_124 = true := by decide +kernel
set_option maxRecDepth 100000 in
theorem ck_125 : pm_ckM pmT pmM_125 = true := by decide +kernel
set_option maxRecDepth 100000 in
theorem ck_126 : pm_ckM pmT pmM_126 = true := by decide +kernel
set_option maxRecDepth 100000 in
theorem ck_127 : pm_ckM pmT pmM_127 = true := by decide +kernel
set_option maxRecDepth 100000 in
theorem ck_128 : pm_ckM pmT pmM_128 = true := by decide +kernel
set_option maxRecDepth 100000 in
theorem ck_129 : pm_ckM pmT pmM_129 = true := by decide +kernel
set_option maxRecDepth 100000 in
theorem ck_130 : pm_ckM pmT pmM_130 = true := by decide +kernel
set_option maxRecDepth 100000 in
theorem ck_131 : pm_ckM pmT pmM_131 = true := by decide +kernel
set_option maxRecDepth 100000 in
theorem ck_132 : pm_ckM pmT pmM_132 = true := by decide +kernel
set_option maxRecDepth 100000 in
theorem ck_133 : pm_ckM pmT pmM_133 = true := by decide +kernel
set_option maxRecDepth 100000 in
theorem ck_134 : pm_ckM pmT pmM_134 = true := by decide +kernel
set_option maxRecDepth 100000 in
theorem ck_135 : pm_ckM pmT pmM_135 = true := by decide +kernel
set_option maxRecDepth 100000 in
theorem ck_136 : pm_ckM pmT pmM_136 = true := by decide +kernel
set_option maxRecDepth 100000 in
theorem ck_137 : pm_ckM pmT pmM_137 = true := by decide +kernel
set_option maxRecDepth 100000 in
theorem ck_138 : pm_ckM pmT pmM_138 = true := by decide +kernel
set_option maxRecDepth 100000 in
theorem ck_139 : pm_ckM pmT pmM_139 = true := by decide +kernel
set_option maxRecDepth 100000 in
theorem ck_140 : pm_ckM pmT pmM_140 = true := by decide +kernel
set_option maxRecDepth 100000 in
theorem ck_141 : pm_ckM pmT pmM_141 = true := by decide +kernel
set_option maxRecDepth 100000 in
theorem ck_142 : pm_ckM pmT pmM_142 = true := by decide +kernel
set_option maxRecDepth 100000 in
theorem ck_143 : pm_ckM pmT pmM_143 = true := by decide +kernel
set_option maxRecDepth 100000 in
theorem ck_144 : pm_ckM pmT pmM_144 = true := by decide +kernel
set_option maxRecDepth 100000 in
theorem ck_145 : pm_ckM pmT pmM_145 = true := by decide +kernel
set_option maxRecDepth 100000 in
theorem ck_146 : pm_ckM pmT pmM_146 = true := by decide +kernel
set_option maxRecDepth 100000 in
theorem ck_147 : pm_ckM pmT pmM_147 = true := by decide +kernel
set_option maxRecDepth 100000 in
theorem ck_148 : pm_ckM pmT pmM_148 = true := by decide +kernel
set_option maxRecDepth 100000 in
theorem ck_149 : pm_ckM pmT pmM_149 = true := by decide +kernel
set_option maxRecDepth 100000 in
theorem ck_150 : pm_ckM pmT pmM_150 = true := by decide +kernel
set_option maxRecDepth 100000 in
theorem ck_151 : pm_ckM pmT pmM_151 = true := by decide +kernel
set_option maxRecDepth 100000 in
theorem ck_152 : pm_ckM pmT pmM_152 = true := by decide +kernel
set_option maxRecDepth 100000 in
theorem ck_153 : pm_ckM pmT pmM_153 = true := by decide +kernel
set_option maxRecDepth 100000 in
theorem ck_154 : pm_ckM pmT pmM_154 = true := by decide +kernel
set_option maxRecDepth 100000 in
theorem ck_155 : pm_ckM pmT pmM_155 = true := by decide +kernel
set_option maxRecDepth 100000 in
theorem ck_156 : pm_ckM pmT pmM_156 = true := by decide +kernel
set_option maxRecDepth 100000 in
theorem ck_157 : pm_ckM pmT pmM_157 = true := by decide +kernel
set_option maxRecDepth 100000 in
theorem ck_158 : pm_ckM pmT pmM_158 = true := by decide +kernel
set_option maxRecDepth 100000 in
theorem ck_159 : pm_ckM pmT pmM_159 = true := by decide +kernel
set_option maxRecDepth 100000 in
theorem ck_160 : pm_ckM pmT pmM_160 = true := by decide +kernel
set_option maxRecDepth 100000 in
theorem ck_161 : pm_ckM pmT pmM_161 = true := by decide +kernel
set_option maxRecDepth 100000 in
theorem ck_162 : pm_ckM pmT pmM_162 = true := by decide +kernel
set_option maxRecDepth 100000 in
theorem ck_163 : pm_ckM pmT pmM_163 = true := by decide +kernel
set_option maxRecDepth 100000 in
theorem ck_164 : pm_ckM pmT pmM_164 = true := by decide +kernel
set_option maxRecDepth 100000 in
theorem ck_165 : pm_ckM pmT pmM_165 = true := by decide +kernel
set_option maxRecDepth 100000 in
theorem ck_166 : pm_ckM pmT pmM_166 = true := by decide +kernel
set_option maxRecDepth 100000 in
theorem ck_167 : pm_ckM pmT pmM_167 = true := by decide +kernel
set_option maxRecDepth 100000 in
theorem ck_168 : pm_ckM pmT pmM_168 = true := by decide +kernel
set_option maxRecDepth 100000 in
theorem ck_169 : pm_ckM pmT pmM_169 = true := by decide +kernel
set_option maxRecDepth 100000 in
theorem ck_170 : pm_ckM pmT pmM_170 = true := by decide +kernel
set_option maxRecDepth 100000 in
theorem ck_171 : pm_ckM pmT pmM_171 = true := by decide +kernel
set_option maxRecDepth 100000 in
theorem ck_172 : pm_ckM pmT pmM_172 = true := by decide +kernel
set_option maxRecDepth 100000 in
theorem ck_173 : pm_ckM pmT pmM_173 = true := by decide +kernel
set_option maxRecDepth 100000 in
theorem ck_174 : pm_ckM pmT pmM_174 = true := by decide +kernel
set_option maxRecDepth 100000 in
theorem ck_175 : pm_ckM pmT pmM_175 = true := by decide +kernel
set_option maxRecDepth 100000 in
theorem ck_176 : pm_ckM pmT pmM_176 = true := by decide +kernel
set_option maxRecDepth 100000 in
theorem ck_177 : pm_ckM pmT pmM_177 = true := by decide +kernel
set_option maxRecDepth 100000 in
theorem ck_178 : pm_ckM pmT pmM_178 = true := by decide +kernel
set_option maxRecDepth 100000 in
theorem ck_179 : pm_ckM pmT pmM_179 = true := by decide +kernel
