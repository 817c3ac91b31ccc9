-- each method's rows are its code's (printed by wip/whole/gen/emit.py)
set_option maxRecDepth 100000 in
theorem rvCk_110 : rvCkM 110 = true := by decide +kernel
set_option maxRecDepth 100000 in
theorem rvCk_111 : rvCkM 111 = true := by decide +kernel
set_option maxRecDepth 100000 in
theorem rvCk_112 : rvCkM 112 = true := by decide +kernel
set_option maxRecDepth 100000 in
theorem rvCk_113 : rvCkM 113 = true := by decide +kernel
set_option maxRecDepth 100000 in
theorem rvCk_114 : rvCkM 114 = true := by decide +kernel
set_option maxRecDepth 100000 in
theorem rvCk_115 : rvCkM 115 = true := by decide +kernel
set_option maxRecDepth 100000 in
theorem rvCk_116 : rvCkM 116 = true := by decide +kernel
set_option maxRecDepth 100000 in
theorem rvCk_117 : rvCkM 117 = true := by decide +kernel
set_option maxRecDepth 100000 in
theorem rvCk_118 : rvCkM 118 = true := by decide +kernel
set_option maxRecDepth 100000 in
theorem rvCk_119 : rvCkM 119 = true := by decide +kernel
set_option maxRecDepth 100000 in
theorem rvCk_120 : rvCkM 120 = true := by decide +kernel
set_option maxRecDepth 100000 in
theorem rvCk_121 : rvCkM 121 = true := by decide +kernel
set_option maxRecDepth 100000 in
theorem rvCk_122 : rvCkM 122 = true := by decide +kernel
set_option maxRecDepth 100000 in
theorem rvCk_123 : rvCkM 123 = true := by decide +kernel
set_option maxRecDepth 100000 in
theorem rvCk_124 : rvCkM 124 = true := by decide +kernel
set_option maxRecDepth 100000 in
theorem rvCk_125 : rvCkM 125 = true := by decide +kernel
set_option maxRecDepth 100000 in
theorem rvCk_126 : rvCkM 126 = true := by decide +kernel
set_option maxRecDepth 100000 in
theorem rvCk_127 : rvCkM 127 = true := by decide +kernel
set_option maxRecDepth 100000 in
theorem rvCk_128 : rvCkM 128 = true := by decide +kernel
set_option maxRecDepth 100000 in
theorem rvCk_129 : rvCkM 129 = true := by decide +kernel
set_option maxRecDepth 100000 in
theorem rvCk_130 : rvCkM 130 = true := by decide +kernel
set_option maxRecDepth 100000 in
theorem rvCk_131 : rvCkM 131 = true := by decide +kernel
set_option maxRecDepth 100000 in
theorem rvCk_132 : rvCkM 132 = true := by decide +kernel
set_option maxRecDepth 100000 in
theorem rvCk_133 : rvCkM 133 = true := by decide +kernel
set_option maxRecDepth 100000 in
theorem rvCk_134 : rvCkM 134 = true := by decide +kernel
set_option maxRecDepth 100000 in
theorem rvCk_135 : rvCkM 135 = true := by decide +kernel
set_option maxRecDepth 100000 in
theorem rvCk_136 : rvCkM 136 = true := by decide +kernel
set_option maxRecDepth 100000 in
theorem rvCk_137 : rvCkM 137 = true := by decide +kernel
set_option maxRecDepth 100000 in
theorem rvCk_138 : rvCkM 138 = true := by decide +kernel
set_option maxRecDepth 100000 in
theorem rvCk_139 : rvCkM 139 = true := by decide +kernel
set_option maxRecDepth 100000 in
theorem rvCk_140 : rvCkM 140 = true := by decide +kernel
set_option maxRecDepth 100000 in
theorem rvCk_141 : rvCkM 141 = true := by decide +kernel
set_option maxRecDepth 100000 in
theorem rvCk_142 : rvCkM 142 = true := by decide +kernel
set_option maxRecDepth 100000 in
theorem rvCk_143 : rvCkM 143 = true := by decide +kernel
set_option maxRecDepth 100000 in
theorem rvCk_144 : rvCkM 144 = true := by decide +kernel
set_option maxRecDepth 100000 in
theorem rvCk_145 : rvCkM 145 = true := by decide +kernel
set_option maxRecDepth 100000 in
theorem rvCk_146 : rvCkM 146 = true := by decide +kernel
set_option maxRecDepth 100000 in
theorem rvCk_147 : rvCkM 147 = true := by decide +kernel
set_option maxRecDepth 100000 in
theorem rvCk_148 : rvCkM 148 = true := by decide +kernel
set_option maxRecDepth 100000 in
theorem rvCk_149 : rvCkM 149 = true := by decide +kernel
set_option maxRecDepth 100000 in
theorem rvCk_150 : rvCkM 150 = true := by decide +kernel
set_option maxRecDepth 100000 in
theorem rvCk_151 : rvCkM 151 = true := by decide +kernel
set_option maxRecDepth 100000 in
theorem rvCk_152 : rvCkM 152 = true := by decide +kernel
set_option maxRecDepth 100000 in
theorem rvCk_153 : rvCkM 153 = true := by decide +kernel
set_option maxRecDepth 100000 in
theorem rvCk_154 : rvCkM 154 = true := by decide +kernel
set_option maxRecDepth 100000 in
theorem rvCk_155 : rvCkM 155 = true := by decide +kernel
set_option maxRecDepth 100000 in
theorem rvCk_156 : rvCkM 156 = true := by decide +kernel
set_option maxRecDepth 100000 in
theorem rvCk_157 : rvCkM 157 = true := by decide +kernel
set_option maxRecDepth 100000 in
theorem rvCk_158 : rvCkM 158 = true := by decide +kernel
set_option maxRecDepth 100000 in
theorem rvCk_159 : rvCkM 159 = true := by decide +kernel
set_option maxRecDepth 100000 in
theorem rvCk_160 : rvCkM 160 = true := by decide +kernel
set_option maxRecDepth 100000 in
theorem rvCk_161 : rvCkM 161 = true := by decide +kernel
set_option maxRecDepth 100000 in
theorem rvCk_162 : rvCkM 162 = true := by decide +kernel
set_option maxRecDepth 100000 in
theorem rvCk_163 : rvCkM 163 = true := by decide +kernel
set_option maxRecDepth 100000 in
theorem rvCk_164 : rvCkM 164 = true := by decide +kernel
set_option maxRecDepth 100000 in
theorem rvCk_165 : rvCkM 165 = true := by decide +kernel
set_option maxRecDepth 100000 in
theorem rvCk_166 : rvCkM 166 = true := by decide +kernel
set_option maxRecDepth 100000 in
theorem rvCk_167 : rvCkM 167 = true := by decide +kernel
set_option maxRecDepth 100000 in
theorem rvCk_168 : rvCkM 168 = true := by decide +kernel
set_option maxRecDepth 100000 in
theorem rvCk_169 : rvCkM 169 = true := by decide +kernel
set_option maxRecDepth 100000 in
theorem rvCk_170 : rvCkM 170 = true := by decide +kernel
set_option maxRecDepth 100000 in
theorem rvCk_171 : rvCkM 171 = true := by decide +kernel
set_option maxRecDepth 100000 in
theorem rvCk_172 : rvCkM 172 = true := by decide +kernel
set_option maxRecDepth 100000 in
theorem rvCk_173 : rvCkM 173 = true := by decide +kernel
set_option maxRecDepth 100000 in
theorem rvCk_174 : rvCkM 174 = true := by decide +kernel
set_option maxRecDepth 100000 in
theorem rvCk_175 : rvCkM 175 = true := by decide +kernel
set_option maxRecDepth 100000 in
theorem rvCk_176 : rvCkM 176 = true := by decide +kernel
set_option maxRecDepth 100000 in
theorem rvCk_177 : rvCkM 177 = true := by decide +kernel
set_option maxRecDepth 100000 in
theorem rvCk_178 : rvCkM 178 = true := by decide +kernel
set_option maxRecDepth 100000 in
theorem rvCk_179 : rvCkM 179 = true := by decide +kernel
set_option maxRecDepth 100000 in
theorem rvCk_180 : rvCkM 180 = true := by decide +kernel
set_option maxRecDepth 100000 in
theorem rvCk_181 : rvCkM 181 = true := by decide +kernel
set_option maxRecDepth 100000 in
theorem rvCk_182 : rvCkM 182 = true := by decide +kernel
set_option maxRecDepth 100000 in
theorem rvCk_183 : rvCkM 183 = true := by decide +kernel
set_option maxRecDepth 100000 in
theorem rvCk_184 : rvCkM 184 = true := by decide +kernel
set_option maxRecDepth 100000 in
theorem rvCk_185 : rvCkM 185 = true := by decide +kernel
set_option maxRecDepth 100000 in
theorem rvCk_186 : rvCkM 186 = true := by decide +kernel
set_option maxRecDepth 100000 in
theorem rvCk_187 : rvCkM 187 = true := by decide +kernel
set_option maxRecDepth 100000 in
theorem rvCk_188 : rvCkM 188 = true := by decide +kernel
set_option maxRecDepth 100000 in
theorem rvCk_189 : rvCkM 189 = true := by decide +kernel
set_option maxRecDepth 100000 in
theorem rvCk_190 : rvCkM 190 = true := by decide +kernel
