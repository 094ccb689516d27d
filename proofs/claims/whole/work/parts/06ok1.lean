set_option maxRecDepth 20000 in
theorem ok_98 : qgood 98 := ⟨by decide +kernel, rfl, by decide +kernel⟩
set_option maxRecDepth 20000 in
theorem ok_99 : qgood 99 := ⟨by decide +kernel, rfl, by decide +kernel⟩
set_option maxRecDepth 20000 in
theorem ok_100 : qgood 100 := ⟨by decide +kernel, rfl, by decide +kernel⟩
set_option maxRecDepth 20000 in
theorem ok_101 : qgood 101 := ⟨by decide +kernel, rfl, by decide +kernel⟩
set_option maxRecDepth 20000 in
theorem ok_102 : qgood 102 := ⟨by decide +kernel, rfl, by decide +kernel⟩
set_option maxRecDepth 20000 in
theorem ok_103 : qgood 103 := ⟨by decide +kernel, rfl, by decide +kernel⟩
set_option maxRecDepth 20000 in
theorem ok_104 : qgood 104 := ⟨by decide +kernel, rfl, by decide +kernel⟩
set_option maxRecDepth 20000 in
theorem ok_105 : qgood 105 := ⟨by decide +kernel, rfl, by decide +kernel⟩
set_option maxRecDepth 20000 in
theorem ok_106 : qgood 106 := ⟨by decide +kernel, rfl, by decide +kernel⟩
set_option maxRecDepth 20000 in
theorem ok_107 : qgood 107 := ⟨by decide +kernel, rfl, by decide +kernel⟩
set_option maxRecDepth 20000 in
theorem ok_109 : qgood 109 := ⟨by decide +kernel, rfl, by decide +kernel⟩
set_option maxRecDepth 20000 in
theorem ok_110 : qgood 110 := ⟨by decide +kernel, rfl, by decide +kernel⟩
set_option maxRecDepth 20000 in
theorem ok_111 : qgood 111 := ⟨by decide +kernel, rfl, by decide +kernel⟩
set_option maxRecDepth 20000 in
theorem ok_112 : qgood 112 := ⟨by decide +kernel, rfl, by decide +kernel⟩
set_option maxRecDepth 20000 in
theorem ok_113 : qgood 113 := ⟨by decide +kernel, rfl, by decide +kernel⟩
set_option maxRecDepth 20000 in
theorem ok_114 : qgood 114 := ⟨by decide +kernel, rfl, by decide +kernel⟩
set_option maxRecDepth 20000 in
theorem ok_115 : qgood 115 := ⟨by decide +kernel, rfl, by decide +kernel⟩
set_option maxRecDepth 20000 in
theorem ok_116 : qgood 116 := ⟨by decide +kernel, rfl, by decide +kernel⟩
set_option maxRecDepth 20000 in
theorem ok_117 : qgood 117 := ⟨by decide +kernel, rfl, by decide +kernel⟩
set_option maxRecDepth 20000 in
theorem ok_118 : qgood 118 := ⟨by decide +kernel, rfl, by decide +kernel⟩
set_option maxRecDepth 20000 in
theorem ok_120 : qgood 120 := ⟨by decide +kernel, rfl, by decide +kernel⟩
set_option maxRecDepth 20000 in
theorem ok_121 : qgood 121 := ⟨by decide +kernel, rfl, by decide +kernel⟩
set_option maxRecDepth 20000 in
theorem ok_122 : qgood 122 := ⟨by decide +kernel, rfl, by decide +kernel⟩
set_option maxRecDepth 20000 in
theorem ok_123 : qgood 123 := ⟨by decide +kernel, rfl, by decide +kernel⟩
set_option maxRecDepth 20000 in
theorem ok_124 : qgood 124 := ⟨by decide +kernel, rfl, by decide +kernel⟩
set_option maxRecDepth 20000 in
theorem ok_125 : qgood 125 := ⟨by decide +kernel, rfl, by decide +kernel⟩
set_option maxRecDepth 20000 in
theorem ok_127 : qgood 127 := ⟨by decide +kernel, rfl, by decide +kernel⟩
set_option maxRecDepth 20000 in
theorem ok_128 : qgood 128 := ⟨by decide +kernel, rfl, by decide +kernel⟩
set_option maxRecDepth 20000 in
theorem ok_129 : qgood 129 := ⟨by decide +kernel, rfl, by decide +kernel⟩
set_option maxRecDepth 20000 in
theorem ok_130 : qgood 130 := ⟨by decide +kernel, rfl, by decide +kernel⟩
set_option maxRecDepth 20000 in
theorem ok_131 : qgood 131 := ⟨by decide +kernel, rfl, by decide +kernel⟩
set_option maxRecDepth 20000 in
theorem ok_132 : qgood 132 := ⟨by decide +kernel, rfl, by decide +kernel⟩
set_option maxRecDepth 20000 in
theorem ok_133 : qgood 133 := ⟨by decide +kernel, rfl, by decide +kernel⟩
set_option maxRecDepth 20000 in
theorem ok_134 : qgood 134 := ⟨by decide +kernel, rfl, by decide +kernel⟩
set_option maxRecDepth 20000 in
theorem ok_135 : qgood 135 := ⟨by decide +kernel, rfl, by decide +kernel⟩
set_option maxRecDepth 20000 in
theorem ok_136 : qgood 136 := ⟨by decide +kernel, rfl, by decide +kernel⟩
set_option maxRecDepth 20000 in
theorem ok_138 : qgood 138 := ⟨by decide +kernel, rfl, by decide +kernel⟩
set_option maxRecDepth 20000 in
theorem ok_139 : qgood 139 := ⟨by decide +kernel, rfl, by decide +kernel⟩
set_option maxRecDepth 20000 in
theorem ok_140 : qgood 140 := ⟨by decide +kernel, rfl, by decide +kernel⟩
set_option maxRecDepth 20000 in
theorem ok_141 : qgood 141 := ⟨by decide +kernel, rfl, by decide +kernel⟩
set_option maxRecDepth 20000 in
theorem ok_142 : qgood 142 := ⟨by decide +kernel, rfl, by decide +kernel⟩
set_option maxRecDepth 20000 in
theorem ok_143 : qgood 143 := ⟨by decide +kernel, rfl, by decide +kernel⟩
set_option maxRecDepth 20000 in
theorem ok_144 : qgood 144 := ⟨by decide +kernel, rfl, by decide +kernel⟩
set_option maxRecDepth 20000 in
theorem ok_145 : qgood 145 := ⟨by decide +kernel, rfl, by decide +kernel⟩
set_option maxRecDepth 20000 in
theorem ok_146 : qgood 146 := ⟨by decide +kernel, rfl, by decide +kernel⟩
set_option maxRecDepth 20000 in
theorem ok_147 : qgood 147 := ⟨by decide +kernel, rfl, by decide +kernel⟩
set_option maxRecDepth 20000 in
theorem ok_148 : qgood 148 := ⟨by decide +kernel, rfl, by decide +kernel⟩
set_option maxRecDepth 20000 in
theorem ok_149 : qgood 149 := ⟨by decide +kernel, rfl, by decide +kernel⟩
set_option maxRecDepth 20000 in
theorem ok_150 : qgood 150 := ⟨by decide +kernel, rfl, by decide +kernel⟩
set_option maxRecDepth 20000 in
theorem ok_151 : qgood 151 := ⟨by decide +kernel, rfl, by decide +kernel⟩
set_option maxRecDepth 20000 in
theorem ok_152 : qgood 152 := ⟨by decide +kernel, rfl, by decide +kernel⟩
set_option maxRecDepth 20000 in
theorem ok_153 : qgood 153 := ⟨by decide +kernel, rfl, by decide +kernel⟩
set_option maxRecDepth 20000 in
theorem ok_154 : qgood 154 := ⟨by decide +kernel, rfl, by decide +kernel⟩
set_option maxRecDepth 20000 in
theorem ok_155 : qgood 155 := ⟨by decide +kernel, rfl, by decide +kernel⟩
set_option maxRecDepth 20000 in
theorem ok_156 : qgood 156 := ⟨by decide +kernel, rfl, by decide +kernel⟩
set_option maxRecDepth 20000 in
theorem ok_157 : qgood 157 := ⟨by decide +kernel, rfl, by decide +kernel⟩
set_option maxRecDepth 20000 in
theorem ok_158 : qgood 158 := ⟨by decide +kernel, rfl, by decide +kernel⟩
set_option maxRecDepth 20000 in
theorem ok_159 : qgood 159 := ⟨by decide +kernel, rfl, by decide +kernel⟩
set_option maxRecDepth 20000 in
theorem ok_160 : qgood 160 := ⟨by decide +kernel, rfl, by decide +kernel⟩
set_option maxRecDepth 20000 in
theorem ok_161 : qgood 161 := ⟨by decide +kernel, rfl, by decide +kernel⟩
set_option maxRecDepth 20000 in
theorem ok_162 : qgood 162 := ⟨by decide +kernel, rfl, by decide +kernel⟩
set_option maxRecDepth 20000 in
theorem ok_163 : qgood 163 := ⟨by decide +kernel, rfl, by decide +kernel⟩
set_option maxRecDepth 20000 in
theorem ok_164 : qgood 164 := ⟨by decide +kernel, rfl, by decide +kernel⟩
set_option maxRecDepth 20000 in
theorem ok_165 : qgood 165 := ⟨by decide +kernel, rfl, by decide +kernel⟩
set_option maxRecDepth 20000 in
theorem ok_166 : qgood 166 := ⟨by decide +kernel, rfl, by decide +kernel⟩
set_option maxRecDepth 20000 in
theorem ok_167 : qgood 167 := ⟨by decide +kernel, rfl, by decide +kernel⟩
set_option maxRecDepth 20000 in
theorem ok_168 : qgood 168 := ⟨by decide +kernel, rfl, by decide +kernel⟩
set_option maxRecDepth 20000 in
theorem ok_169 : qgood 169 := ⟨by decide +kernel, rfl, by decide +kernel⟩
set_option maxRecDepth 20000 in
theorem ok_170 : qgood 170 := ⟨by decide +kernel, rfl, by decide +kernel⟩
set_option maxRecDepth 20000 in
theorem ok_171 : qgood 171 := ⟨by decide +kernel, rfl, by decide +kernel⟩
set_option maxRecDepth 20000 in
theorem ok_172 : qgood 172 := ⟨by decide +kernel, rfl, by decide +kernel⟩
set_option maxRecDepth 20000 in
theorem ok_173 : qgood 173 := ⟨by decide +kernel, rfl, by decide +kernel⟩
set_option maxRecDepth 20000 in
theorem ok_174 : qgood 174 := ⟨by decide +kernel, rfl, by decide +kernel⟩
set_option maxRecDepth 20000 in
theorem ok_175 : qgood 175 := ⟨by decide +kernel, rfl, by decide +kernel⟩
set_option maxRecDepth 20000 in
theorem ok_176 : qgood 176 := ⟨by decide +kernel, rfl, by decide +kernel⟩
set_option maxRecDepth 20000 in
theorem ok_177 : qgood 177 := ⟨by decide +kernel, rfl, by decide +kernel⟩
set_option maxRecDepth 20000 in
theorem ok_178 : qgood 178 := ⟨by decide +kernel, rfl, by decide +kernel⟩
set_option maxRecDepth 20000 in
theorem ok_179 : qgood 179 := ⟨by decide +kernel, rfl, by decide +kernel⟩
set_option maxRecDepth 20000 in
theorem ok_180 : qgood 180 := ⟨by decide +kernel, rfl, by decide +kernel⟩
set_option maxRecDepth 20000 in
theorem ok_181 : qgood 181 := ⟨by decide +kernel, rfl, by decide +kernel⟩
set_option maxRecDepth 20000 in
theorem ok_182 : qgood 182 := ⟨by decide +kernel, rfl, by decide +kernel⟩
set_option maxRecDepth 20000 in
theorem ok_183 : qgood 183 := ⟨by decide +kernel, rfl, by decide +kernel⟩
set_option maxRecDepth 20000 in
theorem ok_184 : qgood 184 := ⟨by decide +kernel, rfl, by decide +kernel⟩
set_option maxRecDepth 20000 in
theorem ok_185 : qgood 185 := ⟨by decide +kernel, rfl, by decide +kernel⟩
set_option maxRecDepth 20000 in
theorem ok_186 : qgood 186 := ⟨by decide +kernel, rfl, by decide +kernel⟩
set_option maxRecDepth 20000 in
theorem ok_187 : qgood 187 := ⟨by decide +kernel, rfl, by decide +kernel⟩
set_option maxRecDepth 20000 in
theorem ok_188 : qgood 188 := ⟨by decide +kernel, rfl, by decide +kernel⟩
set_option maxRecDepth 20000 in
theorem ok_189 : qgood 189 := ⟨by decide +kernel, rfl, by decide +kernel⟩
set_option maxRecDepth 20000 in
theorem ok_190 : qgood 190 := ⟨by decide +kernel, rfl, by decide +kernel⟩
set_option maxRecDepth 20000 in
theorem ok_191 : qgood 191 := ⟨by decide +kernel, rfl, by decide +kernel⟩
