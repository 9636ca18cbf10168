theorem dX11_chain_156 : decode cX11_chain 156 = .ok (.ifCond .eq 10, 3) := by decide +kernel
theorem dX11_chain_159 : decode cX11_chain 159 = .ok (.aload_n 0, 1) := by decide +kernel
theorem dX11_chain_160 : decode cX11_chain 160 = .ok (.iload 7, 2) := by decide +kernel
theorem dX11_chain_162 : decode cX11_chain 162 = .ok (.iload_n 1, 1) := by decide +kernel
theorem dX11_chain_163 : decode cX11_chain 163 = .ok (.invokevirtual 252, 3) := by decide +kernel
theorem dX11_chain_166 : decode cX11_chain 166 = .ok (.iinc 4 1, 3) := by decide +kernel
theorem dX11_chain_169 : decode cX11_chain 169 = .ok (.goto (-130), 3) := by decide +kernel
theorem dX11_chain_172 : decode cX11_chain 172 = .ok (.iload 4, 2) := by decide +kernel
theorem dX11_chain_174 : decode cX11_chain 174 = .ok (.ireturn, 1) := by decide +kernel
