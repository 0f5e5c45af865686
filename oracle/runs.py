# Makes src/test/java/NAME.java of files that fuzz.py wrote:  runs.py NAME FILE ...
import os, sys
HERE=os.path.dirname(os.path.abspath(__file__))
runs=[]
for name in sys.argv[2:]:
    for l in open(name).read().split('\n'):
        c,e=l.split('\t')
        if c.startswith('new '): runs.append([])
        runs[-1].append(c+' = '+e)
head=open(os.path.join(HERE,'OracleRuns.head')).read().replace('class OracleRuns','class '+sys.argv[1])
out=[head]
for i,r in enumerate(runs):
    out.append('    private static final String RUN%d = """\n'%i+''.join('        '+l+'\n' for l in r)+'        """;\n\n')
out.append('    public static void main(String[] args) {\n')
for i in range(len(runs)): out.append('        run(%d, RUN%d);\n'%(i,i))
out.append('        System.out.println(wrong == 0 ? calls + " answers are as due" : wrong + " answers are not as due");\n')
out.append('        if (wrong != 0) System.exit(1);\n    }\n}\n')
open(os.path.join(HERE,'..','src','test','java',sys.argv[1]+'.java'),'w').write(''.join(out))
print(len(runs),'runs')
