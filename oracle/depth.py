# How deep calls go in the class, from its compiled files:  depth.py DIRECTORY
import subprocess,re,sys,glob,os
d=sys.argv[1]
cls=[f for f in glob.glob(d+'/AlgebraicReals*.class') if 'Runs' not in f and 'Test' not in f and not f.endswith('Promises.class')]
g={}
for f in cls:
    o=subprocess.run(['javap','-c','-p',f],capture_output=True,text=True).stdout
    c=os.path.basename(f)[:-6]; m=None
    for l in o.split('\n'):
        x=re.match(r'^  (?:\S.*?)?([\w$]+)\((.*)\)(?: throws .*)?;$',l)
        if x and not l.startswith('   '):
            n=x.group(1); n='<init>' if n.split('$')[-1]==c.split('$')[-1] or n==c else n
            m=c+'.'+n; g.setdefault(m,set()); continue
        y=re.search(r'// (?:Interface)?Method ([\w$/]+\.)?"?([\w<>$]+)"?:',l)
        if y and m:
            k=(y.group(1) or c+'.')[:-1]
            g[m].add(k.replace('/','.')+'.'+y.group(2))
own=set(g)
sys.setrecursionlimit(10000)
# SCC
idx={};low={};st=[];on=set();comp={};cnt=[0]
def sc(v):
    idx[v]=low[v]=cnt[0];cnt[0]+=1;st.append(v);on.add(v)
    for w in g[v]:
        if w not in own: continue
        if w not in idx: sc(w);low[v]=min(low[v],low[w])
        elif w in on: low[v]=min(low[v],idx[w])
    if low[v]==idx[v]:
        k=[]
        while True:
            w=st.pop();on.discard(w);k.append(w)
            if w==v: break
        for w in k: comp[w]=tuple(sorted(k))
for v in own:
    if v not in idx: sc(v)
memo={}
def depth(v,lib):
    k=comp[v]
    if (k,lib) in memo: return memo[(k,lib)]
    best=(1,[v])
    for x in k:
        for w in g[x]:
            if w in own and comp[w]!=k:
                d_,p=depth(w,lib)
                if d_+1>best[0]: best=(d_+1,[v]+p)
            elif w not in own and lib and best[0]<2: best=(2,[v,w])
    memo[(k,lib)]=best
    return best
for lib in (False,True):
    r=sorted(((depth(v,lib)) for v in own),key=lambda t:-t[0])[:4]
    for d_,p in r: print('lib' if lib else 'own',d_,' -> '.join(q.replace('AlgebraicReals$','') for q in p))
for k in set(comp.values()):
    if len(k)>1: print('recursive',k)
for v in own:
    if v in g[v]: print('self-recursive',v)
print('library:',sorted({w for v in own for w in g[v] if w not in own}))
print('unused:', [v for v in own if not any(v in g[w] for w in own) and '.<' not in v and v.split('.')[0]!='AlgebraicReals'])
